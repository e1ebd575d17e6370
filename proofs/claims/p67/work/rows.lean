section
-- ===== PART A: goes FIRST, ahead of the names: the tables' words, and 'selects' of the private methods out of them =====
/-- a private method of a class that the tables say can be made, by its rows of tables_1 -/
def lw_okq (q : MethodName × Nat) : Prop := (q.1.cls ≠ "java/lang/invoke/MethodHandle" ∧ q.1.cls ≠ "java/lang/invoke/VarHandle") ∧ Cond.instantiable q.1.cls q.2 ∈ tables_1 ∧ Cond.privateMethod q.1 ∈ tables_1 ∧ Cond.instanceMethod q.1 ∈ tables_1
theorem lw_p0 : lw_okq (⟨"LowWaterAuction$InputText", "addByte", "(I)V"⟩, 6) := ⟨⟨by decide +kernel, by decide +kernel⟩, List.mem_of_getElem? (i := 251) (by decide +kernel), List.mem_of_getElem? (i := 412) (by decide +kernel), List.mem_of_getElem? (i := 413) (by decide +kernel)⟩
theorem lw_p1 : lw_okq (⟨"LowWaterAuction$Parser", "begin", "()V"⟩, 7) := ⟨⟨by decide +kernel, by decide +kernel⟩, List.mem_of_getElem? (i := 245) (by decide +kernel), List.mem_of_getElem? (i := 420) (by decide +kernel), List.mem_of_getElem? (i := 421) (by decide +kernel)⟩
theorem lw_p2 : lw_okq (⟨"LowWaterAuction$InputText", "kindAt", "(I)I"⟩, 6) := ⟨⟨by decide +kernel, by decide +kernel⟩, List.mem_of_getElem? (i := 251) (by decide +kernel), List.mem_of_getElem? (i := 432) (by decide +kernel), List.mem_of_getElem? (i := 433) (by decide +kernel)⟩
theorem lw_p3 : lw_okq (⟨"LowWaterAuction$Market", "endBidding", "()V"⟩, 17) := ⟨⟨by decide +kernel, by decide +kernel⟩, List.mem_of_getElem? (i := 39) (by decide +kernel), List.mem_of_getElem? (i := 444) (by decide +kernel), List.mem_of_getElem? (i := 445) (by decide +kernel)⟩
theorem lw_p4 : lw_okq (⟨"LowWaterAuction$Parser", "readMarket", "(LLowWaterAuction$Market;)Z"⟩, 7) := ⟨⟨by decide +kernel, by decide +kernel⟩, List.mem_of_getElem? (i := 245) (by decide +kernel), List.mem_of_getElem? (i := 448) (by decide +kernel), List.mem_of_getElem? (i := 449) (by decide +kernel)⟩
theorem lw_p5 : lw_okq (⟨"LowWaterAuction$Parser", "takeWord", "(Ljava/lang/String;)Z"⟩, 7) := ⟨⟨by decide +kernel, by decide +kernel⟩, List.mem_of_getElem? (i := 245) (by decide +kernel), List.mem_of_getElem? (i := 453) (by decide +kernel), List.mem_of_getElem? (i := 454) (by decide +kernel)⟩
theorem lw_p6 : lw_okq (⟨"LowWaterAuction$Parser", "fail", "(I)Z"⟩, 7) := ⟨⟨by decide +kernel, by decide +kernel⟩, List.mem_of_getElem? (i := 245) (by decide +kernel), List.mem_of_getElem? (i := 461) (by decide +kernel), List.mem_of_getElem? (i := 462) (by decide +kernel)⟩
theorem lw_p7 : lw_okq (⟨"LowWaterAuction$Parser", "takeNumber", "(II)Z"⟩, 7) := ⟨⟨by decide +kernel, by decide +kernel⟩, List.mem_of_getElem? (i := 245) (by decide +kernel), List.mem_of_getElem? (i := 466) (by decide +kernel), List.mem_of_getElem? (i := 467) (by decide +kernel)⟩
theorem lw_p8 : lw_okq (⟨"LowWaterAuction$Parser", "isInRange", "(II)Z"⟩, 7) := ⟨⟨by decide +kernel, by decide +kernel⟩, List.mem_of_getElem? (i := 245) (by decide +kernel), List.mem_of_getElem? (i := 470) (by decide +kernel), List.mem_of_getElem? (i := 471) (by decide +kernel)⟩
theorem lw_p9 : lw_okq (⟨"LowWaterAuction$Parser", "takeSemicolon", "()Z"⟩, 7) := ⟨⟨by decide +kernel, by decide +kernel⟩, List.mem_of_getElem? (i := 245) (by decide +kernel), List.mem_of_getElem? (i := 474) (by decide +kernel), List.mem_of_getElem? (i := 475) (by decide +kernel)⟩
theorem lw_p10 : lw_okq (⟨"LowWaterAuction$Parser", "readBuyers", "(LLowWaterAuction$Market;)Z"⟩, 7) := ⟨⟨by decide +kernel, by decide +kernel⟩, List.mem_of_getElem? (i := 245) (by decide +kernel), List.mem_of_getElem? (i := 478) (by decide +kernel), List.mem_of_getElem? (i := 479) (by decide +kernel)⟩
theorem lw_p11 : lw_okq (⟨"LowWaterAuction$Parser", "readBuyer", "(LLowWaterAuction$Market;)Z"⟩, 7) := ⟨⟨by decide +kernel, by decide +kernel⟩, List.mem_of_getElem? (i := 245) (by decide +kernel), List.mem_of_getElem? (i := 482) (by decide +kernel), List.mem_of_getElem? (i := 483) (by decide +kernel)⟩
theorem lw_p12 : lw_okq (⟨"LowWaterAuction$Parser", "readBarrels", "(LLowWaterAuction$Market;)Z"⟩, 7) := ⟨⟨by decide +kernel, by decide +kernel⟩, List.mem_of_getElem? (i := 245) (by decide +kernel), List.mem_of_getElem? (i := 495) (by decide +kernel), List.mem_of_getElem? (i := 496) (by decide +kernel)⟩
theorem lw_p13 : lw_okq (⟨"LowWaterAuction$Parser", "readBarrel", "(LLowWaterAuction$Command;)Z"⟩, 7) := ⟨⟨by decide +kernel, by decide +kernel⟩, List.mem_of_getElem? (i := 245) (by decide +kernel), List.mem_of_getElem? (i := 500) (by decide +kernel), List.mem_of_getElem? (i := 501) (by decide +kernel)⟩
theorem lw_p14 : lw_okq (⟨"LowWaterAuction$Barrel", "emptyOut", "()V"⟩, 10) := ⟨⟨by decide +kernel, by decide +kernel⟩, List.mem_of_getElem? (i := 98) (by decide +kernel), List.mem_of_getElem? (i := 516) (by decide +kernel), List.mem_of_getElem? (i := 517) (by decide +kernel)⟩
theorem lw_p15 : lw_okq (⟨"LowWaterAuction$Barrel", "addEel", "(I)V"⟩, 10) := ⟨⟨by decide +kernel, by decide +kernel⟩, List.mem_of_getElem? (i := 98) (by decide +kernel), List.mem_of_getElem? (i := 520) (by decide +kernel), List.mem_of_getElem? (i := 521) (by decide +kernel)⟩
def lw_privs_1 : List (MethodName × Nat) := [(⟨"LowWaterAuction$InputText", "addByte", "(I)V"⟩, 6), (⟨"LowWaterAuction$Parser", "begin", "()V"⟩, 7), (⟨"LowWaterAuction$InputText", "kindAt", "(I)I"⟩, 6), (⟨"LowWaterAuction$Market", "endBidding", "()V"⟩, 17), (⟨"LowWaterAuction$Parser", "readMarket", "(LLowWaterAuction$Market;)Z"⟩, 7), (⟨"LowWaterAuction$Parser", "takeWord", "(Ljava/lang/String;)Z"⟩, 7), (⟨"LowWaterAuction$Parser", "fail", "(I)Z"⟩, 7), (⟨"LowWaterAuction$Parser", "takeNumber", "(II)Z"⟩, 7), (⟨"LowWaterAuction$Parser", "isInRange", "(II)Z"⟩, 7), (⟨"LowWaterAuction$Parser", "takeSemicolon", "()Z"⟩, 7), (⟨"LowWaterAuction$Parser", "readBuyers", "(LLowWaterAuction$Market;)Z"⟩, 7), (⟨"LowWaterAuction$Parser", "readBuyer", "(LLowWaterAuction$Market;)Z"⟩, 7), (⟨"LowWaterAuction$Parser", "readBarrels", "(LLowWaterAuction$Market;)Z"⟩, 7), (⟨"LowWaterAuction$Parser", "readBarrel", "(LLowWaterAuction$Command;)Z"⟩, 7), (⟨"LowWaterAuction$Barrel", "emptyOut", "()V"⟩, 10), (⟨"LowWaterAuction$Barrel", "addEel", "(I)V"⟩, 10)]
theorem lw_r1 : ∀ q ∈ lw_privs_1, lw_okq q := List.forall_mem_cons.mpr ⟨lw_p0, List.forall_mem_cons.mpr ⟨lw_p1, List.forall_mem_cons.mpr ⟨lw_p2, List.forall_mem_cons.mpr ⟨lw_p3, List.forall_mem_cons.mpr ⟨lw_p4, List.forall_mem_cons.mpr ⟨lw_p5, List.forall_mem_cons.mpr ⟨lw_p6, List.forall_mem_cons.mpr ⟨lw_p7, List.forall_mem_cons.mpr ⟨lw_p8, List.forall_mem_cons.mpr ⟨lw_p9, List.forall_mem_cons.mpr ⟨lw_p10, List.forall_mem_cons.mpr ⟨lw_p11, List.forall_mem_cons.mpr ⟨lw_p12, List.forall_mem_cons.mpr ⟨lw_p13, List.forall_mem_cons.mpr ⟨lw_p14, List.forall_mem_cons.mpr ⟨lw_p15, fun _ h => absurd h List.not_mem_nil⟩⟩⟩⟩⟩⟩⟩⟩⟩⟩⟩⟩⟩⟩⟩⟩
theorem lw_p16 : lw_okq (⟨"LowWaterAuction$Market", "enqueue", "(I)V"⟩, 17) := ⟨⟨by decide +kernel, by decide +kernel⟩, List.mem_of_getElem? (i := 39) (by decide +kernel), List.mem_of_getElem? (i := 531) (by decide +kernel), List.mem_of_getElem? (i := 532) (by decide +kernel)⟩
theorem lw_p17 : lw_okq (⟨"java/lang/Throwable", "fillInStackTrace", "(I)Ljava/lang/Throwable;"⟩, 6) := ⟨⟨by decide +kernel, by decide +kernel⟩, List.mem_of_getElem? (i := 812) (by decide +kernel), List.mem_of_getElem? (i := 810) (by decide +kernel), List.mem_of_getElem? (i := 811) (by decide +kernel)⟩
theorem lw_p18 : lw_okq (⟨"LowWaterAuction", "barrelAt", "(I)LLowWaterAuction$Barrel;"⟩, 8) := ⟨⟨by decide +kernel, by decide +kernel⟩, List.mem_of_getElem? (i := 31) (by decide +kernel), List.mem_of_getElem? (i := 940) (by decide +kernel), List.mem_of_getElem? (i := 941) (by decide +kernel)⟩
theorem lw_p19 : lw_okq (⟨"LowWaterAuction", "requireBarrel", "(I)V"⟩, 8) := ⟨⟨by decide +kernel, by decide +kernel⟩, List.mem_of_getElem? (i := 31) (by decide +kernel), List.mem_of_getElem? (i := 944) (by decide +kernel), List.mem_of_getElem? (i := 945) (by decide +kernel)⟩
theorem lw_p20 : lw_okq (⟨"LowWaterAuction", "buyerAt", "(I)LLowWaterAuction$Buyer;"⟩, 8) := ⟨⟨by decide +kernel, by decide +kernel⟩, List.mem_of_getElem? (i := 31) (by decide +kernel), List.mem_of_getElem? (i := 1010) (by decide +kernel), List.mem_of_getElem? (i := 1011) (by decide +kernel)⟩
theorem lw_p21 : lw_okq (⟨"LowWaterAuction", "requireBuyer", "(I)V"⟩, 8) := ⟨⟨by decide +kernel, by decide +kernel⟩, List.mem_of_getElem? (i := 31) (by decide +kernel), List.mem_of_getElem? (i := 1014) (by decide +kernel), List.mem_of_getElem? (i := 1015) (by decide +kernel)⟩
theorem lw_p22 : lw_okq (⟨"LowWaterAuction$Market", "dequeue", "(I)V"⟩, 17) := ⟨⟨by decide +kernel, by decide +kernel⟩, List.mem_of_getElem? (i := 39) (by decide +kernel), List.mem_of_getElem? (i := 1121) (by decide +kernel), List.mem_of_getElem? (i := 1122) (by decide +kernel)⟩
theorem lw_p23 : lw_okq (⟨"LowWaterAuction$Market", "isIdle", "()Z"⟩, 17) := ⟨⟨by decide +kernel, by decide +kernel⟩, List.mem_of_getElem? (i := 39) (by decide +kernel), List.mem_of_getElem? (i := 1189) (by decide +kernel), List.mem_of_getElem? (i := 1190) (by decide +kernel)⟩
theorem lw_p24 : lw_okq (⟨"LowWaterAuction$Market", "passOneMinute", "()Z"⟩, 17) := ⟨⟨by decide +kernel, by decide +kernel⟩, List.mem_of_getElem? (i := 39) (by decide +kernel), List.mem_of_getElem? (i := 1193) (by decide +kernel), List.mem_of_getElem? (i := 1194) (by decide +kernel)⟩
theorem lw_p25 : lw_okq (⟨"LowWaterAuction$Market", "closeBarrel", "()Z"⟩, 17) := ⟨⟨by decide +kernel, by decide +kernel⟩, List.mem_of_getElem? (i := 39) (by decide +kernel), List.mem_of_getElem? (i := 1201) (by decide +kernel), List.mem_of_getElem? (i := 1202) (by decide +kernel)⟩
theorem lw_p26 : lw_okq (⟨"LowWaterAuction$Market", "sell", "(LLowWaterAuction$Barrel;LLowWaterAuction$Buyer;)V"⟩, 17) := ⟨⟨by decide +kernel, by decide +kernel⟩, List.mem_of_getElem? (i := 39) (by decide +kernel), List.mem_of_getElem? (i := 1205) (by decide +kernel), List.mem_of_getElem? (i := 1206) (by decide +kernel)⟩
theorem lw_p27 : lw_okq (⟨"LowWaterAuction$Market", "sendBack", "(I)V"⟩, 17) := ⟨⟨by decide +kernel, by decide +kernel⟩, List.mem_of_getElem? (i := 39) (by decide +kernel), List.mem_of_getElem? (i := 1209) (by decide +kernel), List.mem_of_getElem? (i := 1210) (by decide +kernel)⟩
theorem lw_p28 : lw_okq (⟨"LowWaterAuction$Market", "openFirst", "()V"⟩, 17) := ⟨⟨by decide +kernel, by decide +kernel⟩, List.mem_of_getElem? (i := 39) (by decide +kernel), List.mem_of_getElem? (i := 1213) (by decide +kernel), List.mem_of_getElem? (i := 1214) (by decide +kernel)⟩
theorem lw_p29 : lw_okq (⟨"LowWaterAuction", "foresee", "(II)V"⟩, 8) := ⟨⟨by decide +kernel, by decide +kernel⟩, List.mem_of_getElem? (i := 31) (by decide +kernel), List.mem_of_getElem? (i := 1293) (by decide +kernel), List.mem_of_getElem? (i := 1294) (by decide +kernel)⟩
def lw_privs_2 : List (MethodName × Nat) := [(⟨"LowWaterAuction$Market", "enqueue", "(I)V"⟩, 17), (⟨"java/lang/Throwable", "fillInStackTrace", "(I)Ljava/lang/Throwable;"⟩, 6), (⟨"LowWaterAuction", "barrelAt", "(I)LLowWaterAuction$Barrel;"⟩, 8), (⟨"LowWaterAuction", "requireBarrel", "(I)V"⟩, 8), (⟨"LowWaterAuction", "buyerAt", "(I)LLowWaterAuction$Buyer;"⟩, 8), (⟨"LowWaterAuction", "requireBuyer", "(I)V"⟩, 8), (⟨"LowWaterAuction$Market", "dequeue", "(I)V"⟩, 17), (⟨"LowWaterAuction$Market", "isIdle", "()Z"⟩, 17), (⟨"LowWaterAuction$Market", "passOneMinute", "()Z"⟩, 17), (⟨"LowWaterAuction$Market", "closeBarrel", "()Z"⟩, 17), (⟨"LowWaterAuction$Market", "sell", "(LLowWaterAuction$Barrel;LLowWaterAuction$Buyer;)V"⟩, 17), (⟨"LowWaterAuction$Market", "sendBack", "(I)V"⟩, 17), (⟨"LowWaterAuction$Market", "openFirst", "()V"⟩, 17), (⟨"LowWaterAuction", "foresee", "(II)V"⟩, 8)]
theorem lw_r2 : ∀ q ∈ lw_privs_2, lw_okq q := List.forall_mem_cons.mpr ⟨lw_p16, List.forall_mem_cons.mpr ⟨lw_p17, List.forall_mem_cons.mpr ⟨lw_p18, List.forall_mem_cons.mpr ⟨lw_p19, List.forall_mem_cons.mpr ⟨lw_p20, List.forall_mem_cons.mpr ⟨lw_p21, List.forall_mem_cons.mpr ⟨lw_p22, List.forall_mem_cons.mpr ⟨lw_p23, List.forall_mem_cons.mpr ⟨lw_p24, List.forall_mem_cons.mpr ⟨lw_p25, List.forall_mem_cons.mpr ⟨lw_p26, List.forall_mem_cons.mpr ⟨lw_p27, List.forall_mem_cons.mpr ⟨lw_p28, List.forall_mem_cons.mpr ⟨lw_p29, fun _ h => absurd h List.not_mem_nil⟩⟩⟩⟩⟩⟩⟩⟩⟩⟩⟩⟩⟩⟩
def lw_privs : List (MethodName × Nat) := lw_privs_1 ++ (lw_privs_2)
def lw_tbl : List Cond := k2_sels lw_privs ++ tables_1
theorem lw_privs_ok : ∀ q ∈ lw_privs, lw_okq q := by
  show ∀ q ∈ lw_privs_1 ++ (lw_privs_2), lw_okq q
  exact List.forall_mem_append.mpr ⟨lw_r1, lw_r2⟩
/-- the streams that the claim lets the run draw from -/
abbrev lw_cs : List Choice := [Jvm.Choice.named "NaN.bits"]
theorem lw_bits : nanBits ∈ lw_cs := by first | decide | exact List.mem_cons_self | simp [lw_cs, nanBits]
end
section
def RX0 : String := "LowWaterAuction$1"
def TX0 : u_T := fun k => match k with
  | _ => ("", "", "", false)
def tyX0 : Nat → FieldType := fun k => match k with
  | _ => .int
abbrev wsX00 : List Cond := u_ws RX0 TX0 0
theorem nmX0 : ∀ a, a < 0 → ∀ b, b < 0 → a ≠ b → (TX0 a).2.1 ≠ (TX0 b).2.1 := by decide +kernel
theorem tyX0_ok : ∀ k, k < 0 → parseFieldDescriptor (TX0 k).2.2.1 = some (tyX0 k) := by decide +kernel
def RX1 : String := "LowWaterAuction$Barrel"
def TX1 : u_T := fun k => match k with
  | 0 => ("LowWaterAuction$Barrel", "lengths", "[I", true)
  | 1 => ("LowWaterAuction$Barrel", "eels", "I", false)
  | 2 => ("LowWaterAuction$Barrel", "total", "I", false)
  | 3 => ("LowWaterAuction$Barrel", "greatest", "I", false)
  | 4 => ("LowWaterAuction$Barrel", "longEels", "I", false)
  | 5 => ("LowWaterAuction$Barrel", "reserve", "I", false)
  | 6 => ("LowWaterAuction$Barrel", "returns", "I", false)
  | 7 => ("LowWaterAuction$Barrel", "state", "I", false)
  | 8 => ("LowWaterAuction$Barrel", "buyer", "I", false)
  | _ => ("LowWaterAuction$Barrel", "price", "I", false)
def tyX1 : Nat → FieldType := fun k => match k with
  | 0 => .array .int
  | 1 => .int
  | 2 => .int
  | 3 => .int
  | 4 => .int
  | 5 => .int
  | 6 => .int
  | 7 => .int
  | 8 => .int
  | _ => .int
abbrev wsX10 : List Cond := u_ws RX1 TX1 10
theorem nmX1 : ∀ a, a < 10 → ∀ b, b < 10 → a ≠ b → (TX1 a).2.1 ≠ (TX1 b).2.1 := by decide +kernel
theorem tyX1_ok : ∀ k, k < 10 → parseFieldDescriptor (TX1 k).2.2.1 = some (tyX1 k) := by decide +kernel
abbrev cX1_init : ByteArray := prog_3_method_1_code
def yX1_init : MethodName := ⟨RX1, "<init>", "()V"⟩
abbrev cX1_fill : ByteArray := prog_3_method_2_code
def yX1_fill : MethodName := ⟨RX1, "fill", "([III)V"⟩
abbrev cX1_keepFirst : ByteArray := prog_3_method_3_code
def yX1_keepFirst : MethodName := ⟨RX1, "keepFirst", "(I)V"⟩
abbrev cX1_beginWaiting : ByteArray := prog_3_method_4_code
def yX1_beginWaiting : MethodName := ⟨RX1, "beginWaiting", "(I)V"⟩
abbrev cX1_lengthAtRank : ByteArray := prog_3_method_5_code
def yX1_lengthAtRank : MethodName := ⟨RX1, "lengthAtRank", "(I)I"⟩
abbrev cX1_copyFrom : ByteArray := prog_3_method_6_code
def yX1_copyFrom : MethodName := ⟨RX1, "copyFrom", "(LLowWaterAuction$Barrel;)V"⟩
abbrev cX1_emptyOut : ByteArray := prog_3_method_7_code
def yX1_emptyOut : MethodName := ⟨RX1, "emptyOut", "()V"⟩
abbrev cX1_addEel : ByteArray := prog_3_method_8_code
def yX1_addEel : MethodName := ⟨RX1, "addEel", "(I)V"⟩
def RX2 : String := "LowWaterAuction$Buyer"
def TX2 : u_T := fun k => match k with
  | 0 => ("LowWaterAuction$Buyer", "purse", "I", false)
  | 1 => ("LowWaterAuction$Buyer", "style", "I", false)
  | 2 => ("LowWaterAuction$Buyer", "factor", "I", false)
  | 3 => ("LowWaterAuction$Buyer", "bought", "I", false)
  | _ => ("LowWaterAuction$Buyer", "nods", "I", false)
def tyX2 : Nat → FieldType := fun k => match k with
  | 0 => .int
  | 1 => .int
  | 2 => .int
  | 3 => .int
  | _ => .int
abbrev wsX20 : List Cond := u_ws RX2 TX2 5
theorem nmX2 : ∀ a, a < 5 → ∀ b, b < 5 → a ≠ b → (TX2 a).2.1 ≠ (TX2 b).2.1 := by decide +kernel
theorem tyX2_ok : ∀ k, k < 5 → parseFieldDescriptor (TX2 k).2.2.1 = some (tyX2 k) := by decide +kernel
abbrev cX2_init : ByteArray := prog_4_method_1_code
def yX2_init : MethodName := ⟨RX2, "<init>", "()V"⟩
abbrev cX2_begin : ByteArray := prog_4_method_2_code
def yX2_begin : MethodName := ⟨RX2, "begin", "(III)V"⟩
abbrev cX2_valueOf : ByteArray := prog_4_method_3_code
def yX2_valueOf : MethodName := ⟨RX2, "valueOf", "(LLowWaterAuction$Barrel;)D"⟩
abbrev cX2_copyFrom : ByteArray := prog_4_method_4_code
def yX2_copyFrom : MethodName := ⟨RX2, "copyFrom", "(LLowWaterAuction$Buyer;)V"⟩
def RX3 : String := "LowWaterAuction$Command"
def TX3 : u_T := fun k => match k with
  | 0 => ("LowWaterAuction$Command", "verb", "LLowWaterAuction$Verb;", false)
  | 1 => ("LowWaterAuction$Command", "first", "I", false)
  | 2 => ("LowWaterAuction$Command", "second", "I", false)
  | 3 => ("LowWaterAuction$Command", "lengths", "[I", true)
  | _ => ("LowWaterAuction$Command", "eels", "I", false)
def tyX3 : Nat → FieldType := fun k => match k with
  | 0 => .object "LowWaterAuction$Verb"
  | 1 => .int
  | 2 => .int
  | 3 => .array .int
  | _ => .int
abbrev wsX30 : List Cond := u_ws RX3 TX3 5
theorem nmX3 : ∀ a, a < 5 → ∀ b, b < 5 → a ≠ b → (TX3 a).2.1 ≠ (TX3 b).2.1 := by decide +kernel
theorem tyX3_ok : ∀ k, k < 5 → parseFieldDescriptor (TX3 k).2.2.1 = some (tyX3 k) := by decide +kernel
abbrev cX3_init : ByteArray := prog_5_method_1_code
def yX3_init : MethodName := ⟨RX3, "<init>", "()V"⟩
def RX4 : String := "LowWaterAuction$History"
def TX4 : u_T := fun k => match k with
  | 0 => ("LowWaterAuction$History", "states", "[LLowWaterAuction$Market;", true)
  | 1 => ("LowWaterAuction$History", "next", "I", false)
  | _ => ("LowWaterAuction$History", "count", "I", false)
def tyX4 : Nat → FieldType := fun k => match k with
  | 0 => .array (.object "LowWaterAuction$Market")
  | 1 => .int
  | _ => .int
abbrev wsX40 : List Cond := u_ws RX4 TX4 3
theorem nmX4 : ∀ a, a < 3 → ∀ b, b < 3 → a ≠ b → (TX4 a).2.1 ≠ (TX4 b).2.1 := by decide +kernel
theorem tyX4_ok : ∀ k, k < 3 → parseFieldDescriptor (TX4 k).2.2.1 = some (tyX4 k) := by decide +kernel
abbrev cX4_init : ByteArray := prog_6_method_1_code
def yX4_init : MethodName := ⟨RX4, "<init>", "()V"⟩
abbrev cX4_remember : ByteArray := prog_6_method_2_code
def yX4_remember : MethodName := ⟨RX4, "remember", "(LLowWaterAuction$Market;)V"⟩
def RX5 : String := "LowWaterAuction$InputText"
def TX5 : u_T := fun k => match k with
  | 0 => ("LowWaterAuction$InputText", "bytes", "[I", true)
  | 1 => ("LowWaterAuction$InputText", "size", "I", false)
  | 2 => ("LowWaterAuction$InputText", "kind", "I", false)
  | 3 => ("LowWaterAuction$InputText", "start", "I", false)
  | 4 => ("LowWaterAuction$InputText", "end", "I", false)
  | _ => ("LowWaterAuction$InputText", "value", "I", false)
def tyX5 : Nat → FieldType := fun k => match k with
  | 0 => .array .int
  | 1 => .int
  | 2 => .int
  | 3 => .int
  | 4 => .int
  | _ => .int
abbrev wsX50 : List Cond := u_ws RX5 TX5 6
theorem nmX5 : ∀ a, a < 6 → ∀ b, b < 6 → a ≠ b → (TX5 a).2.1 ≠ (TX5 b).2.1 := by decide +kernel
theorem tyX5_ok : ∀ k, k < 6 → parseFieldDescriptor (TX5 k).2.2.1 = some (tyX5 k) := by decide +kernel
abbrev cX5_init : ByteArray := prog_7_method_1_code
def yX5_init : MethodName := ⟨RX5, "<init>", "()V"⟩
abbrev cX5_addFour : ByteArray := prog_7_method_2_code
def yX5_addFour : MethodName := ⟨RX5, "addFour", "(I)V"⟩
abbrev cX5_addSigns : ByteArray := prog_7_method_3_code
def yX5_addSigns : MethodName := ⟨RX5, "addSigns", "(Ljava/lang/String;)V"⟩
abbrev cX5_restart : ByteArray := prog_7_method_4_code
def yX5_restart : MethodName := ⟨RX5, "restart", "()V"⟩
abbrev cX5_advance : ByteArray := prog_7_method_5_code
def yX5_advance : MethodName := ⟨RX5, "advance", "()V"⟩
abbrev cX5_isWord : ByteArray := prog_7_method_6_code
def yX5_isWord : MethodName := ⟨RX5, "isWord", "(Ljava/lang/String;)Z"⟩
abbrev cX5_addByte : ByteArray := prog_7_method_7_code
def yX5_addByte : MethodName := ⟨RX5, "addByte", "(I)V"⟩
abbrev cX5_kindAt : ByteArray := prog_7_method_8_code
def yX5_kindAt : MethodName := ⟨RX5, "kindAt", "(I)I"⟩
def RX6 : String := "LowWaterAuction$Market"
def TX6 : u_T := fun k => match k with
  | 0 => ("LowWaterAuction$Market", "tide", "LLowWaterAuction$Tide;", true)
  | 1 => ("LowWaterAuction$Market", "patience", "I", false)
  | 2 => ("LowWaterAuction$Market", "step", "I", false)
  | 3 => ("LowWaterAuction$Market", "fee", "I", false)
  | 4 => ("LowWaterAuction$Market", "sellerCoins", "I", false)
  | 5 => ("LowWaterAuction$Market", "houseCoins", "I", false)
  | 6 => ("LowWaterAuction$Market", "coinsPutIn", "I", false)
  | 7 => ("LowWaterAuction$Market", "buyers", "[LLowWaterAuction$Buyer;", true)
  | 8 => ("LowWaterAuction$Market", "buyerCount", "I", false)
  | 9 => ("LowWaterAuction$Market", "barrels", "[LLowWaterAuction$Barrel;", true)
  | 10 => ("LowWaterAuction$Market", "barrelCount", "I", false)
  | 11 => ("LowWaterAuction$Market", "queue", "[I", true)
  | 12 => ("LowWaterAuction$Market", "queueLength", "I", false)
  | 13 => ("LowWaterAuction$Market", "openBarrel", "I", false)
  | 14 => ("LowWaterAuction$Market", "bid", "I", false)
  | 15 => ("LowWaterAuction$Market", "leader", "I", false)
  | _ => ("LowWaterAuction$Market", "quiet", "I", false)
def tyX6 : Nat → FieldType := fun k => match k with
  | 0 => .object "LowWaterAuction$Tide"
  | 1 => .int
  | 2 => .int
  | 3 => .int
  | 4 => .int
  | 5 => .int
  | 6 => .int
  | 7 => .array (.object "LowWaterAuction$Buyer")
  | 8 => .int
  | 9 => .array (.object "LowWaterAuction$Barrel")
  | 10 => .int
  | 11 => .array .int
  | 12 => .int
  | 13 => .int
  | 14 => .int
  | 15 => .int
  | _ => .int
abbrev wsX60 : List Cond := u_ws RX6 TX6 17
theorem nmX6 : ∀ a, a < 17 → ∀ b, b < 17 → a ≠ b → (TX6 a).2.1 ≠ (TX6 b).2.1 := by decide +kernel
theorem tyX6_ok : ∀ k, k < 17 → parseFieldDescriptor (TX6 k).2.2.1 = some (tyX6 k) := by decide +kernel
abbrev cX6_init : ByteArray := prog_8_method_1_code
def yX6_init : MethodName := ⟨RX6, "<init>", "()V"⟩
abbrev cX6_copyFrom : ByteArray := prog_8_method_2_code
def yX6_copyFrom : MethodName := ⟨RX6, "copyFrom", "(LLowWaterAuction$Market;)V"⟩
abbrev cX6_beginEmpty : ByteArray := prog_8_method_3_code
def yX6_beginEmpty : MethodName := ⟨RX6, "beginEmpty", "()V"⟩
abbrev cX6_hasBarrel : ByteArray := prog_8_method_4_code
def yX6_hasBarrel : MethodName := ⟨RX6, "hasBarrel", "(I)Z"⟩
abbrev cX6_hasBuyer : ByteArray := prog_8_method_5_code
def yX6_hasBuyer : MethodName := ⟨RX6, "hasBuyer", "(I)Z"⟩
abbrev cX6_hasRoom : ByteArray := prog_8_method_6_code
def yX6_hasRoom : MethodName := ⟨RX6, "hasRoom", "()Z"⟩
abbrev cX6_isWaiting : ByteArray := prog_8_method_7_code
def yX6_isWaiting : MethodName := ⟨RX6, "isWaiting", "(I)Z"⟩
abbrev cX6_canCut : ByteArray := prog_8_method_8_code
def yX6_canCut : MethodName := ⟨RX6, "canCut", "(II)Z"⟩
abbrev cX6_takeBuyer : ByteArray := prog_8_method_9_code
def yX6_takeBuyer : MethodName := ⟨RX6, "takeBuyer", "(III)V"⟩
abbrev cX6_takeBarrel : ByteArray := prog_8_method_10_code
def yX6_takeBarrel : MethodName := ⟨RX6, "takeBarrel", "(I[III)I"⟩
abbrev cX6_cut : ByteArray := prog_8_method_11_code
def yX6_cut : MethodName := ⟨RX6, "cut", "(II)I"⟩
abbrev cX6_takeAway : ByteArray := prog_8_method_12_code
def yX6_takeAway : MethodName := ⟨RX6, "takeAway", "(I)V"⟩
abbrev cX6_putCoins : ByteArray := prog_8_method_13_code
def yX6_putCoins : MethodName := ⟨RX6, "putCoins", "(II)V"⟩
abbrev cX6_coinsInPurses : ByteArray := prog_8_method_14_code
def yX6_coinsInPurses : MethodName := ⟨RX6, "coinsInPurses", "()I"⟩
abbrev cX6_keenest : ByteArray := prog_8_method_15_code
def yX6_keenest : MethodName := ⟨RX6, "keenest", "(LLowWaterAuction$Barrel;)I"⟩
abbrev cX6_withFee : ByteArray := prog_8_method_16_code
def yX6_withFee : MethodName := ⟨RX6, "withFee", "(I)I"⟩
abbrev cX6_nextPrice : ByteArray := prog_8_method_17_code
def yX6_nextPrice : MethodName := ⟨RX6, "nextPrice", "()I"⟩
abbrev cX6_refusal : ByteArray := prog_8_method_18_code
def yX6_refusal : MethodName := ⟨RX6, "refusal", "(I)I"⟩
abbrev cX6_whoNods : ByteArray := prog_8_method_19_code
def yX6_whoNods : MethodName := ⟨RX6, "whoNods", "()I"⟩
abbrev cX6_takeNod : ByteArray := prog_8_method_20_code
def yX6_takeNod : MethodName := ⟨RX6, "takeNod", "(I)V"⟩
abbrev cX6_letPass : ByteArray := prog_8_method_21_code
def yX6_letPass : MethodName := ⟨RX6, "letPass", "(I)I"⟩
abbrev cX6_isIdle : ByteArray := prog_8_method_23_code
def yX6_isIdle : MethodName := ⟨RX6, "isIdle", "()Z"⟩
abbrev cX6_passOneMinute : ByteArray := prog_8_method_24_code
def yX6_passOneMinute : MethodName := ⟨RX6, "passOneMinute", "()Z"⟩
abbrev cX6_openFirst : ByteArray := prog_8_method_25_code
def yX6_openFirst : MethodName := ⟨RX6, "openFirst", "()V"⟩
abbrev cX6_closeBarrel : ByteArray := prog_8_method_26_code
def yX6_closeBarrel : MethodName := ⟨RX6, "closeBarrel", "()Z"⟩
abbrev cX6_sell : ByteArray := prog_8_method_27_code
def yX6_sell : MethodName := ⟨RX6, "sell", "(LLowWaterAuction$Barrel;LLowWaterAuction$Buyer;)V"⟩
abbrev cX6_sendBack : ByteArray := prog_8_method_28_code
def yX6_sendBack : MethodName := ⟨RX6, "sendBack", "(I)V"⟩
abbrev cX6_endBidding : ByteArray := prog_8_method_29_code
def yX6_endBidding : MethodName := ⟨RX6, "endBidding", "()V"⟩
abbrev cX6_enqueue : ByteArray := prog_8_method_30_code
def yX6_enqueue : MethodName := ⟨RX6, "enqueue", "(I)V"⟩
abbrev cX6_dequeue : ByteArray := prog_8_method_31_code
def yX6_dequeue : MethodName := ⟨RX6, "dequeue", "(I)V"⟩
def RX7 : String := "LowWaterAuction$Parser"
def TX7 : u_T := fun k => match k with
  | 0 => ("LowWaterAuction$Parser", "input", "LLowWaterAuction$InputText;", true)
  | 1 => ("LowWaterAuction$Parser", "commands", "[LLowWaterAuction$Command;", true)
  | 2 => ("LowWaterAuction$Parser", "barrelLine", "LLowWaterAuction$Command;", true)
  | 3 => ("LowWaterAuction$Parser", "commandCount", "I", false)
  | 4 => ("LowWaterAuction$Parser", "number", "I", false)
  | 5 => ("LowWaterAuction$Parser", "faultCode", "I", false)
  | _ => ("LowWaterAuction$Parser", "faultPlace", "I", false)
def tyX7 : Nat → FieldType := fun k => match k with
  | 0 => .object "LowWaterAuction$InputText"
  | 1 => .array (.object "LowWaterAuction$Command")
  | 2 => .object "LowWaterAuction$Command"
  | 3 => .int
  | 4 => .int
  | 5 => .int
  | _ => .int
abbrev wsX70 : List Cond := u_ws RX7 TX7 7
theorem nmX7 : ∀ a, a < 7 → ∀ b, b < 7 → a ≠ b → (TX7 a).2.1 ≠ (TX7 b).2.1 := by decide +kernel
theorem tyX7_ok : ∀ k, k < 7 → parseFieldDescriptor (TX7 k).2.2.1 = some (tyX7 k) := by decide +kernel
abbrev cX7_init : ByteArray := prog_9_method_1_code
def yX7_init : MethodName := ⟨RX7, "<init>", "()V"⟩
abbrev cX7_readSetup : ByteArray := prog_9_method_2_code
def yX7_readSetup : MethodName := ⟨RX7, "readSetup", "(LLowWaterAuction$Market;)Z"⟩
abbrev cX7_begin : ByteArray := prog_9_method_4_code
def yX7_begin : MethodName := ⟨RX7, "begin", "()V"⟩
abbrev cX7_readMarket : ByteArray := prog_9_method_5_code
def yX7_readMarket : MethodName := ⟨RX7, "readMarket", "(LLowWaterAuction$Market;)Z"⟩
abbrev cX7_readBuyers : ByteArray := prog_9_method_6_code
def yX7_readBuyers : MethodName := ⟨RX7, "readBuyers", "(LLowWaterAuction$Market;)Z"⟩
abbrev cX7_readBuyer : ByteArray := prog_9_method_7_code
def yX7_readBuyer : MethodName := ⟨RX7, "readBuyer", "(LLowWaterAuction$Market;)Z"⟩
abbrev cX7_readBarrels : ByteArray := prog_9_method_8_code
def yX7_readBarrels : MethodName := ⟨RX7, "readBarrels", "(LLowWaterAuction$Market;)Z"⟩
abbrev cX7_readBarrel : ByteArray := prog_9_method_9_code
def yX7_readBarrel : MethodName := ⟨RX7, "readBarrel", "(LLowWaterAuction$Command;)Z"⟩
abbrev cX7_takeWord : ByteArray := prog_9_method_14_code
def yX7_takeWord : MethodName := ⟨RX7, "takeWord", "(Ljava/lang/String;)Z"⟩
abbrev cX7_takeSemicolon : ByteArray := prog_9_method_15_code
def yX7_takeSemicolon : MethodName := ⟨RX7, "takeSemicolon", "()Z"⟩
abbrev cX7_takeNumber : ByteArray := prog_9_method_16_code
def yX7_takeNumber : MethodName := ⟨RX7, "takeNumber", "(II)Z"⟩
abbrev cX7_isInRange : ByteArray := prog_9_method_17_code
def yX7_isInRange : MethodName := ⟨RX7, "isInRange", "(II)Z"⟩
abbrev cX7_fail : ByteArray := prog_9_method_18_code
def yX7_fail : MethodName := ⟨RX7, "fail", "(I)Z"⟩
def RX8 : String := "LowWaterAuction$Tide"
def TX8 : u_T := fun k => match k with
  | 0 => ("LowWaterAuction$Tide", "period", "I", false)
  | 1 => ("LowWaterAuction$Tide", "low", "I", false)
  | _ => ("LowWaterAuction$Tide", "minute", "I", false)
def tyX8 : Nat → FieldType := fun k => match k with
  | 0 => .int
  | 1 => .int
  | _ => .int
abbrev wsX80 : List Cond := u_ws RX8 TX8 3
theorem nmX8 : ∀ a, a < 3 → ∀ b, b < 3 → a ≠ b → (TX8 a).2.1 ≠ (TX8 b).2.1 := by decide +kernel
theorem tyX8_ok : ∀ k, k < 3 → parseFieldDescriptor (TX8 k).2.2.1 = some (tyX8 k) := by decide +kernel
abbrev cX8_init : ByteArray := prog_10_method_1_code
def yX8_init : MethodName := ⟨RX8, "<init>", "()V"⟩
abbrev cX8_isLow : ByteArray := prog_10_method_2_code
def yX8_isLow : MethodName := ⟨RX8, "isLow", "()Z"⟩
abbrev cX8_hornBlows : ByteArray := prog_10_method_3_code
def yX8_hornBlows : MethodName := ⟨RX8, "hornBlows", "()Z"⟩
abbrev cX8_untilHorn : ByteArray := prog_10_method_4_code
def yX8_untilHorn : MethodName := ⟨RX8, "untilHorn", "()I"⟩
abbrev cX8_copyFrom : ByteArray := prog_10_method_5_code
def yX8_copyFrom : MethodName := ⟨RX8, "copyFrom", "(LLowWaterAuction$Tide;)V"⟩
def RX9 : String := "LowWaterAuction$Verb"
def TX9 : u_T := fun k => match k with
  | _ => ("", "", "", false)
def tyX9 : Nat → FieldType := fun k => match k with
  | _ => .int
abbrev wsX90 : List Cond := u_ws RX9 TX9 0
theorem nmX9 : ∀ a, a < 0 → ∀ b, b < 0 → a ≠ b → (TX9 a).2.1 ≠ (TX9 b).2.1 := by decide +kernel
theorem tyX9_ok : ∀ k, k < 0 → parseFieldDescriptor (TX9 k).2.2.1 = some (tyX9 k) := by decide +kernel
def RX10 : String := "LowWaterAuction"
def TX10 : u_T := fun k => match k with
  | 0 => ("LowWaterAuction", "market", "LLowWaterAuction$Market;", true)
  | 1 => ("LowWaterAuction", "scratch", "LLowWaterAuction$Market;", true)
  | 2 => ("LowWaterAuction", "history", "LLowWaterAuction$History;", true)
  | 3 => ("LowWaterAuction", "snapshots", "[LLowWaterAuction$Market;", true)
  | 4 => ("LowWaterAuction", "isSaved", "[Z", true)
  | 5 => ("LowWaterAuction", "parser", "LLowWaterAuction$Parser;", true)
  | 6 => ("LowWaterAuction", "evenLengths", "[I", true)
  | _ => ("LowWaterAuction", "output", "Ljava/lang/StringBuilder;", true)
def tyX10 : Nat → FieldType := fun k => match k with
  | 0 => .object "LowWaterAuction$Market"
  | 1 => .object "LowWaterAuction$Market"
  | 2 => .object "LowWaterAuction$History"
  | 3 => .array (.object "LowWaterAuction$Market")
  | 4 => .array .boolean
  | 5 => .object "LowWaterAuction$Parser"
  | 6 => .array .int
  | _ => .object "java/lang/StringBuilder"
abbrev wsX100 : List Cond := u_ws RX10 TX10 8
theorem nmX10 : ∀ a, a < 8 → ∀ b, b < 8 → a ≠ b → (TX10 a).2.1 ≠ (TX10 b).2.1 := by decide +kernel
theorem tyX10_ok : ∀ k, k < 8 → parseFieldDescriptor (TX10 k).2.2.1 = some (tyX10 k) := by decide +kernel
abbrev cX10_init : ByteArray := prog_1_method_1_code
def yX10_init : MethodName := ⟨RX10, "<init>", "()V"⟩
abbrev cX10_append : ByteArray := prog_1_method_2_code
def yX10_append : MethodName := ⟨RX10, "append", "(IIIII)I"⟩
abbrev cX10_truncate : ByteArray := prog_1_method_3_code
def yX10_truncate : MethodName := ⟨RX10, "truncate", "(I)I"⟩
abbrev cX10_loadSetup : ByteArray := prog_1_method_6_code
def yX10_loadSetup : MethodName := ⟨RX10, "loadSetup", "()I"⟩
abbrev cX10_nod : ByteArray := prog_1_method_8_code
def yX10_nod : MethodName := ⟨RX10, "nod", "(I)I"⟩
abbrev cX10_passMinutes : ByteArray := prog_1_method_9_code
def yX10_passMinutes : MethodName := ⟨RX10, "passMinutes", "(I)I"⟩
abbrev cX10_addBarrel : ByteArray := prog_1_method_10_code
def yX10_addBarrel : MethodName := ⟨RX10, "addBarrel", "(III)I"⟩
abbrev cX10_split : ByteArray := prog_1_method_11_code
def yX10_split : MethodName := ⟨RX10, "split", "(II)I"⟩
abbrev cX10_withdraw : ByteArray := prog_1_method_12_code
def yX10_withdraw : MethodName := ⟨RX10, "withdraw", "(I)I"⟩
abbrev cX10_fund : ByteArray := prog_1_method_13_code
def yX10_fund : MethodName := ⟨RX10, "fund", "(II)I"⟩
abbrev cX10_setStep : ByteArray := prog_1_method_15_code
def yX10_setStep : MethodName := ⟨RX10, "setStep", "(I)I"⟩
abbrev cX10_setTaste : ByteArray := prog_1_method_16_code
def yX10_setTaste : MethodName := ⟨RX10, "setTaste", "(III)I"⟩
abbrev cX10_minute : ByteArray := prog_1_method_20_code
def yX10_minute : MethodName := ⟨RX10, "minute", "()I"⟩
abbrev cX10_isOpen : ByteArray := prog_1_method_21_code
def yX10_isOpen : MethodName := ⟨RX10, "isOpen", "()Z"⟩
abbrev cX10_minutesToHorn : ByteArray := prog_1_method_22_code
def yX10_minutesToHorn : MethodName := ⟨RX10, "minutesToHorn", "()I"⟩
abbrev cX10_step : ByteArray := prog_1_method_23_code
def yX10_step : MethodName := ⟨RX10, "step", "()I"⟩
abbrev cX10_sellerCoins : ByteArray := prog_1_method_24_code
def yX10_sellerCoins : MethodName := ⟨RX10, "sellerCoins", "()I"⟩
abbrev cX10_houseCoins : ByteArray := prog_1_method_25_code
def yX10_houseCoins : MethodName := ⟨RX10, "houseCoins", "()I"⟩
abbrev cX10_openBarrel : ByteArray := prog_1_method_26_code
def yX10_openBarrel : MethodName := ⟨RX10, "openBarrel", "()I"⟩
abbrev cX10_bid : ByteArray := prog_1_method_27_code
def yX10_bid : MethodName := ⟨RX10, "bid", "()I"⟩
abbrev cX10_leader : ByteArray := prog_1_method_28_code
def yX10_leader : MethodName := ⟨RX10, "leader", "()I"⟩
abbrev cX10_nextBid : ByteArray := prog_1_method_29_code
def yX10_nextBid : MethodName := ⟨RX10, "nextBid", "()I"⟩
abbrev cX10_quiet : ByteArray := prog_1_method_30_code
def yX10_quiet : MethodName := ⟨RX10, "quiet", "()I"⟩
abbrev cX10_queueLength : ByteArray := prog_1_method_31_code
def yX10_queueLength : MethodName := ⟨RX10, "queueLength", "()I"⟩
abbrev cX10_queuedBarrel : ByteArray := prog_1_method_32_code
def yX10_queuedBarrel : MethodName := ⟨RX10, "queuedBarrel", "(I)I"⟩
abbrev cX10_barrelCount : ByteArray := prog_1_method_33_code
def yX10_barrelCount : MethodName := ⟨RX10, "barrelCount", "()I"⟩
abbrev cX10_eels : ByteArray := prog_1_method_34_code
def yX10_eels : MethodName := ⟨RX10, "eels", "(I)I"⟩
abbrev cX10_length : ByteArray := prog_1_method_35_code
def yX10_length : MethodName := ⟨RX10, "length", "(II)I"⟩
abbrev cX10_totalLength : ByteArray := prog_1_method_36_code
def yX10_totalLength : MethodName := ⟨RX10, "totalLength", "(I)I"⟩
abbrev cX10_greatestLength : ByteArray := prog_1_method_37_code
def yX10_greatestLength : MethodName := ⟨RX10, "greatestLength", "(I)I"⟩
abbrev cX10_middleLength : ByteArray := prog_1_method_38_code
def yX10_middleLength : MethodName := ⟨RX10, "middleLength", "(I)I"⟩
abbrev cX10_reserve : ByteArray := prog_1_method_39_code
def yX10_reserve : MethodName := ⟨RX10, "reserve", "(I)I"⟩
abbrev cX10_stateOf : ByteArray := prog_1_method_40_code
def yX10_stateOf : MethodName := ⟨RX10, "stateOf", "(I)I"⟩
abbrev cX10_returns : ByteArray := prog_1_method_41_code
def yX10_returns : MethodName := ⟨RX10, "returns", "(I)I"⟩
abbrev cX10_buyerOf : ByteArray := prog_1_method_42_code
def yX10_buyerOf : MethodName := ⟨RX10, "buyerOf", "(I)I"⟩
abbrev cX10_priceOf : ByteArray := prog_1_method_43_code
def yX10_priceOf : MethodName := ⟨RX10, "priceOf", "(I)I"⟩
abbrev cX10_pricePerLength : ByteArray := prog_1_method_44_code
def yX10_pricePerLength : MethodName := ⟨RX10, "pricePerLength", "(I)F"⟩
abbrev cX10_buyerCount : ByteArray := prog_1_method_45_code
def yX10_buyerCount : MethodName := ⟨RX10, "buyerCount", "()I"⟩
abbrev cX10_purse : ByteArray := prog_1_method_46_code
def yX10_purse : MethodName := ⟨RX10, "purse", "(I)I"⟩
abbrev cX10_style : ByteArray := prog_1_method_47_code
def yX10_style : MethodName := ⟨RX10, "style", "(I)I"⟩
abbrev cX10_factor : ByteArray := prog_1_method_48_code
def yX10_factor : MethodName := ⟨RX10, "factor", "(I)I"⟩
abbrev cX10_bought : ByteArray := prog_1_method_49_code
def yX10_bought : MethodName := ⟨RX10, "bought", "(I)I"⟩
abbrev cX10_nods : ByteArray := prog_1_method_50_code
def yX10_nods : MethodName := ⟨RX10, "nods", "(I)I"⟩
abbrev cX10_worth : ByteArray := prog_1_method_51_code
def yX10_worth : MethodName := ⟨RX10, "worth", "(II)D"⟩
abbrev cX10_whyNotNod : ByteArray := prog_1_method_52_code
def yX10_whyNotNod : MethodName := ⟨RX10, "whyNotNod", "(I)I"⟩
abbrev cX10_nextNodder : ByteArray := prog_1_method_54_code
def yX10_nextNodder : MethodName := ⟨RX10, "nextNodder", "()I"⟩
abbrev cX10_keenestBuyer : ByteArray := prog_1_method_55_code
def yX10_keenestBuyer : MethodName := ⟨RX10, "keenestBuyer", "(I)I"⟩
abbrev cX10_minutesToSale : ByteArray := prog_1_method_56_code
def yX10_minutesToSale : MethodName := ⟨RX10, "minutesToSale", "(I)I"⟩
abbrev cX10_buyerAfter : ByteArray := prog_1_method_57_code
def yX10_buyerAfter : MethodName := ⟨RX10, "buyerAfter", "(II)I"⟩
abbrev cX10_sellerCoinsAfter : ByteArray := prog_1_method_58_code
def yX10_sellerCoinsAfter : MethodName := ⟨RX10, "sellerCoinsAfter", "(I)I"⟩
abbrev cX10_coinError : ByteArray := prog_1_method_60_code
def yX10_coinError : MethodName := ⟨RX10, "coinError", "()I"⟩
abbrev cX10_meanLength : ByteArray := prog_1_method_61_code
def yX10_meanLength : MethodName := ⟨RX10, "meanLength", "()D"⟩
abbrev cX10_soldShare : ByteArray := prog_1_method_62_code
def yX10_soldShare : MethodName := ⟨RX10, "soldShare", "()F"⟩
abbrev cX10_foresee : ByteArray := prog_1_method_67_code
def yX10_foresee : MethodName := ⟨RX10, "foresee", "(II)V"⟩
abbrev cX10_barrelAt : ByteArray := prog_1_method_68_code
def yX10_barrelAt : MethodName := ⟨RX10, "barrelAt", "(I)LLowWaterAuction$Barrel;"⟩
abbrev cX10_buyerAt : ByteArray := prog_1_method_69_code
def yX10_buyerAt : MethodName := ⟨RX10, "buyerAt", "(I)LLowWaterAuction$Buyer;"⟩
abbrev cX10_requireBarrel : ByteArray := prog_1_method_70_code
def yX10_requireBarrel : MethodName := ⟨RX10, "requireBarrel", "(I)V"⟩
abbrev cX10_requireBuyer : ByteArray := prog_1_method_71_code
def yX10_requireBuyer : MethodName := ⟨RX10, "requireBuyer", "(I)V"⟩
abbrev cX10_requireRange : ByteArray := prog_1_method_72_code
def yX10_requireRange : MethodName := ⟨RX10, "requireRange", "(III)V"⟩
abbrev cX10_requireState : ByteArray := prog_1_method_73_code
def yX10_requireState : MethodName := ⟨RX10, "requireState", "(Z)V"⟩
def RX11 : String := "LowWaterAuctionModel"
def TX11 : u_T := fun k => match k with
  | _ => ("", "", "", false)
def tyX11 : Nat → FieldType := fun k => match k with
  | _ => .int
abbrev wsX110 : List Cond := u_ws RX11 TX11 0
theorem nmX11 : ∀ a, a < 0 → ∀ b, b < 0 → a ≠ b → (TX11 a).2.1 ≠ (TX11 b).2.1 := by decide +kernel
theorem tyX11_ok : ∀ k, k < 0 → parseFieldDescriptor (TX11 k).2.2.1 = some (tyX11 k) := by decide +kernel
def RJx145de : String := "java/io/Serializable"
def TJx145de : u_T := fun k => match k with
  | _ => ("", "", "", false)
def tyJx145de : Nat → FieldType := fun k => match k with
  | _ => .int
abbrev wsJx145de0 : List Cond := u_ws RJx145de TJx145de 0
theorem nmJx145de : ∀ a, a < 0 → ∀ b, b < 0 → a ≠ b → (TJx145de a).2.1 ≠ (TJx145de b).2.1 := by decide +kernel
theorem tyJx145de_ok : ∀ k, k < 0 → parseFieldDescriptor (TJx145de k).2.2.1 = some (tyJx145de k) := by decide +kernel
def RJ5 : String := "java/lang/AbstractStringBuilder"
def TJ5 : u_T := fun k => match k with
  | _ => ("", "", "", false)
def tyJ5 : Nat → FieldType := fun k => match k with
  | _ => .int
abbrev wsJ50 : List Cond := u_ws RJ5 TJ5 0
theorem nmJ5 : ∀ a, a < 0 → ∀ b, b < 0 → a ≠ b → (TJ5 a).2.1 ≠ (TJ5 b).2.1 := by decide +kernel
theorem tyJ5_ok : ∀ k, k < 0 → parseFieldDescriptor (TJ5 k).2.2.1 = some (tyJ5 k) := by decide +kernel
abbrev cJ5_init_d00df : ByteArray := prog_14_method_2_code
def yJ5_init_d00df : MethodName := ⟨RJ5, "<init>", "(I)V"⟩
abbrev cJ5_length_8abf5 : ByteArray := prog_14_method_6_code
def yJ5_length_8abf5 : MethodName := ⟨RJ5, "length", "()I"⟩
abbrev cJ5_ensureCapacityInternal_d00df : ByteArray := prog_14_method_9_code
def yJ5_ensureCapacityInternal_d00df : MethodName := ⟨RJ5, "ensureCapacityInternal", "(I)V"⟩
abbrev cJ5_newCapacity_0f7a4 : ByteArray := prog_14_method_10_code
def yJ5_newCapacity_0f7a4 : MethodName := ⟨RJ5, "newCapacity", "(I)I"⟩
abbrev cJ5_inflate_da8c8 : ByteArray := prog_14_method_11_code
def yJ5_inflate_da8c8 : MethodName := ⟨RJ5, "inflate", "()V"⟩
abbrev cJ5_append_cf1ce : ByteArray := prog_14_method_22_code
def yJ5_append_cf1ce : MethodName := ⟨RJ5, "append", "(Ljava/lang/String;)Ljava/lang/AbstractStringBuilder;"⟩
abbrev cJ5_appendNull_278bc : ByteArray := prog_14_method_26_code
def yJ5_appendNull_278bc : MethodName := ⟨RJ5, "appendNull", "()Ljava/lang/AbstractStringBuilder;"⟩
abbrev cJ5_append_c97b9 : ByteArray := prog_14_method_32_code
def yJ5_append_c97b9 : MethodName := ⟨RJ5, "append", "(I)Ljava/lang/AbstractStringBuilder;"⟩
abbrev cJ5_getValue_6d5f1 : ByteArray := prog_14_method_64_code
def yJ5_getValue_6d5f1 : MethodName := ⟨RJ5, "getValue", "()[B"⟩
abbrev cJ5_isLatin1_aae02 : ByteArray := prog_14_method_68_code
def yJ5_isLatin1_aae02 : MethodName := ⟨RJ5, "isLatin1", "()Z"⟩
abbrev cJ5_inflateIfNeededFor_a7421 : ByteArray := prog_14_method_71_code
def yJ5_inflateIfNeededFor_a7421 : MethodName := ⟨RJ5, "inflateIfNeededFor", "(Ljava/lang/String;)V"⟩
abbrev cJ5_putStringAt_47b60 : ByteArray := prog_14_method_73_code
def yJ5_putStringAt_47b60 : MethodName := ⟨RJ5, "putStringAt", "(ILjava/lang/String;)V"⟩
def RJx2cfe8 : String := "java/lang/Appendable"
def TJx2cfe8 : u_T := fun k => match k with
  | _ => ("", "", "", false)
def tyJx2cfe8 : Nat → FieldType := fun k => match k with
  | _ => .int
abbrev wsJx2cfe80 : List Cond := u_ws RJx2cfe8 TJx2cfe8 0
theorem nmJx2cfe8 : ∀ a, a < 0 → ∀ b, b < 0 → a ≠ b → (TJx2cfe8 a).2.1 ≠ (TJx2cfe8 b).2.1 := by decide +kernel
theorem tyJx2cfe8_ok : ∀ k, k < 0 → parseFieldDescriptor (TJx2cfe8 k).2.2.1 = some (tyJx2cfe8 k) := by decide +kernel
def RJx9f9b0 : String := "java/lang/CharSequence"
def TJx9f9b0 : u_T := fun k => match k with
  | _ => ("", "", "", false)
def tyJx9f9b0 : Nat → FieldType := fun k => match k with
  | _ => .int
abbrev wsJx9f9b00 : List Cond := u_ws RJx9f9b0 TJx9f9b0 0
theorem nmJx9f9b0 : ∀ a, a < 0 → ∀ b, b < 0 → a ≠ b → (TJx9f9b0 a).2.1 ≠ (TJx9f9b0 b).2.1 := by decide +kernel
theorem tyJx9f9b0_ok : ∀ k, k < 0 → parseFieldDescriptor (TJx9f9b0 k).2.2.1 = some (tyJx9f9b0 k) := by decide +kernel
def RJx8e188 : String := "java/lang/Cloneable"
def TJx8e188 : u_T := fun k => match k with
  | _ => ("", "", "", false)
def tyJx8e188 : Nat → FieldType := fun k => match k with
  | _ => .int
abbrev wsJx8e1880 : List Cond := u_ws RJx8e188 TJx8e188 0
theorem nmJx8e188 : ∀ a, a < 0 → ∀ b, b < 0 → a ≠ b → (TJx8e188 a).2.1 ≠ (TJx8e188 b).2.1 := by decide +kernel
theorem tyJx8e188_ok : ∀ k, k < 0 → parseFieldDescriptor (TJx8e188 k).2.2.1 = some (tyJx8e188 k) := by decide +kernel
def RJxb160c : String := "java/lang/Comparable"
def TJxb160c : u_T := fun k => match k with
  | _ => ("", "", "", false)
def tyJxb160c : Nat → FieldType := fun k => match k with
  | _ => .int
abbrev wsJxb160c0 : List Cond := u_ws RJxb160c TJxb160c 0
theorem nmJxb160c : ∀ a, a < 0 → ∀ b, b < 0 → a ≠ b → (TJxb160c a).2.1 ≠ (TJxb160c b).2.1 := by decide +kernel
theorem tyJxb160c_ok : ∀ k, k < 0 → parseFieldDescriptor (TJxb160c k).2.2.1 = some (tyJxb160c k) := by decide +kernel
def RJx29ce0 : String := "java/lang/Enum"
def TJx29ce0 : u_T := fun k => match k with
  | _ => ("", "", "", false)
def tyJx29ce0 : Nat → FieldType := fun k => match k with
  | _ => .int
abbrev wsJx29ce00 : List Cond := u_ws RJx29ce0 TJx29ce0 0
theorem nmJx29ce0 : ∀ a, a < 0 → ∀ b, b < 0 → a ≠ b → (TJx29ce0 a).2.1 ≠ (TJx29ce0 b).2.1 := by decide +kernel
theorem tyJx29ce0_ok : ∀ k, k < 0 → parseFieldDescriptor (TJx29ce0 k).2.2.1 = some (tyJx29ce0 k) := by decide +kernel
def RJ6 : String := "java/lang/Integer"
def TJ6 : u_T := fun k => match k with
  | _ => ("", "", "", false)
def tyJ6 : Nat → FieldType := fun k => match k with
  | _ => .int
abbrev wsJ60 : List Cond := u_ws RJ6 TJ6 0
theorem nmJ6 : ∀ a, a < 0 → ∀ b, b < 0 → a ≠ b → (TJ6 a).2.1 ≠ (TJ6 b).2.1 := by decide +kernel
theorem tyJ6_ok : ∀ k, k < 0 → parseFieldDescriptor (TJ6 k).2.2.1 = some (tyJ6 k) := by decide +kernel
abbrev cJ6_getChars_ba4f3 : ByteArray := prog_21_method_12_code
def yJ6_getChars_ba4f3 : MethodName := ⟨RJ6, "getChars", "(II[B)I"⟩
abbrev cJ6_stringSize_0f7a4 : ByteArray := prog_21_method_13_code
def yJ6_stringSize_0f7a4 : MethodName := ⟨RJ6, "stringSize", "(I)I"⟩
def RJ9 : String := "java/lang/Math"
def TJ9 : u_T := fun k => match k with
  | _ => ("", "", "", false)
def tyJ9 : Nat → FieldType := fun k => match k with
  | _ => .int
abbrev wsJ90 : List Cond := u_ws RJ9 TJ9 0
theorem nmJ9 : ∀ a, a < 0 → ∀ b, b < 0 → a ≠ b → (TJ9 a).2.1 ≠ (TJ9 b).2.1 := by decide +kernel
theorem tyJ9_ok : ∀ k, k < 0 → parseFieldDescriptor (TJ9 k).2.2.1 = some (tyJ9 k) := by decide +kernel
abbrev cJ9_max_7cf53 : ByteArray := prog_22_method_65_code
def yJ9_max_7cf53 : MethodName := ⟨RJ9, "max", "(II)I"⟩
abbrev cJ9_min_7cf53 : ByteArray := prog_22_method_69_code
def yJ9_min_7cf53 : MethodName := ⟨RJ9, "min", "(II)I"⟩
def RJxd2413 : String := "java/lang/Number"
def TJxd2413 : u_T := fun k => match k with
  | _ => ("", "", "", false)
def tyJxd2413 : Nat → FieldType := fun k => match k with
  | _ => .int
abbrev wsJxd24130 : List Cond := u_ws RJxd2413 TJxd2413 0
theorem nmJxd2413 : ∀ a, a < 0 → ∀ b, b < 0 → a ≠ b → (TJxd2413 a).2.1 ≠ (TJxd2413 b).2.1 := by decide +kernel
theorem tyJxd2413_ok : ∀ k, k < 0 → parseFieldDescriptor (TJxd2413 k).2.2.1 = some (tyJxd2413 k) := by decide +kernel
def RJ0 : String := "java/lang/String"
def TJ0 : u_T := fun k => match k with
  | 0 => ("java/lang/String", "value", "[B", true)
  | 1 => ("java/lang/String", "coder", "B", true)
  | 2 => ("java/lang/String", "hash", "I", false)
  | _ => ("java/lang/String", "hashIsZero", "Z", false)
def tyJ0 : Nat → FieldType := fun k => match k with
  | 0 => .array .byte
  | 1 => .byte
  | 2 => .int
  | _ => .boolean
abbrev wsJ00 : List Cond := u_ws RJ0 TJ0 4
theorem nmJ0 : ∀ a, a < 4 → ∀ b, b < 4 → a ≠ b → (TJ0 a).2.1 ≠ (TJ0 b).2.1 := by decide +kernel
theorem tyJ0_ok : ∀ k, k < 4 → parseFieldDescriptor (TJ0 k).2.2.1 = some (tyJ0 k) := by decide +kernel
abbrev cJ0_init_81219 : ByteArray := prog_25_method_53_code
def yJ0_init_81219 : MethodName := ⟨RJ0, "<init>", "(Ljava/lang/StringBuilder;)V"⟩
abbrev cJ0_length_8abf5 : ByteArray := prog_25_method_54_code
def yJ0_length_8abf5 : MethodName := ⟨RJ0, "length", "()I"⟩
abbrev cJ0_charAt_5068e : ByteArray := prog_25_method_56_code
def yJ0_charAt_5068e : MethodName := ⟨RJ0, "charAt", "(I)C"⟩
abbrev cJ0_getBytes_840e7 : ByteArray := prog_25_method_147_code
def yJ0_getBytes_840e7 : MethodName := ⟨RJ0, "getBytes", "([BIB)V"⟩
abbrev cJ0_init_db425 : ByteArray := prog_25_method_150_code
def yJ0_init_db425 : MethodName := ⟨RJ0, "<init>", "(Ljava/lang/AbstractStringBuilder;Ljava/lang/Void;)V"⟩
abbrev cJ0_coder_7d493 : ByteArray := prog_25_method_152_code
def yJ0_coder_7d493 : MethodName := ⟨RJ0, "coder", "()B"⟩
abbrev cJ0_isLatin1_aae02 : ByteArray := prog_25_method_154_code
def yJ0_isLatin1_aae02 : MethodName := ⟨RJ0, "isLatin1", "()Z"⟩
abbrev cJ0_checkIndex_df160 : ByteArray := prog_25_method_155_code
def yJ0_checkIndex_df160 : MethodName := ⟨RJ0, "checkIndex", "(II)V"⟩
abbrev cJ0_checkBoundsOffCount_cabcc : ByteArray := prog_25_method_157_code
def yJ0_checkBoundsOffCount_cabcc : MethodName := ⟨RJ0, "checkBoundsOffCount", "(III)I"⟩
abbrev cJ0_checkBoundsBeginEnd_23922 : ByteArray := prog_25_method_158_code
def yJ0_checkBoundsBeginEnd_23922 : MethodName := ⟨RJ0, "checkBoundsBeginEnd", "(III)V"⟩
def RJ4 : String := "java/lang/StringBuilder"
def TJ4 : u_T := fun k => match k with
  | 0 => ("java/lang/AbstractStringBuilder", "value", "[B", false)
  | 1 => ("java/lang/AbstractStringBuilder", "coder", "B", false)
  | 2 => ("java/lang/AbstractStringBuilder", "maybeLatin1", "Z", false)
  | _ => ("java/lang/AbstractStringBuilder", "count", "I", false)
def tyJ4 : Nat → FieldType := fun k => match k with
  | 0 => .array .byte
  | 1 => .byte
  | 2 => .boolean
  | _ => .int
abbrev wsJ40 : List Cond := u_ws RJ4 TJ4 4
theorem nmJ4 : ∀ a, a < 4 → ∀ b, b < 4 → a ≠ b → (TJ4 a).2.1 ≠ (TJ4 b).2.1 := by decide +kernel
theorem tyJ4_ok : ∀ k, k < 4 → parseFieldDescriptor (TJ4 k).2.2.1 = some (tyJ4 k) := by decide +kernel
abbrev cJ4_init_da8c8 : ByteArray := prog_26_method_1_code
def yJ4_init_da8c8 : MethodName := ⟨RJ4, "<init>", "()V"⟩
abbrev cJ4_append_15ec4 : ByteArray := prog_26_method_7_code
def yJ4_append_15ec4 : MethodName := ⟨RJ4, "append", "(Ljava/lang/String;)Ljava/lang/StringBuilder;"⟩
abbrev cJ4_append_bf812 : ByteArray := prog_26_method_15_code
def yJ4_append_bf812 : MethodName := ⟨RJ4, "append", "(I)Ljava/lang/StringBuilder;"⟩
abbrev cJ4_toString_0e30d : ByteArray := prog_26_method_42_code
def yJ4_toString_0e30d : MethodName := ⟨RJ4, "toString", "()Ljava/lang/String;"⟩
abbrev cJ4_length_8abf5 : ByteArray := prog_26_method_93_code
def yJ4_length_8abf5 : MethodName := ⟨RJ4, "length", "()I"⟩
def RJ1 : String := "java/lang/StringLatin1"
def TJ1 : u_T := fun k => match k with
  | _ => ("", "", "", false)
def tyJ1 : Nat → FieldType := fun k => match k with
  | _ => .int
abbrev wsJ10 : List Cond := u_ws RJ1 TJ1 0
theorem nmJ1 : ∀ a, a < 0 → ∀ b, b < 0 → a ≠ b → (TJ1 a).2.1 ≠ (TJ1 b).2.1 := by decide +kernel
theorem tyJ1_ok : ∀ k, k < 0 → parseFieldDescriptor (TJ1 k).2.2.1 = some (tyJ1 k) := by decide +kernel
abbrev cJ1_charAt_3b067 : ByteArray := prog_27_method_2_code
def yJ1_charAt_3b067 : MethodName := ⟨RJ1, "charAt", "([BI)C"⟩
abbrev cJ1_inflate_0e8fd : ByteArray := prog_27_method_50_code
def yJ1_inflate_0e8fd : MethodName := ⟨RJ1, "inflate", "([BI[BII)V"⟩
def RJ2 : String := "java/lang/StringUTF16"
def TJ2 : u_T := fun k => match k with
  | _ => ("", "", "", false)
def tyJ2 : Nat → FieldType := fun k => match k with
  | _ => .int
abbrev wsJ20 : List Cond := u_ws RJ2 TJ2 0
theorem nmJ2 : ∀ a, a < 0 → ∀ b, b < 0 → a ≠ b → (TJ2 a).2.1 ≠ (TJ2 b).2.1 := by decide +kernel
theorem tyJ2_ok : ∀ k, k < 0 → parseFieldDescriptor (TJ2 k).2.2.1 = some (tyJ2 k) := by decide +kernel
abbrev cJ2_newBytesFor_77867 : ByteArray := prog_28_method_2_code
def yJ2_newBytesFor_77867 : MethodName := ⟨RJ2, "newBytesFor", "(I)[B"⟩
abbrev cJ2_newBytesLength_0f7a4 : ByteArray := prog_28_method_3_code
def yJ2_newBytesLength_0f7a4 : MethodName := ⟨RJ2, "newBytesLength", "(I)I"⟩
abbrev cJ2_putChar_b72d1 : ByteArray := prog_28_method_4_code
def yJ2_putChar_b72d1 : MethodName := ⟨RJ2, "putChar", "([BII)V"⟩
abbrev cJ2_getChar_3b067 : ByteArray := prog_28_method_5_code
def yJ2_getChar_3b067 : MethodName := ⟨RJ2, "getChar", "([BI)C"⟩
abbrev cJ2_length_9d52b : ByteArray := prog_28_method_6_code
def yJ2_length_9d52b : MethodName := ⟨RJ2, "length", "([B)I"⟩
abbrev cJ2_coderFromArrayLen_85cad : ByteArray := prog_28_method_15_code
def yJ2_coderFromArrayLen_85cad : MethodName := ⟨RJ2, "coderFromArrayLen", "([BI)B"⟩
abbrev cJ2_compress_39247 : ByteArray := prog_28_method_17_code
def yJ2_compress_39247 : MethodName := ⟨RJ2, "compress", "([BII)[B"⟩
abbrev cJ2_compress_5af95 : ByteArray := prog_28_method_22_code
def yJ2_compress_5af95 : MethodName := ⟨RJ2, "compress", "([BI[BII)I"⟩
abbrev cJ2_getChars_46870 : ByteArray := prog_28_method_77_code
def yJ2_getChars_46870 : MethodName := ⟨RJ2, "getChars", "(III[B)I"⟩
abbrev cJ2_putCharsAt_cd4e5 : ByteArray := prog_28_method_81_code
def yJ2_putCharsAt_cd4e5 : MethodName := ⟨RJ2, "putCharsAt", "([BICCCC)I"⟩
abbrev cJ2_charAt_3b067 : ByteArray := prog_28_method_83_code
def yJ2_charAt_3b067 : MethodName := ⟨RJ2, "charAt", "([BI)C"⟩
abbrev cJ2_inflate_0e8fd : ByteArray := prog_28_method_86_code
def yJ2_inflate_0e8fd : MethodName := ⟨RJ2, "inflate", "([BI[BII)V"⟩
abbrev cJ2_getChars_ba4f3 : ByteArray := prog_28_method_89_code
def yJ2_getChars_ba4f3 : MethodName := ⟨RJ2, "getChars", "(II[B)I"⟩
abbrev cJ2_checkIndex_2214a : ByteArray := prog_28_method_91_code
def yJ2_checkIndex_2214a : MethodName := ⟨RJ2, "checkIndex", "(I[B)V"⟩
abbrev cJ2_checkBoundsBeginEnd_d044e : ByteArray := prog_28_method_93_code
def yJ2_checkBoundsBeginEnd_d044e : MethodName := ⟨RJ2, "checkBoundsBeginEnd", "(II[B)V"⟩
abbrev cJ2_checkBoundsOffCount_d044e : ByteArray := prog_28_method_94_code
def yJ2_checkBoundsOffCount_d044e : MethodName := ⟨RJ2, "checkBoundsOffCount", "(II[B)V"⟩
def RJ10 : String := "java/lang/System"
def TJ10 : u_T := fun k => match k with
  | _ => ("", "", "", false)
def tyJ10 : Nat → FieldType := fun k => match k with
  | _ => .int
abbrev wsJ100 : List Cond := u_ws RJ10 TJ10 0
theorem nmJ10 : ∀ a, a < 0 → ∀ b, b < 0 → a ≠ b → (TJ10 a).2.1 ≠ (TJ10 b).2.1 := by decide +kernel
theorem tyJ10_ok : ∀ k, k < 0 → parseFieldDescriptor (TJ10 k).2.2.1 = some (tyJ10 k) := by decide +kernel
def RJxfd54e : String := "java/lang/constant/Constable"
def TJxfd54e : u_T := fun k => match k with
  | _ => ("", "", "", false)
def tyJxfd54e : Nat → FieldType := fun k => match k with
  | _ => .int
abbrev wsJxfd54e0 : List Cond := u_ws RJxfd54e TJxfd54e 0
theorem nmJxfd54e : ∀ a, a < 0 → ∀ b, b < 0 → a ≠ b → (TJxfd54e a).2.1 ≠ (TJxfd54e b).2.1 := by decide +kernel
theorem tyJxfd54e_ok : ∀ k, k < 0 → parseFieldDescriptor (TJxfd54e k).2.2.1 = some (tyJxfd54e k) := by decide +kernel
def RJx3cf43 : String := "java/lang/constant/ConstantDesc"
def TJx3cf43 : u_T := fun k => match k with
  | _ => ("", "", "", false)
def tyJx3cf43 : Nat → FieldType := fun k => match k with
  | _ => .int
abbrev wsJx3cf430 : List Cond := u_ws RJx3cf43 TJx3cf43 0
theorem nmJx3cf43 : ∀ a, a < 0 → ∀ b, b < 0 → a ≠ b → (TJx3cf43 a).2.1 ≠ (TJx3cf43 b).2.1 := by decide +kernel
theorem tyJx3cf43_ok : ∀ k, k < 0 → parseFieldDescriptor (TJx3cf43 k).2.2.1 = some (tyJx3cf43 k) := by decide +kernel
def RJ7 : String := "java/util/Arrays"
def TJ7 : u_T := fun k => match k with
  | _ => ("", "", "", false)
def tyJ7 : Nat → FieldType := fun k => match k with
  | _ => .int
abbrev wsJ70 : List Cond := u_ws RJ7 TJ7 0
theorem nmJ7 : ∀ a, a < 0 → ∀ b, b < 0 → a ≠ b → (TJ7 a).2.1 ≠ (TJ7 b).2.1 := by decide +kernel
theorem tyJ7_ok : ∀ k, k < 0 → parseFieldDescriptor (TJ7 k).2.2.1 = some (tyJ7 k) := by decide +kernel
abbrev cJ7_fill_53178 : ByteArray := prog_31_method_103_code
def yJ7_fill_53178 : MethodName := ⟨RJ7, "fill", "([II)V"⟩
abbrev cJ7_copyOf_9075b : ByteArray := prog_31_method_121_code
def yJ7_copyOf_9075b : MethodName := ⟨RJ7, "copyOf", "([BI)[B"⟩
abbrev cJ7_checkLength_df160 : ByteArray := prog_31_method_131_code
def yJ7_checkLength_df160 : MethodName := ⟨RJ7, "checkLength", "(II)V"⟩
abbrev cJ7_copyOfRange_39247 : ByteArray := prog_31_method_132_code
def yJ7_copyOfRange_39247 : MethodName := ⟨RJ7, "copyOfRange", "([BII)[B"⟩
abbrev cJ7_copyOfRangeByte_39247 : ByteArray := prog_31_method_133_code
def yJ7_copyOfRangeByte_39247 : MethodName := ⟨RJ7, "copyOfRangeByte", "([BII)[B"⟩
def RJ8 : String := "jdk/internal/util/ArraysSupport"
def TJ8 : u_T := fun k => match k with
  | _ => ("", "", "", false)
def tyJ8 : Nat → FieldType := fun k => match k with
  | _ => .int
abbrev wsJ80 : List Cond := u_ws RJ8 TJ8 0
theorem nmJ8 : ∀ a, a < 0 → ∀ b, b < 0 → a ≠ b → (TJ8 a).2.1 ≠ (TJ8 b).2.1 := by decide +kernel
theorem tyJ8_ok : ∀ k, k < 0 → parseFieldDescriptor (TJ8 k).2.2.1 = some (tyJ8 k) := by decide +kernel
abbrev cJ8_newLength_cabcc : ByteArray := prog_32_method_27_code
def yJ8_newLength_cabcc : MethodName := ⟨RJ8, "newLength", "(III)I"⟩
abbrev cJ8_hugeLength_7cf53 : ByteArray := prog_32_method_28_code
def yJ8_hugeLength_7cf53 : MethodName := ⟨RJ8, "hugeLength", "(II)I"⟩
def RJ3 : String := "jdk/internal/util/Preconditions"
def TJ3 : u_T := fun k => match k with
  | _ => ("", "", "", false)
def tyJ3 : Nat → FieldType := fun k => match k with
  | _ => .int
abbrev wsJ30 : List Cond := u_ws RJ3 TJ3 0
theorem nmJ3 : ∀ a, a < 0 → ∀ b, b < 0 → a ≠ b → (TJ3 a).2.1 ≠ (TJ3 b).2.1 := by decide +kernel
theorem tyJ3_ok : ∀ k, k < 0 → parseFieldDescriptor (TJ3 k).2.2.1 = some (tyJ3 k) := by decide +kernel
abbrev cJ3_checkIndex_8e157 : ByteArray := prog_33_method_11_code
def yJ3_checkIndex_8e157 : MethodName := ⟨RJ3, "checkIndex", "(IILjava/util/function/BiFunction;)I"⟩
abbrev cJ3_checkFromToIndex_8c36e : ByteArray := prog_33_method_12_code
def yJ3_checkFromToIndex_8c36e : MethodName := ⟨RJ3, "checkFromToIndex", "(IIILjava/util/function/BiFunction;)I"⟩
abbrev cJ3_checkFromIndexSize_8c36e : ByteArray := prog_33_method_13_code
def yJ3_checkFromIndexSize_8c36e : MethodName := ⟨RJ3, "checkFromIndexSize", "(IIILjava/util/function/BiFunction;)I"⟩
def RL : String := "LowWaterAuctionLaw"
abbrev cL_pick : ByteArray := method_2_code
def yL_pick : MethodName := ⟨RL, "pick", "([III)I"⟩
abbrev cL_input : ByteArray := method_3_code
def yL_input : MethodName := ⟨RL, "input", "(LLowWaterAuction;Ljava/lang/String;)V"⟩
abbrev cL_begun : ByteArray := method_4_code
def yL_begun : MethodName := ⟨RL, "begun", "(LLowWaterAuction;[I)[I"⟩
abbrev cL_open : ByteArray := method_5_code
def yL_open : MethodName := ⟨RL, "open", "([II)Z"⟩
abbrev cL_cost : ByteArray := method_6_code
def yL_cost : MethodName := ⟨RL, "cost", "([II)I"⟩
abbrev cL_worth : ByteArray := method_7_code
def yL_worth : MethodName := ⟨RL, "worth", "(LLowWaterAuction;II)D"⟩
abbrev cL_reason : ByteArray := method_8_code
def yL_reason : MethodName := ⟨RL, "reason", "(LLowWaterAuction;[II)I"⟩
abbrev cL_nodder : ByteArray := method_9_code
def yL_nodder : MethodName := ⟨RL, "nodder", "(LLowWaterAuction;[I)I"⟩
abbrev cL_minute : ByteArray := method_10_code
def yL_minute : MethodName := ⟨RL, "minute", "(LLowWaterAuction;[I)Z"⟩
abbrev cL_nod : ByteArray := method_11_code
def yL_nod : MethodName := ⟨RL, "nod", "(LLowWaterAuction;I)I"⟩
abbrev cL_split : ByteArray := method_12_code
def yL_split : MethodName := ⟨RL, "split", "(LLowWaterAuction;II)I"⟩
abbrev cL_withdraw : ByteArray := method_13_code
def yL_withdraw : MethodName := ⟨RL, "withdraw", "(LLowWaterAuction;I)I"⟩
abbrev cL_cut : ByteArray := method_14_code
def yL_cut : MethodName := ⟨RL, "cut", "(LLowWaterAuction;II)Z"⟩
abbrev cL_acted : ByteArray := method_15_code
def yL_acted : MethodName := ⟨RL, "acted", "(LLowWaterAuction;[I[II)Z"⟩
abbrev cL_seen : ByteArray := method_16_code
def yL_seen : MethodName := ⟨RL, "seen", "(LLowWaterAuction;)Z"⟩
abbrev cL_foretold : ByteArray := method_17_code
def yL_foretold : MethodName := ⟨RL, "foretold", "(LLowWaterAuction;[II)Z"⟩
abbrev cL_law : ByteArray := code
def yL_law : MethodName := ⟨RL, "law", "([I)Z"⟩
end
section
theorem dX1_init_0 : decode cX1_init 0 = .ok (.aload_n 0, 1) := by decide +kernel
theorem dX1_init_1 : decode cX1_init 1 = .ok (.invokespecial 3, 3) := by decide +kernel
theorem dX1_init_4 : decode cX1_init 4 = .ok (.aload_n 0, 1) := by decide +kernel
theorem dX1_init_5 : decode cX1_init 5 = .ok (.bipush 9, 2) := by decide +kernel
theorem dX1_init_7 : decode cX1_init 7 = .ok (.newarray .int, 2) := by decide +kernel
theorem dX1_init_9 : decode cX1_init 9 = .ok (.putfield 9, 3) := by decide +kernel
theorem dX1_init_12 : decode cX1_init 12 = .ok (.return_, 1) := by decide +kernel
theorem dX1_fill_0 : decode cX1_fill 0 = .ok (.aload_n 0, 1) := by decide +kernel
theorem dX1_fill_1 : decode cX1_fill 1 = .ok (.invokevirtual 15, 3) := by decide +kernel
theorem dX1_fill_4 : decode cX1_fill 4 = .ok (.iload_n 2, 1) := by decide +kernel
theorem dX1_fill_5 : decode cX1_fill 5 = .ok (.istore 4, 2) := by decide +kernel
theorem dX1_fill_7 : decode cX1_fill 7 = .ok (.iload 4, 2) := by decide +kernel
theorem dX1_fill_9 : decode cX1_fill 9 = .ok (.ifCond .lt 30, 3) := by decide +kernel
theorem dX1_fill_12 : decode cX1_fill 12 = .ok (.iload 4, 2) := by decide +kernel
theorem dX1_fill_14 : decode cX1_fill 14 = .ok (.iload_n 3, 1) := by decide +kernel
theorem dX1_fill_15 : decode cX1_fill 15 = .ok (.if_icmp .ge 24, 3) := by decide +kernel
theorem dX1_fill_18 : decode cX1_fill 18 = .ok (.iload 4, 2) := by decide +kernel
theorem dX1_fill_20 : decode cX1_fill 20 = .ok (.aload_n 1, 1) := by decide +kernel
theorem dX1_fill_21 : decode cX1_fill 21 = .ok (.arraylength, 1) := by decide +kernel
theorem dX1_fill_22 : decode cX1_fill 22 = .ok (.if_icmp .ge 17, 3) := by decide +kernel
theorem dX1_fill_25 : decode cX1_fill 25 = .ok (.aload_n 0, 1) := by decide +kernel
theorem dX1_fill_26 : decode cX1_fill 26 = .ok (.aload_n 1, 1) := by decide +kernel
theorem dX1_fill_27 : decode cX1_fill 27 = .ok (.iload 4, 2) := by decide +kernel
theorem dX1_fill_29 : decode cX1_fill 29 = .ok (.iaload, 1) := by decide +kernel
theorem dX1_fill_30 : decode cX1_fill 30 = .ok (.invokevirtual 18, 3) := by decide +kernel
theorem dX1_fill_33 : decode cX1_fill 33 = .ok (.iinc 4 1, 3) := by decide +kernel
theorem dX1_fill_36 : decode cX1_fill 36 = .ok (.goto (-29), 3) := by decide +kernel
theorem dX1_fill_39 : decode cX1_fill 39 = .ok (.return_, 1) := by decide +kernel
theorem dX1_keepFirst_0 : decode cX1_keepFirst 0 = .ok (.aload_n 0, 1) := by decide +kernel
theorem dX1_keepFirst_1 : decode cX1_keepFirst 1 = .ok (.aload_n 0, 1) := by decide +kernel
theorem dX1_keepFirst_2 : decode cX1_keepFirst 2 = .ok (.getfield 9, 3) := by decide +kernel
theorem dX1_keepFirst_5 : decode cX1_keepFirst 5 = .ok (.iconst 0, 1) := by decide +kernel
theorem dX1_keepFirst_6 : decode cX1_keepFirst 6 = .ok (.iload_n 1, 1) := by decide +kernel
theorem dX1_keepFirst_7 : decode cX1_keepFirst 7 = .ok (.invokevirtual 22, 3) := by decide +kernel
theorem dX1_keepFirst_10 : decode cX1_keepFirst 10 = .ok (.return_, 1) := by decide +kernel
theorem dX1_beginWaiting_0 : decode cX1_beginWaiting 0 = .ok (.aload_n 0, 1) := by decide +kernel
theorem dX1_beginWaiting_1 : decode cX1_beginWaiting 1 = .ok (.iload_n 1, 1) := by decide +kernel
theorem dX1_beginWaiting_2 : decode cX1_beginWaiting 2 = .ok (.putfield 26, 3) := by decide +kernel
theorem dX1_beginWaiting_5 : decode cX1_beginWaiting 5 = .ok (.aload_n 0, 1) := by decide +kernel
theorem dX1_beginWaiting_6 : decode cX1_beginWaiting 6 = .ok (.iconst 0, 1) := by decide +kernel
theorem dX1_beginWaiting_7 : decode cX1_beginWaiting 7 = .ok (.putfield 30, 3) := by decide +kernel
theorem dX1_beginWaiting_10 : decode cX1_beginWaiting 10 = .ok (.aload_n 0, 1) := by decide +kernel
theorem dX1_beginWaiting_11 : decode cX1_beginWaiting 11 = .ok (.iconst 0, 1) := by decide +kernel
theorem dX1_beginWaiting_12 : decode cX1_beginWaiting 12 = .ok (.putfield 33, 3) := by decide +kernel
theorem dX1_beginWaiting_15 : decode cX1_beginWaiting 15 = .ok (.aload_n 0, 1) := by decide +kernel
theorem dX1_beginWaiting_16 : decode cX1_beginWaiting 16 = .ok (.iconst (-1), 1) := by decide +kernel
theorem dX1_beginWaiting_17 : decode cX1_beginWaiting 17 = .ok (.putfield 36, 3) := by decide +kernel
theorem dX1_beginWaiting_20 : decode cX1_beginWaiting 20 = .ok (.aload_n 0, 1) := by decide +kernel
theorem dX1_beginWaiting_21 : decode cX1_beginWaiting 21 = .ok (.iconst (-1), 1) := by decide +kernel
theorem dX1_beginWaiting_22 : decode cX1_beginWaiting 22 = .ok (.putfield 39, 3) := by decide +kernel
theorem dX1_beginWaiting_25 : decode cX1_beginWaiting 25 = .ok (.return_, 1) := by decide +kernel
theorem dX1_lengthAtRank_0 : decode cX1_lengthAtRank 0 = .ok (.iconst 0, 1) := by decide +kernel
theorem dX1_lengthAtRank_1 : decode cX1_lengthAtRank 1 = .ok (.istore_n 2, 1) := by decide +kernel
theorem dX1_lengthAtRank_2 : decode cX1_lengthAtRank 2 = .ok (.iload_n 2, 1) := by decide +kernel
theorem dX1_lengthAtRank_3 : decode cX1_lengthAtRank 3 = .ok (.aload_n 0, 1) := by decide +kernel
theorem dX1_lengthAtRank_4 : decode cX1_lengthAtRank 4 = .ok (.getfield 42, 3) := by decide +kernel
theorem dX1_lengthAtRank_7 : decode cX1_lengthAtRank 7 = .ok (.if_icmp .ge 100, 3) := by decide +kernel
theorem dX1_lengthAtRank_10 : decode cX1_lengthAtRank 10 = .ok (.iconst 0, 1) := by decide +kernel
theorem dX1_lengthAtRank_11 : decode cX1_lengthAtRank 11 = .ok (.istore_n 3, 1) := by decide +kernel
theorem dX1_lengthAtRank_12 : decode cX1_lengthAtRank 12 = .ok (.iconst 0, 1) := by decide +kernel
theorem dX1_lengthAtRank_13 : decode cX1_lengthAtRank 13 = .ok (.istore 4, 2) := by decide +kernel
theorem dX1_lengthAtRank_15 : decode cX1_lengthAtRank 15 = .ok (.iconst 0, 1) := by decide +kernel
theorem dX1_lengthAtRank_16 : decode cX1_lengthAtRank 16 = .ok (.istore 5, 2) := by decide +kernel
theorem dX1_lengthAtRank_18 : decode cX1_lengthAtRank 18 = .ok (.iload 5, 2) := by decide +kernel
theorem dX1_lengthAtRank_20 : decode cX1_lengthAtRank 20 = .ok (.aload_n 0, 1) := by decide +kernel
theorem dX1_lengthAtRank_21 : decode cX1_lengthAtRank 21 = .ok (.getfield 42, 3) := by decide +kernel
theorem dX1_lengthAtRank_24 : decode cX1_lengthAtRank 24 = .ok (.if_icmp .ge 59, 3) := by decide +kernel
theorem dX1_lengthAtRank_27 : decode cX1_lengthAtRank 27 = .ok (.iload_n 3, 1) := by decide +kernel
theorem dX1_lengthAtRank_28 : decode cX1_lengthAtRank 28 = .ok (.aload_n 0, 1) := by decide +kernel
theorem dX1_lengthAtRank_29 : decode cX1_lengthAtRank 29 = .ok (.getfield 9, 3) := by decide +kernel
theorem dX1_lengthAtRank_32 : decode cX1_lengthAtRank 32 = .ok (.iload 5, 2) := by decide +kernel
theorem dX1_lengthAtRank_34 : decode cX1_lengthAtRank 34 = .ok (.iaload, 1) := by decide +kernel
theorem dX1_lengthAtRank_35 : decode cX1_lengthAtRank 35 = .ok (.aload_n 0, 1) := by decide +kernel
theorem dX1_lengthAtRank_36 : decode cX1_lengthAtRank 36 = .ok (.getfield 9, 3) := by decide +kernel
theorem dX1_lengthAtRank_39 : decode cX1_lengthAtRank 39 = .ok (.iload_n 2, 1) := by decide +kernel
theorem dX1_lengthAtRank_40 : decode cX1_lengthAtRank 40 = .ok (.iaload, 1) := by decide +kernel
theorem dX1_lengthAtRank_41 : decode cX1_lengthAtRank 41 = .ok (.if_icmp .ge 7, 3) := by decide +kernel
theorem dX1_lengthAtRank_44 : decode cX1_lengthAtRank 44 = .ok (.iconst 1, 1) := by decide +kernel
theorem dX1_lengthAtRank_45 : decode cX1_lengthAtRank 45 = .ok (.goto 4, 3) := by decide +kernel
theorem dX1_lengthAtRank_48 : decode cX1_lengthAtRank 48 = .ok (.iconst 0, 1) := by decide +kernel
theorem dX1_lengthAtRank_49 : decode cX1_lengthAtRank 49 = .ok (.iadd, 1) := by decide +kernel
theorem dX1_lengthAtRank_50 : decode cX1_lengthAtRank 50 = .ok (.istore_n 3, 1) := by decide +kernel
theorem dX1_lengthAtRank_51 : decode cX1_lengthAtRank 51 = .ok (.iload 4, 2) := by decide +kernel
theorem dX1_lengthAtRank_53 : decode cX1_lengthAtRank 53 = .ok (.aload_n 0, 1) := by decide +kernel
theorem dX1_lengthAtRank_54 : decode cX1_lengthAtRank 54 = .ok (.getfield 9, 3) := by decide +kernel
theorem dX1_lengthAtRank_57 : decode cX1_lengthAtRank 57 = .ok (.iload 5, 2) := by decide +kernel
theorem dX1_lengthAtRank_59 : decode cX1_lengthAtRank 59 = .ok (.iaload, 1) := by decide +kernel
theorem dX1_lengthAtRank_60 : decode cX1_lengthAtRank 60 = .ok (.aload_n 0, 1) := by decide +kernel
theorem dX1_lengthAtRank_61 : decode cX1_lengthAtRank 61 = .ok (.getfield 9, 3) := by decide +kernel
theorem dX1_lengthAtRank_64 : decode cX1_lengthAtRank 64 = .ok (.iload_n 2, 1) := by decide +kernel
theorem dX1_lengthAtRank_65 : decode cX1_lengthAtRank 65 = .ok (.iaload, 1) := by decide +kernel
theorem dX1_lengthAtRank_66 : decode cX1_lengthAtRank 66 = .ok (.if_icmp .gt 7, 3) := by decide +kernel
theorem dX1_lengthAtRank_69 : decode cX1_lengthAtRank 69 = .ok (.iconst 1, 1) := by decide +kernel
theorem dX1_lengthAtRank_70 : decode cX1_lengthAtRank 70 = .ok (.goto 4, 3) := by decide +kernel
theorem dX1_lengthAtRank_73 : decode cX1_lengthAtRank 73 = .ok (.iconst 0, 1) := by decide +kernel
theorem dX1_lengthAtRank_74 : decode cX1_lengthAtRank 74 = .ok (.iadd, 1) := by decide +kernel
theorem dX1_lengthAtRank_75 : decode cX1_lengthAtRank 75 = .ok (.istore 4, 2) := by decide +kernel
theorem dX1_lengthAtRank_77 : decode cX1_lengthAtRank 77 = .ok (.iinc 5 1, 3) := by decide +kernel
theorem dX1_lengthAtRank_80 : decode cX1_lengthAtRank 80 = .ok (.goto (-62), 3) := by decide +kernel
theorem dX1_lengthAtRank_83 : decode cX1_lengthAtRank 83 = .ok (.iload_n 3, 1) := by decide +kernel
theorem dX1_lengthAtRank_84 : decode cX1_lengthAtRank 84 = .ok (.iload_n 1, 1) := by decide +kernel
theorem dX1_lengthAtRank_85 : decode cX1_lengthAtRank 85 = .ok (.if_icmp .gt 16, 3) := by decide +kernel
theorem dX1_lengthAtRank_88 : decode cX1_lengthAtRank 88 = .ok (.iload_n 1, 1) := by decide +kernel
theorem dX1_lengthAtRank_89 : decode cX1_lengthAtRank 89 = .ok (.iload 4, 2) := by decide +kernel
theorem dX1_lengthAtRank_91 : decode cX1_lengthAtRank 91 = .ok (.if_icmp .ge 10, 3) := by decide +kernel
theorem dX1_lengthAtRank_94 : decode cX1_lengthAtRank 94 = .ok (.aload_n 0, 1) := by decide +kernel
theorem dX1_lengthAtRank_95 : decode cX1_lengthAtRank 95 = .ok (.getfield 9, 3) := by decide +kernel
theorem dX1_lengthAtRank_98 : decode cX1_lengthAtRank 98 = .ok (.iload_n 2, 1) := by decide +kernel
theorem dX1_lengthAtRank_99 : decode cX1_lengthAtRank 99 = .ok (.iaload, 1) := by decide +kernel
theorem dX1_lengthAtRank_100 : decode cX1_lengthAtRank 100 = .ok (.ireturn, 1) := by decide +kernel
theorem dX1_lengthAtRank_101 : decode cX1_lengthAtRank 101 = .ok (.iinc 2 1, 3) := by decide +kernel
theorem dX1_lengthAtRank_104 : decode cX1_lengthAtRank 104 = .ok (.goto (-102), 3) := by decide +kernel
theorem dX1_lengthAtRank_107 : decode cX1_lengthAtRank 107 = .ok (.iconst (-1), 1) := by decide +kernel
theorem dX1_lengthAtRank_108 : decode cX1_lengthAtRank 108 = .ok (.ireturn, 1) := by decide +kernel
theorem dX1_copyFrom_0 : decode cX1_copyFrom 0 = .ok (.aload_n 1, 1) := by decide +kernel
theorem dX1_copyFrom_1 : decode cX1_copyFrom 1 = .ok (.getfield 9, 3) := by decide +kernel
theorem dX1_copyFrom_4 : decode cX1_copyFrom 4 = .ok (.iconst 0, 1) := by decide +kernel
theorem dX1_copyFrom_5 : decode cX1_copyFrom 5 = .ok (.aload_n 0, 1) := by decide +kernel
theorem dX1_copyFrom_6 : decode cX1_copyFrom 6 = .ok (.getfield 9, 3) := by decide +kernel
theorem dX1_copyFrom_9 : decode cX1_copyFrom 9 = .ok (.iconst 0, 1) := by decide +kernel
theorem dX1_copyFrom_10 : decode cX1_copyFrom 10 = .ok (.bipush 9, 2) := by decide +kernel
theorem dX1_copyFrom_12 : decode cX1_copyFrom 12 = .ok (.invokestatic 45, 3) := by decide +kernel
theorem dX1_copyFrom_15 : decode cX1_copyFrom 15 = .ok (.aload_n 0, 1) := by decide +kernel
theorem dX1_copyFrom_16 : decode cX1_copyFrom 16 = .ok (.aload_n 1, 1) := by decide +kernel
theorem dX1_copyFrom_17 : decode cX1_copyFrom 17 = .ok (.getfield 42, 3) := by decide +kernel
theorem dX1_copyFrom_20 : decode cX1_copyFrom 20 = .ok (.putfield 42, 3) := by decide +kernel
theorem dX1_copyFrom_23 : decode cX1_copyFrom 23 = .ok (.aload_n 0, 1) := by decide +kernel
theorem dX1_copyFrom_24 : decode cX1_copyFrom 24 = .ok (.aload_n 1, 1) := by decide +kernel
theorem dX1_copyFrom_25 : decode cX1_copyFrom 25 = .ok (.getfield 51, 3) := by decide +kernel
theorem dX1_copyFrom_28 : decode cX1_copyFrom 28 = .ok (.putfield 51, 3) := by decide +kernel
theorem dX1_copyFrom_31 : decode cX1_copyFrom 31 = .ok (.aload_n 0, 1) := by decide +kernel
theorem dX1_copyFrom_32 : decode cX1_copyFrom 32 = .ok (.aload_n 1, 1) := by decide +kernel
theorem dX1_copyFrom_33 : decode cX1_copyFrom 33 = .ok (.getfield 54, 3) := by decide +kernel
theorem dX1_copyFrom_36 : decode cX1_copyFrom 36 = .ok (.putfield 54, 3) := by decide +kernel
theorem dX1_copyFrom_39 : decode cX1_copyFrom 39 = .ok (.aload_n 0, 1) := by decide +kernel
theorem dX1_copyFrom_40 : decode cX1_copyFrom 40 = .ok (.aload_n 1, 1) := by decide +kernel
theorem dX1_copyFrom_41 : decode cX1_copyFrom 41 = .ok (.getfield 57, 3) := by decide +kernel
theorem dX1_copyFrom_44 : decode cX1_copyFrom 44 = .ok (.putfield 57, 3) := by decide +kernel
theorem dX1_copyFrom_47 : decode cX1_copyFrom 47 = .ok (.aload_n 0, 1) := by decide +kernel
theorem dX1_copyFrom_48 : decode cX1_copyFrom 48 = .ok (.aload_n 1, 1) := by decide +kernel
theorem dX1_copyFrom_49 : decode cX1_copyFrom 49 = .ok (.getfield 26, 3) := by decide +kernel
theorem dX1_copyFrom_52 : decode cX1_copyFrom 52 = .ok (.putfield 26, 3) := by decide +kernel
theorem dX1_copyFrom_55 : decode cX1_copyFrom 55 = .ok (.aload_n 0, 1) := by decide +kernel
theorem dX1_copyFrom_56 : decode cX1_copyFrom 56 = .ok (.aload_n 1, 1) := by decide +kernel
theorem dX1_copyFrom_57 : decode cX1_copyFrom 57 = .ok (.getfield 30, 3) := by decide +kernel
theorem dX1_copyFrom_60 : decode cX1_copyFrom 60 = .ok (.putfield 30, 3) := by decide +kernel
theorem dX1_copyFrom_63 : decode cX1_copyFrom 63 = .ok (.aload_n 0, 1) := by decide +kernel
theorem dX1_copyFrom_64 : decode cX1_copyFrom 64 = .ok (.aload_n 1, 1) := by decide +kernel
theorem dX1_copyFrom_65 : decode cX1_copyFrom 65 = .ok (.getfield 33, 3) := by decide +kernel
theorem dX1_copyFrom_68 : decode cX1_copyFrom 68 = .ok (.putfield 33, 3) := by decide +kernel
theorem dX1_copyFrom_71 : decode cX1_copyFrom 71 = .ok (.aload_n 0, 1) := by decide +kernel
theorem dX1_copyFrom_72 : decode cX1_copyFrom 72 = .ok (.aload_n 1, 1) := by decide +kernel
theorem dX1_copyFrom_73 : decode cX1_copyFrom 73 = .ok (.getfield 36, 3) := by decide +kernel
theorem dX1_copyFrom_76 : decode cX1_copyFrom 76 = .ok (.putfield 36, 3) := by decide +kernel
theorem dX1_copyFrom_79 : decode cX1_copyFrom 79 = .ok (.aload_n 0, 1) := by decide +kernel
theorem dX1_copyFrom_80 : decode cX1_copyFrom 80 = .ok (.aload_n 1, 1) := by decide +kernel
theorem dX1_copyFrom_81 : decode cX1_copyFrom 81 = .ok (.getfield 39, 3) := by decide +kernel
theorem dX1_copyFrom_84 : decode cX1_copyFrom 84 = .ok (.putfield 39, 3) := by decide +kernel
theorem dX1_copyFrom_87 : decode cX1_copyFrom 87 = .ok (.return_, 1) := by decide +kernel
theorem dX1_emptyOut_0 : decode cX1_emptyOut 0 = .ok (.aload_n 0, 1) := by decide +kernel
theorem dX1_emptyOut_1 : decode cX1_emptyOut 1 = .ok (.iconst 0, 1) := by decide +kernel
theorem dX1_emptyOut_2 : decode cX1_emptyOut 2 = .ok (.putfield 42, 3) := by decide +kernel
theorem dX1_emptyOut_5 : decode cX1_emptyOut 5 = .ok (.aload_n 0, 1) := by decide +kernel
theorem dX1_emptyOut_6 : decode cX1_emptyOut 6 = .ok (.iconst 0, 1) := by decide +kernel
theorem dX1_emptyOut_7 : decode cX1_emptyOut 7 = .ok (.putfield 51, 3) := by decide +kernel
theorem dX1_emptyOut_10 : decode cX1_emptyOut 10 = .ok (.aload_n 0, 1) := by decide +kernel
theorem dX1_emptyOut_11 : decode cX1_emptyOut 11 = .ok (.iconst 0, 1) := by decide +kernel
theorem dX1_emptyOut_12 : decode cX1_emptyOut 12 = .ok (.putfield 54, 3) := by decide +kernel
theorem dX1_emptyOut_15 : decode cX1_emptyOut 15 = .ok (.aload_n 0, 1) := by decide +kernel
theorem dX1_emptyOut_16 : decode cX1_emptyOut 16 = .ok (.iconst 0, 1) := by decide +kernel
theorem dX1_emptyOut_17 : decode cX1_emptyOut 17 = .ok (.putfield 57, 3) := by decide +kernel
theorem dX1_emptyOut_20 : decode cX1_emptyOut 20 = .ok (.return_, 1) := by decide +kernel
theorem dX1_addEel_0 : decode cX1_addEel 0 = .ok (.aload_n 0, 1) := by decide +kernel
theorem dX1_addEel_1 : decode cX1_addEel 1 = .ok (.getfield 42, 3) := by decide +kernel
theorem dX1_addEel_4 : decode cX1_addEel 4 = .ok (.bipush 9, 2) := by decide +kernel
theorem dX1_addEel_6 : decode cX1_addEel 6 = .ok (.if_icmp .lt 4, 3) := by decide +kernel
theorem dX1_addEel_9 : decode cX1_addEel 9 = .ok (.return_, 1) := by decide +kernel
theorem dX1_addEel_10 : decode cX1_addEel 10 = .ok (.aload_n 0, 1) := by decide +kernel
theorem dX1_addEel_11 : decode cX1_addEel 11 = .ok (.getfield 9, 3) := by decide +kernel
theorem dX1_addEel_14 : decode cX1_addEel 14 = .ok (.aload_n 0, 1) := by decide +kernel
theorem dX1_addEel_15 : decode cX1_addEel 15 = .ok (.getfield 42, 3) := by decide +kernel
theorem dX1_addEel_18 : decode cX1_addEel 18 = .ok (.iload_n 1, 1) := by decide +kernel
theorem dX1_addEel_19 : decode cX1_addEel 19 = .ok (.iastore, 1) := by decide +kernel
theorem dX1_addEel_20 : decode cX1_addEel 20 = .ok (.aload_n 0, 1) := by decide +kernel
theorem dX1_addEel_21 : decode cX1_addEel 21 = .ok (.dup, 1) := by decide +kernel
theorem dX1_addEel_22 : decode cX1_addEel 22 = .ok (.getfield 42, 3) := by decide +kernel
theorem dX1_addEel_25 : decode cX1_addEel 25 = .ok (.iconst 1, 1) := by decide +kernel
theorem dX1_addEel_26 : decode cX1_addEel 26 = .ok (.iadd, 1) := by decide +kernel
theorem dX1_addEel_27 : decode cX1_addEel 27 = .ok (.putfield 42, 3) := by decide +kernel
theorem dX1_addEel_30 : decode cX1_addEel 30 = .ok (.aload_n 0, 1) := by decide +kernel
theorem dX1_addEel_31 : decode cX1_addEel 31 = .ok (.dup, 1) := by decide +kernel
theorem dX1_addEel_32 : decode cX1_addEel 32 = .ok (.getfield 51, 3) := by decide +kernel
theorem dX1_addEel_35 : decode cX1_addEel 35 = .ok (.iload_n 1, 1) := by decide +kernel
theorem dX1_addEel_36 : decode cX1_addEel 36 = .ok (.iadd, 1) := by decide +kernel
theorem dX1_addEel_37 : decode cX1_addEel 37 = .ok (.putfield 51, 3) := by decide +kernel
theorem dX1_addEel_40 : decode cX1_addEel 40 = .ok (.aload_n 0, 1) := by decide +kernel
theorem dX1_addEel_41 : decode cX1_addEel 41 = .ok (.aload_n 0, 1) := by decide +kernel
theorem dX1_addEel_42 : decode cX1_addEel 42 = .ok (.getfield 54, 3) := by decide +kernel
theorem dX1_addEel_45 : decode cX1_addEel 45 = .ok (.iload_n 1, 1) := by decide +kernel
theorem dX1_addEel_46 : decode cX1_addEel 46 = .ok (.invokestatic 60, 3) := by decide +kernel
theorem dX1_addEel_49 : decode cX1_addEel 49 = .ok (.putfield 54, 3) := by decide +kernel
theorem dX1_addEel_52 : decode cX1_addEel 52 = .ok (.aload_n 0, 1) := by decide +kernel
theorem dX1_addEel_53 : decode cX1_addEel 53 = .ok (.dup, 1) := by decide +kernel
theorem dX1_addEel_54 : decode cX1_addEel 54 = .ok (.getfield 57, 3) := by decide +kernel
theorem dX1_addEel_57 : decode cX1_addEel 57 = .ok (.iload_n 1, 1) := by decide +kernel
theorem dX1_addEel_58 : decode cX1_addEel 58 = .ok (.bipush 60, 2) := by decide +kernel
theorem dX1_addEel_60 : decode cX1_addEel 60 = .ok (.if_icmp .lt 7, 3) := by decide +kernel
theorem dX1_addEel_63 : decode cX1_addEel 63 = .ok (.iconst 1, 1) := by decide +kernel
theorem dX1_addEel_64 : decode cX1_addEel 64 = .ok (.goto 4, 3) := by decide +kernel
theorem dX1_addEel_67 : decode cX1_addEel 67 = .ok (.iconst 0, 1) := by decide +kernel
theorem dX1_addEel_68 : decode cX1_addEel 68 = .ok (.iadd, 1) := by decide +kernel
theorem dX1_addEel_69 : decode cX1_addEel 69 = .ok (.putfield 57, 3) := by decide +kernel
theorem dX1_addEel_72 : decode cX1_addEel 72 = .ok (.return_, 1) := by decide +kernel
theorem dX2_init_0 : decode cX2_init 0 = .ok (.aload_n 0, 1) := by decide +kernel
theorem dX2_init_1 : decode cX2_init 1 = .ok (.invokespecial 1, 3) := by decide +kernel
theorem dX2_init_4 : decode cX2_init 4 = .ok (.return_, 1) := by decide +kernel
theorem dX2_begin_0 : decode cX2_begin 0 = .ok (.aload_n 0, 1) := by decide +kernel
theorem dX2_begin_1 : decode cX2_begin 1 = .ok (.iload_n 1, 1) := by decide +kernel
theorem dX2_begin_2 : decode cX2_begin 2 = .ok (.putfield 7, 3) := by decide +kernel
theorem dX2_begin_5 : decode cX2_begin 5 = .ok (.aload_n 0, 1) := by decide +kernel
theorem dX2_begin_6 : decode cX2_begin 6 = .ok (.iload_n 2, 1) := by decide +kernel
theorem dX2_begin_7 : decode cX2_begin 7 = .ok (.putfield 13, 3) := by decide +kernel
theorem dX2_begin_10 : decode cX2_begin 10 = .ok (.aload_n 0, 1) := by decide +kernel
theorem dX2_begin_11 : decode cX2_begin 11 = .ok (.iload_n 3, 1) := by decide +kernel
theorem dX2_begin_12 : decode cX2_begin 12 = .ok (.putfield 16, 3) := by decide +kernel
theorem dX2_begin_15 : decode cX2_begin 15 = .ok (.aload_n 0, 1) := by decide +kernel
theorem dX2_begin_16 : decode cX2_begin 16 = .ok (.iconst 0, 1) := by decide +kernel
theorem dX2_begin_17 : decode cX2_begin 17 = .ok (.putfield 19, 3) := by decide +kernel
theorem dX2_begin_20 : decode cX2_begin 20 = .ok (.aload_n 0, 1) := by decide +kernel
theorem dX2_begin_21 : decode cX2_begin 21 = .ok (.iconst 0, 1) := by decide +kernel
theorem dX2_begin_22 : decode cX2_begin 22 = .ok (.putfield 22, 3) := by decide +kernel
theorem dX2_begin_25 : decode cX2_begin 25 = .ok (.return_, 1) := by decide +kernel
theorem dX2_valueOf_0 : decode cX2_valueOf 0 = .ok (.aload_n 0, 1) := by decide +kernel
theorem dX2_valueOf_1 : decode cX2_valueOf 1 = .ok (.getfield 13, 3) := by decide +kernel
theorem dX2_valueOf_4 : decode cX2_valueOf 4 = .ok (.tableswitch 97 1 4 #[32, 47, 62, 82], 32) := by decide +kernel
theorem dX2_valueOf_36 : decode cX2_valueOf 36 = .ok (.aload_n 0, 1) := by decide +kernel
theorem dX2_valueOf_37 : decode cX2_valueOf 37 = .ok (.getfield 16, 3) := by decide +kernel
theorem dX2_valueOf_40 : decode cX2_valueOf 40 = .ok (.aload_n 1, 1) := by decide +kernel
theorem dX2_valueOf_41 : decode cX2_valueOf 41 = .ok (.getfield 25, 3) := by decide +kernel
theorem dX2_valueOf_44 : decode cX2_valueOf 44 = .ok (.imul, 1) := by decide +kernel
theorem dX2_valueOf_45 : decode cX2_valueOf 45 = .ok (.i2d, 1) := by decide +kernel
theorem dX2_valueOf_46 : decode cX2_valueOf 46 = .ok (.ldc2_w 30, 3) := by decide +kernel
theorem dX2_valueOf_49 : decode cX2_valueOf 49 = .ok (.ddiv, 1) := by decide +kernel
theorem dX2_valueOf_50 : decode cX2_valueOf 50 = .ok (.dreturn, 1) := by decide +kernel
theorem dX2_valueOf_51 : decode cX2_valueOf 51 = .ok (.aload_n 0, 1) := by decide +kernel
theorem dX2_valueOf_52 : decode cX2_valueOf 52 = .ok (.getfield 16, 3) := by decide +kernel
theorem dX2_valueOf_55 : decode cX2_valueOf 55 = .ok (.aload_n 1, 1) := by decide +kernel
theorem dX2_valueOf_56 : decode cX2_valueOf 56 = .ok (.getfield 32, 3) := by decide +kernel
theorem dX2_valueOf_59 : decode cX2_valueOf 59 = .ok (.imul, 1) := by decide +kernel
theorem dX2_valueOf_60 : decode cX2_valueOf 60 = .ok (.i2d, 1) := by decide +kernel
theorem dX2_valueOf_61 : decode cX2_valueOf 61 = .ok (.ldc2_w 35, 3) := by decide +kernel
theorem dX2_valueOf_64 : decode cX2_valueOf 64 = .ok (.ddiv, 1) := by decide +kernel
theorem dX2_valueOf_65 : decode cX2_valueOf 65 = .ok (.dreturn, 1) := by decide +kernel
theorem dX2_valueOf_66 : decode cX2_valueOf 66 = .ok (.aload_n 0, 1) := by decide +kernel
theorem dX2_valueOf_67 : decode cX2_valueOf 67 = .ok (.getfield 16, 3) := by decide +kernel
theorem dX2_valueOf_70 : decode cX2_valueOf 70 = .ok (.aload_n 1, 1) := by decide +kernel
theorem dX2_valueOf_71 : decode cX2_valueOf 71 = .ok (.getfield 37, 3) := by decide +kernel
theorem dX2_valueOf_74 : decode cX2_valueOf 74 = .ok (.imul, 1) := by decide +kernel
theorem dX2_valueOf_75 : decode cX2_valueOf 75 = .ok (.aload_n 1, 1) := by decide +kernel
theorem dX2_valueOf_76 : decode cX2_valueOf 76 = .ok (.getfield 32, 3) := by decide +kernel
theorem dX2_valueOf_79 : decode cX2_valueOf 79 = .ok (.imul, 1) := by decide +kernel
theorem dX2_valueOf_80 : decode cX2_valueOf 80 = .ok (.i2d, 1) := by decide +kernel
theorem dX2_valueOf_81 : decode cX2_valueOf 81 = .ok (.ldc2_w 30, 3) := by decide +kernel
theorem dX2_valueOf_84 : decode cX2_valueOf 84 = .ok (.ddiv, 1) := by decide +kernel
theorem dX2_valueOf_85 : decode cX2_valueOf 85 = .ok (.dreturn, 1) := by decide +kernel
theorem dX2_valueOf_86 : decode cX2_valueOf 86 = .ok (.aload_n 0, 1) := by decide +kernel
theorem dX2_valueOf_87 : decode cX2_valueOf 87 = .ok (.getfield 16, 3) := by decide +kernel
theorem dX2_valueOf_90 : decode cX2_valueOf 90 = .ok (.aload_n 1, 1) := by decide +kernel
theorem dX2_valueOf_91 : decode cX2_valueOf 91 = .ok (.getfield 40, 3) := by decide +kernel
theorem dX2_valueOf_94 : decode cX2_valueOf 94 = .ok (.imul, 1) := by decide +kernel
theorem dX2_valueOf_95 : decode cX2_valueOf 95 = .ok (.i2d, 1) := by decide +kernel
theorem dX2_valueOf_96 : decode cX2_valueOf 96 = .ok (.ldc2_w 43, 3) := by decide +kernel
theorem dX2_valueOf_99 : decode cX2_valueOf 99 = .ok (.ddiv, 1) := by decide +kernel
theorem dX2_valueOf_100 : decode cX2_valueOf 100 = .ok (.dreturn, 1) := by decide +kernel
theorem dX2_valueOf_101 : decode cX2_valueOf 101 = .ok (.dconst 0, 1) := by decide +kernel
theorem dX2_valueOf_102 : decode cX2_valueOf 102 = .ok (.dreturn, 1) := by decide +kernel
theorem dX2_copyFrom_0 : decode cX2_copyFrom 0 = .ok (.aload_n 0, 1) := by decide +kernel
theorem dX2_copyFrom_1 : decode cX2_copyFrom 1 = .ok (.aload_n 1, 1) := by decide +kernel
theorem dX2_copyFrom_2 : decode cX2_copyFrom 2 = .ok (.getfield 7, 3) := by decide +kernel
theorem dX2_copyFrom_5 : decode cX2_copyFrom 5 = .ok (.putfield 7, 3) := by decide +kernel
theorem dX2_copyFrom_8 : decode cX2_copyFrom 8 = .ok (.aload_n 0, 1) := by decide +kernel
theorem dX2_copyFrom_9 : decode cX2_copyFrom 9 = .ok (.aload_n 1, 1) := by decide +kernel
theorem dX2_copyFrom_10 : decode cX2_copyFrom 10 = .ok (.getfield 13, 3) := by decide +kernel
theorem dX2_copyFrom_13 : decode cX2_copyFrom 13 = .ok (.putfield 13, 3) := by decide +kernel
theorem dX2_copyFrom_16 : decode cX2_copyFrom 16 = .ok (.aload_n 0, 1) := by decide +kernel
theorem dX2_copyFrom_17 : decode cX2_copyFrom 17 = .ok (.aload_n 1, 1) := by decide +kernel
theorem dX2_copyFrom_18 : decode cX2_copyFrom 18 = .ok (.getfield 16, 3) := by decide +kernel
theorem dX2_copyFrom_21 : decode cX2_copyFrom 21 = .ok (.putfield 16, 3) := by decide +kernel
theorem dX2_copyFrom_24 : decode cX2_copyFrom 24 = .ok (.aload_n 0, 1) := by decide +kernel
theorem dX2_copyFrom_25 : decode cX2_copyFrom 25 = .ok (.aload_n 1, 1) := by decide +kernel
theorem dX2_copyFrom_26 : decode cX2_copyFrom 26 = .ok (.getfield 19, 3) := by decide +kernel
theorem dX2_copyFrom_29 : decode cX2_copyFrom 29 = .ok (.putfield 19, 3) := by decide +kernel
theorem dX2_copyFrom_32 : decode cX2_copyFrom 32 = .ok (.aload_n 0, 1) := by decide +kernel
theorem dX2_copyFrom_33 : decode cX2_copyFrom 33 = .ok (.aload_n 1, 1) := by decide +kernel
theorem dX2_copyFrom_34 : decode cX2_copyFrom 34 = .ok (.getfield 22, 3) := by decide +kernel
theorem dX2_copyFrom_37 : decode cX2_copyFrom 37 = .ok (.putfield 22, 3) := by decide +kernel
theorem dX2_copyFrom_40 : decode cX2_copyFrom 40 = .ok (.return_, 1) := by decide +kernel
theorem dX3_init_0 : decode cX3_init 0 = .ok (.aload_n 0, 1) := by decide +kernel
theorem dX3_init_1 : decode cX3_init 1 = .ok (.invokespecial 3, 3) := by decide +kernel
theorem dX3_init_4 : decode cX3_init 4 = .ok (.aload_n 0, 1) := by decide +kernel
theorem dX3_init_5 : decode cX3_init 5 = .ok (.getstatic 9, 3) := by decide +kernel
theorem dX3_init_8 : decode cX3_init 8 = .ok (.putfield 15, 3) := by decide +kernel
theorem dX3_init_11 : decode cX3_init 11 = .ok (.aload_n 0, 1) := by decide +kernel
theorem dX3_init_12 : decode cX3_init 12 = .ok (.bipush 9, 2) := by decide +kernel
theorem dX3_init_14 : decode cX3_init 14 = .ok (.newarray .int, 2) := by decide +kernel
theorem dX3_init_16 : decode cX3_init 16 = .ok (.putfield 20, 3) := by decide +kernel
theorem dX3_init_19 : decode cX3_init 19 = .ok (.return_, 1) := by decide +kernel
theorem dX4_init_0 : decode cX4_init 0 = .ok (.aload_n 0, 1) := by decide +kernel
theorem dX4_init_1 : decode cX4_init 1 = .ok (.invokespecial 3, 3) := by decide +kernel
theorem dX4_init_4 : decode cX4_init 4 = .ok (.aload_n 0, 1) := by decide +kernel
theorem dX4_init_5 : decode cX4_init 5 = .ok (.bipush 8, 2) := by decide +kernel
theorem dX4_init_7 : decode cX4_init 7 = .ok (.anewarray 9, 3) := by decide +kernel
theorem dX4_init_10 : decode cX4_init 10 = .ok (.putfield 11, 3) := by decide +kernel
theorem dX4_init_13 : decode cX4_init 13 = .ok (.iconst 0, 1) := by decide +kernel
theorem dX4_init_14 : decode cX4_init 14 = .ok (.istore_n 1, 1) := by decide +kernel
theorem dX4_init_15 : decode cX4_init 15 = .ok (.iload_n 1, 1) := by decide +kernel
theorem dX4_init_16 : decode cX4_init 16 = .ok (.bipush 8, 2) := by decide +kernel
theorem dX4_init_18 : decode cX4_init 18 = .ok (.if_icmp .ge 22, 3) := by decide +kernel
theorem dX4_init_21 : decode cX4_init 21 = .ok (.aload_n 0, 1) := by decide +kernel
theorem dX4_init_22 : decode cX4_init 22 = .ok (.getfield 11, 3) := by decide +kernel
theorem dX4_init_25 : decode cX4_init 25 = .ok (.iload_n 1, 1) := by decide +kernel
theorem dX4_init_26 : decode cX4_init 26 = .ok (.new 9, 3) := by decide +kernel
theorem dX4_init_29 : decode cX4_init 29 = .ok (.dup, 1) := by decide +kernel
theorem dX4_init_30 : decode cX4_init 30 = .ok (.invokespecial 17, 3) := by decide +kernel
theorem dX4_init_33 : decode cX4_init 33 = .ok (.aastore, 1) := by decide +kernel
theorem dX4_init_34 : decode cX4_init 34 = .ok (.iinc 1 1, 3) := by decide +kernel
theorem dX4_init_37 : decode cX4_init 37 = .ok (.goto (-22), 3) := by decide +kernel
theorem dX4_init_40 : decode cX4_init 40 = .ok (.return_, 1) := by decide +kernel
theorem dX4_remember_0 : decode cX4_remember 0 = .ok (.aload_n 0, 1) := by decide +kernel
theorem dX4_remember_1 : decode cX4_remember 1 = .ok (.getfield 11, 3) := by decide +kernel
theorem dX4_remember_4 : decode cX4_remember 4 = .ok (.aload_n 0, 1) := by decide +kernel
theorem dX4_remember_5 : decode cX4_remember 5 = .ok (.getfield 18, 3) := by decide +kernel
theorem dX4_remember_8 : decode cX4_remember 8 = .ok (.aaload, 1) := by decide +kernel
theorem dX4_remember_9 : decode cX4_remember 9 = .ok (.aload_n 1, 1) := by decide +kernel
theorem dX4_remember_10 : decode cX4_remember 10 = .ok (.invokevirtual 22, 3) := by decide +kernel
theorem dX4_remember_13 : decode cX4_remember 13 = .ok (.aload_n 0, 1) := by decide +kernel
theorem dX4_remember_14 : decode cX4_remember 14 = .ok (.aload_n 0, 1) := by decide +kernel
theorem dX4_remember_15 : decode cX4_remember 15 = .ok (.getfield 18, 3) := by decide +kernel
theorem dX4_remember_18 : decode cX4_remember 18 = .ok (.iconst 1, 1) := by decide +kernel
theorem dX4_remember_19 : decode cX4_remember 19 = .ok (.iadd, 1) := by decide +kernel
theorem dX4_remember_20 : decode cX4_remember 20 = .ok (.bipush 8, 2) := by decide +kernel
theorem dX4_remember_22 : decode cX4_remember 22 = .ok (.irem, 1) := by decide +kernel
theorem dX4_remember_23 : decode cX4_remember 23 = .ok (.putfield 18, 3) := by decide +kernel
theorem dX4_remember_26 : decode cX4_remember 26 = .ok (.aload_n 0, 1) := by decide +kernel
theorem dX4_remember_27 : decode cX4_remember 27 = .ok (.aload_n 0, 1) := by decide +kernel
theorem dX4_remember_28 : decode cX4_remember 28 = .ok (.getfield 26, 3) := by decide +kernel
theorem dX4_remember_31 : decode cX4_remember 31 = .ok (.iconst 1, 1) := by decide +kernel
theorem dX4_remember_32 : decode cX4_remember 32 = .ok (.iadd, 1) := by decide +kernel
theorem dX4_remember_33 : decode cX4_remember 33 = .ok (.bipush 8, 2) := by decide +kernel
theorem dX4_remember_35 : decode cX4_remember 35 = .ok (.invokestatic 29, 3) := by decide +kernel
theorem dX4_remember_38 : decode cX4_remember 38 = .ok (.putfield 26, 3) := by decide +kernel
theorem dX4_remember_41 : decode cX4_remember 41 = .ok (.return_, 1) := by decide +kernel
theorem dX5_init_0 : decode cX5_init 0 = .ok (.aload_n 0, 1) := by decide +kernel
theorem dX5_init_1 : decode cX5_init 1 = .ok (.invokespecial 3, 3) := by decide +kernel
theorem dX5_init_4 : decode cX5_init 4 = .ok (.aload_n 0, 1) := by decide +kernel
theorem dX5_init_5 : decode cX5_init 5 = .ok (.sipush 500, 3) := by decide +kernel
theorem dX5_init_8 : decode cX5_init 8 = .ok (.newarray .int, 2) := by decide +kernel
theorem dX5_init_10 : decode cX5_init 10 = .ok (.putfield 9, 3) := by decide +kernel
theorem dX5_init_13 : decode cX5_init 13 = .ok (.return_, 1) := by decide +kernel
theorem dX5_addFour_0 : decode cX5_addFour 0 = .ok (.bipush 24, 2) := by decide +kernel
theorem dX5_addFour_2 : decode cX5_addFour 2 = .ok (.istore_n 2, 1) := by decide +kernel
theorem dX5_addFour_3 : decode cX5_addFour 3 = .ok (.iload_n 2, 1) := by decide +kernel
theorem dX5_addFour_4 : decode cX5_addFour 4 = .ok (.ifCond .lt 20, 3) := by decide +kernel
theorem dX5_addFour_7 : decode cX5_addFour 7 = .ok (.aload_n 0, 1) := by decide +kernel
theorem dX5_addFour_8 : decode cX5_addFour 8 = .ok (.iload_n 1, 1) := by decide +kernel
theorem dX5_addFour_9 : decode cX5_addFour 9 = .ok (.iload_n 2, 1) := by decide +kernel
theorem dX5_addFour_10 : decode cX5_addFour 10 = .ok (.iushr, 1) := by decide +kernel
theorem dX5_addFour_11 : decode cX5_addFour 11 = .ok (.sipush 255, 3) := by decide +kernel
theorem dX5_addFour_14 : decode cX5_addFour 14 = .ok (.iand, 1) := by decide +kernel
theorem dX5_addFour_15 : decode cX5_addFour 15 = .ok (.invokevirtual 15, 3) := by decide +kernel
theorem dX5_addFour_18 : decode cX5_addFour 18 = .ok (.iinc 2 (-8), 3) := by decide +kernel
theorem dX5_addFour_21 : decode cX5_addFour 21 = .ok (.goto (-18), 3) := by decide +kernel
theorem dX5_addFour_24 : decode cX5_addFour 24 = .ok (.return_, 1) := by decide +kernel
theorem dX5_addSigns_0 : decode cX5_addSigns 0 = .ok (.iconst 0, 1) := by decide +kernel
theorem dX5_addSigns_1 : decode cX5_addSigns 1 = .ok (.istore_n 2, 1) := by decide +kernel
theorem dX5_addSigns_2 : decode cX5_addSigns 2 = .ok (.iload_n 2, 1) := by decide +kernel
theorem dX5_addSigns_3 : decode cX5_addSigns 3 = .ok (.aload_n 1, 1) := by decide +kernel
theorem dX5_addSigns_4 : decode cX5_addSigns 4 = .ok (.invokevirtual 19, 3) := by decide +kernel
theorem dX5_addSigns_7 : decode cX5_addSigns 7 = .ok (.if_icmp .ge 18, 3) := by decide +kernel
theorem dX5_addSigns_10 : decode cX5_addSigns 10 = .ok (.aload_n 0, 1) := by decide +kernel
theorem dX5_addSigns_11 : decode cX5_addSigns 11 = .ok (.aload_n 1, 1) := by decide +kernel
theorem dX5_addSigns_12 : decode cX5_addSigns 12 = .ok (.iload_n 2, 1) := by decide +kernel
theorem dX5_addSigns_13 : decode cX5_addSigns 13 = .ok (.invokevirtual 25, 3) := by decide +kernel
theorem dX5_addSigns_16 : decode cX5_addSigns 16 = .ok (.invokevirtual 15, 3) := by decide +kernel
theorem dX5_addSigns_19 : decode cX5_addSigns 19 = .ok (.iinc 2 1, 3) := by decide +kernel
theorem dX5_addSigns_22 : decode cX5_addSigns 22 = .ok (.goto (-20), 3) := by decide +kernel
theorem dX5_addSigns_25 : decode cX5_addSigns 25 = .ok (.return_, 1) := by decide +kernel
theorem dX5_restart_0 : decode cX5_restart 0 = .ok (.aload_n 0, 1) := by decide +kernel
theorem dX5_restart_1 : decode cX5_restart 1 = .ok (.iconst 0, 1) := by decide +kernel
theorem dX5_restart_2 : decode cX5_restart 2 = .ok (.putfield 29, 3) := by decide +kernel
theorem dX5_restart_5 : decode cX5_restart 5 = .ok (.aload_n 0, 1) := by decide +kernel
theorem dX5_restart_6 : decode cX5_restart 6 = .ok (.invokevirtual 33, 3) := by decide +kernel
theorem dX5_restart_9 : decode cX5_restart 9 = .ok (.return_, 1) := by decide +kernel
theorem dX5_advance_0 : decode cX5_advance 0 = .ok (.aload_n 0, 1) := by decide +kernel
theorem dX5_advance_1 : decode cX5_advance 1 = .ok (.aload_n 0, 1) := by decide +kernel
theorem dX5_advance_2 : decode cX5_advance 2 = .ok (.getfield 29, 3) := by decide +kernel
theorem dX5_advance_5 : decode cX5_advance 5 = .ok (.putfield 36, 3) := by decide +kernel
theorem dX5_advance_8 : decode cX5_advance 8 = .ok (.aload_n 0, 1) := by decide +kernel
theorem dX5_advance_9 : decode cX5_advance 9 = .ok (.getfield 36, 3) := by decide +kernel
theorem dX5_advance_12 : decode cX5_advance 12 = .ok (.aload_n 0, 1) := by decide +kernel
theorem dX5_advance_13 : decode cX5_advance 13 = .ok (.getfield 39, 3) := by decide +kernel
theorem dX5_advance_16 : decode cX5_advance 16 = .ok (.if_icmp .ge 30, 3) := by decide +kernel
theorem dX5_advance_19 : decode cX5_advance 19 = .ok (.aload_n 0, 1) := by decide +kernel
theorem dX5_advance_20 : decode cX5_advance 20 = .ok (.getfield 9, 3) := by decide +kernel
theorem dX5_advance_23 : decode cX5_advance 23 = .ok (.aload_n 0, 1) := by decide +kernel
theorem dX5_advance_24 : decode cX5_advance 24 = .ok (.getfield 36, 3) := by decide +kernel
theorem dX5_advance_27 : decode cX5_advance 27 = .ok (.iaload, 1) := by decide +kernel
theorem dX5_advance_28 : decode cX5_advance 28 = .ok (.bipush 32, 2) := by decide +kernel
theorem dX5_advance_30 : decode cX5_advance 30 = .ok (.if_icmp .ne 16, 3) := by decide +kernel
theorem dX5_advance_33 : decode cX5_advance 33 = .ok (.aload_n 0, 1) := by decide +kernel
theorem dX5_advance_34 : decode cX5_advance 34 = .ok (.dup, 1) := by decide +kernel
theorem dX5_advance_35 : decode cX5_advance 35 = .ok (.getfield 36, 3) := by decide +kernel
theorem dX5_advance_38 : decode cX5_advance 38 = .ok (.iconst 1, 1) := by decide +kernel
theorem dX5_advance_39 : decode cX5_advance 39 = .ok (.iadd, 1) := by decide +kernel
theorem dX5_advance_40 : decode cX5_advance 40 = .ok (.putfield 36, 3) := by decide +kernel
theorem dX5_advance_43 : decode cX5_advance 43 = .ok (.goto (-35), 3) := by decide +kernel
theorem dX5_advance_46 : decode cX5_advance 46 = .ok (.aload_n 0, 1) := by decide +kernel
theorem dX5_advance_47 : decode cX5_advance 47 = .ok (.aload_n 0, 1) := by decide +kernel
theorem dX5_advance_48 : decode cX5_advance 48 = .ok (.getfield 36, 3) := by decide +kernel
theorem dX5_advance_51 : decode cX5_advance 51 = .ok (.putfield 29, 3) := by decide +kernel
theorem dX5_advance_54 : decode cX5_advance 54 = .ok (.aload_n 0, 1) := by decide +kernel
theorem dX5_advance_55 : decode cX5_advance 55 = .ok (.aload_n 0, 1) := by decide +kernel
theorem dX5_advance_56 : decode cX5_advance 56 = .ok (.aload_n 0, 1) := by decide +kernel
theorem dX5_advance_57 : decode cX5_advance 57 = .ok (.getfield 36, 3) := by decide +kernel
theorem dX5_advance_60 : decode cX5_advance 60 = .ok (.invokevirtual 42, 3) := by decide +kernel
theorem dX5_advance_63 : decode cX5_advance 63 = .ok (.putfield 46, 3) := by decide +kernel
theorem dX5_advance_66 : decode cX5_advance 66 = .ok (.aload_n 0, 1) := by decide +kernel
theorem dX5_advance_67 : decode cX5_advance 67 = .ok (.iconst 0, 1) := by decide +kernel
theorem dX5_advance_68 : decode cX5_advance 68 = .ok (.putfield 49, 3) := by decide +kernel
theorem dX5_advance_71 : decode cX5_advance 71 = .ok (.aload_n 0, 1) := by decide +kernel
theorem dX5_advance_72 : decode cX5_advance 72 = .ok (.getfield 46, 3) := by decide +kernel
theorem dX5_advance_75 : decode cX5_advance 75 = .ok (.iconst 1, 1) := by decide +kernel
theorem dX5_advance_76 : decode cX5_advance 76 = .ok (.if_icmp .eq 11, 3) := by decide +kernel
theorem dX5_advance_79 : decode cX5_advance 79 = .ok (.aload_n 0, 1) := by decide +kernel
theorem dX5_advance_80 : decode cX5_advance 80 = .ok (.getfield 46, 3) := by decide +kernel
theorem dX5_advance_83 : decode cX5_advance 83 = .ok (.iconst 2, 1) := by decide +kernel
theorem dX5_advance_84 : decode cX5_advance 84 = .ok (.if_icmp .ne 7, 3) := by decide +kernel
theorem dX5_advance_87 : decode cX5_advance 87 = .ok (.iconst 1, 1) := by decide +kernel
theorem dX5_advance_88 : decode cX5_advance 88 = .ok (.goto 4, 3) := by decide +kernel
theorem dX5_advance_91 : decode cX5_advance 91 = .ok (.iconst 0, 1) := by decide +kernel
theorem dX5_advance_92 : decode cX5_advance 92 = .ok (.istore_n 1, 1) := by decide +kernel
theorem dX5_advance_93 : decode cX5_advance 93 = .ok (.aload_n 0, 1) := by decide +kernel
theorem dX5_advance_94 : decode cX5_advance 94 = .ok (.getfield 29, 3) := by decide +kernel
theorem dX5_advance_97 : decode cX5_advance 97 = .ok (.aload_n 0, 1) := by decide +kernel
theorem dX5_advance_98 : decode cX5_advance 98 = .ok (.getfield 39, 3) := by decide +kernel
theorem dX5_advance_101 : decode cX5_advance 101 = .ok (.if_icmp .ge 83, 3) := by decide +kernel
theorem dX5_advance_104 : decode cX5_advance 104 = .ok (.aload_n 0, 1) := by decide +kernel
theorem dX5_advance_105 : decode cX5_advance 105 = .ok (.aload_n 0, 1) := by decide +kernel
theorem dX5_advance_106 : decode cX5_advance 106 = .ok (.getfield 29, 3) := by decide +kernel
theorem dX5_advance_109 : decode cX5_advance 109 = .ok (.invokevirtual 42, 3) := by decide +kernel
theorem dX5_advance_112 : decode cX5_advance 112 = .ok (.aload_n 0, 1) := by decide +kernel
theorem dX5_advance_113 : decode cX5_advance 113 = .ok (.getfield 46, 3) := by decide +kernel
theorem dX5_advance_116 : decode cX5_advance 116 = .ok (.if_icmp .ne 68, 3) := by decide +kernel
theorem dX5_advance_119 : decode cX5_advance 119 = .ok (.iload_n 1, 1) := by decide +kernel
theorem dX5_advance_120 : decode cX5_advance 120 = .ok (.ifCond .ne 14, 3) := by decide +kernel
theorem dX5_advance_123 : decode cX5_advance 123 = .ok (.aload_n 0, 1) := by decide +kernel
theorem dX5_advance_124 : decode cX5_advance 124 = .ok (.getfield 29, 3) := by decide +kernel
theorem dX5_advance_127 : decode cX5_advance 127 = .ok (.aload_n 0, 1) := by decide +kernel
theorem dX5_advance_128 : decode cX5_advance 128 = .ok (.getfield 36, 3) := by decide +kernel
theorem dX5_advance_131 : decode cX5_advance 131 = .ok (.if_icmp .ne 53, 3) := by decide +kernel
theorem dX5_advance_134 : decode cX5_advance 134 = .ok (.aload_n 0, 1) := by decide +kernel
theorem dX5_advance_135 : decode cX5_advance 135 = .ok (.getfield 46, 3) := by decide +kernel
theorem dX5_advance_138 : decode cX5_advance 138 = .ok (.iconst 2, 1) := by decide +kernel
theorem dX5_advance_139 : decode cX5_advance 139 = .ok (.if_icmp .ne 32, 3) := by decide +kernel
theorem dX5_advance_142 : decode cX5_advance 142 = .ok (.aload_n 0, 1) := by decide +kernel
theorem dX5_advance_143 : decode cX5_advance 143 = .ok (.aload_n 0, 1) := by decide +kernel
theorem dX5_advance_144 : decode cX5_advance 144 = .ok (.getfield 49, 3) := by decide +kernel
theorem dX5_advance_147 : decode cX5_advance 147 = .ok (.bipush 10, 2) := by decide +kernel
theorem dX5_advance_149 : decode cX5_advance 149 = .ok (.imul, 1) := by decide +kernel
theorem dX5_advance_150 : decode cX5_advance 150 = .ok (.aload_n 0, 1) := by decide +kernel
theorem dX5_advance_151 : decode cX5_advance 151 = .ok (.getfield 9, 3) := by decide +kernel
theorem dX5_advance_154 : decode cX5_advance 154 = .ok (.aload_n 0, 1) := by decide +kernel
theorem dX5_advance_155 : decode cX5_advance 155 = .ok (.getfield 29, 3) := by decide +kernel
theorem dX5_advance_158 : decode cX5_advance 158 = .ok (.iaload, 1) := by decide +kernel
theorem dX5_advance_159 : decode cX5_advance 159 = .ok (.bipush 48, 2) := by decide +kernel
theorem dX5_advance_161 : decode cX5_advance 161 = .ok (.isub, 1) := by decide +kernel
theorem dX5_advance_162 : decode cX5_advance 162 = .ok (.iadd, 1) := by decide +kernel
theorem dX5_advance_163 : decode cX5_advance 163 = .ok (.ldc 52, 2) := by decide +kernel
theorem dX5_advance_165 : decode cX5_advance 165 = .ok (.invokestatic 53, 3) := by decide +kernel
theorem dX5_advance_168 : decode cX5_advance 168 = .ok (.putfield 49, 3) := by decide +kernel
theorem dX5_advance_171 : decode cX5_advance 171 = .ok (.aload_n 0, 1) := by decide +kernel
theorem dX5_advance_172 : decode cX5_advance 172 = .ok (.dup, 1) := by decide +kernel
theorem dX5_advance_173 : decode cX5_advance 173 = .ok (.getfield 29, 3) := by decide +kernel
theorem dX5_advance_176 : decode cX5_advance 176 = .ok (.iconst 1, 1) := by decide +kernel
theorem dX5_advance_177 : decode cX5_advance 177 = .ok (.iadd, 1) := by decide +kernel
theorem dX5_advance_178 : decode cX5_advance 178 = .ok (.putfield 29, 3) := by decide +kernel
theorem dX5_advance_181 : decode cX5_advance 181 = .ok (.goto (-88), 3) := by decide +kernel
theorem dX5_advance_184 : decode cX5_advance 184 = .ok (.return_, 1) := by decide +kernel
theorem dX5_isWord_0 : decode cX5_isWord 0 = .ok (.aload_n 0, 1) := by decide +kernel
theorem dX5_isWord_1 : decode cX5_isWord 1 = .ok (.getfield 46, 3) := by decide +kernel
theorem dX5_isWord_4 : decode cX5_isWord 4 = .ok (.iconst 1, 1) := by decide +kernel
theorem dX5_isWord_5 : decode cX5_isWord 5 = .ok (.if_icmp .ne 19, 3) := by decide +kernel
theorem dX5_isWord_8 : decode cX5_isWord 8 = .ok (.aload_n 0, 1) := by decide +kernel
theorem dX5_isWord_9 : decode cX5_isWord 9 = .ok (.getfield 29, 3) := by decide +kernel
theorem dX5_isWord_12 : decode cX5_isWord 12 = .ok (.aload_n 0, 1) := by decide +kernel
theorem dX5_isWord_13 : decode cX5_isWord 13 = .ok (.getfield 36, 3) := by decide +kernel
theorem dX5_isWord_16 : decode cX5_isWord 16 = .ok (.isub, 1) := by decide +kernel
theorem dX5_isWord_17 : decode cX5_isWord 17 = .ok (.aload_n 1, 1) := by decide +kernel
theorem dX5_isWord_18 : decode cX5_isWord 18 = .ok (.invokevirtual 19, 3) := by decide +kernel
theorem dX5_isWord_21 : decode cX5_isWord 21 = .ok (.if_icmp .eq 5, 3) := by decide +kernel
theorem dX5_isWord_24 : decode cX5_isWord 24 = .ok (.iconst 0, 1) := by decide +kernel
theorem dX5_isWord_25 : decode cX5_isWord 25 = .ok (.ireturn, 1) := by decide +kernel
theorem dX5_isWord_26 : decode cX5_isWord 26 = .ok (.iconst 0, 1) := by decide +kernel
theorem dX5_isWord_27 : decode cX5_isWord 27 = .ok (.istore_n 2, 1) := by decide +kernel
theorem dX5_isWord_28 : decode cX5_isWord 28 = .ok (.iload_n 2, 1) := by decide +kernel
theorem dX5_isWord_29 : decode cX5_isWord 29 = .ok (.aload_n 1, 1) := by decide +kernel
theorem dX5_isWord_30 : decode cX5_isWord 30 = .ok (.invokevirtual 19, 3) := by decide +kernel
theorem dX5_isWord_33 : decode cX5_isWord 33 = .ok (.if_icmp .ge 30, 3) := by decide +kernel
theorem dX5_isWord_36 : decode cX5_isWord 36 = .ok (.aload_n 0, 1) := by decide +kernel
theorem dX5_isWord_37 : decode cX5_isWord 37 = .ok (.getfield 9, 3) := by decide +kernel
theorem dX5_isWord_40 : decode cX5_isWord 40 = .ok (.aload_n 0, 1) := by decide +kernel
theorem dX5_isWord_41 : decode cX5_isWord 41 = .ok (.getfield 36, 3) := by decide +kernel
theorem dX5_isWord_44 : decode cX5_isWord 44 = .ok (.iload_n 2, 1) := by decide +kernel
theorem dX5_isWord_45 : decode cX5_isWord 45 = .ok (.iadd, 1) := by decide +kernel
theorem dX5_isWord_46 : decode cX5_isWord 46 = .ok (.iaload, 1) := by decide +kernel
theorem dX5_isWord_47 : decode cX5_isWord 47 = .ok (.aload_n 1, 1) := by decide +kernel
theorem dX5_isWord_48 : decode cX5_isWord 48 = .ok (.iload_n 2, 1) := by decide +kernel
theorem dX5_isWord_49 : decode cX5_isWord 49 = .ok (.invokevirtual 25, 3) := by decide +kernel
theorem dX5_isWord_52 : decode cX5_isWord 52 = .ok (.if_icmp .eq 5, 3) := by decide +kernel
theorem dX5_isWord_55 : decode cX5_isWord 55 = .ok (.iconst 0, 1) := by decide +kernel
theorem dX5_isWord_56 : decode cX5_isWord 56 = .ok (.ireturn, 1) := by decide +kernel
theorem dX5_isWord_57 : decode cX5_isWord 57 = .ok (.iinc 2 1, 3) := by decide +kernel
theorem dX5_isWord_60 : decode cX5_isWord 60 = .ok (.goto (-32), 3) := by decide +kernel
theorem dX5_isWord_63 : decode cX5_isWord 63 = .ok (.iconst 1, 1) := by decide +kernel
theorem dX5_isWord_64 : decode cX5_isWord 64 = .ok (.ireturn, 1) := by decide +kernel
theorem dX5_addByte_0 : decode cX5_addByte 0 = .ok (.aload_n 0, 1) := by decide +kernel
theorem dX5_addByte_1 : decode cX5_addByte 1 = .ok (.getfield 39, 3) := by decide +kernel
theorem dX5_addByte_4 : decode cX5_addByte 4 = .ok (.sipush 500, 3) := by decide +kernel
theorem dX5_addByte_7 : decode cX5_addByte 7 = .ok (.if_icmp .ge 23, 3) := by decide +kernel
theorem dX5_addByte_10 : decode cX5_addByte 10 = .ok (.aload_n 0, 1) := by decide +kernel
theorem dX5_addByte_11 : decode cX5_addByte 11 = .ok (.getfield 9, 3) := by decide +kernel
theorem dX5_addByte_14 : decode cX5_addByte 14 = .ok (.aload_n 0, 1) := by decide +kernel
theorem dX5_addByte_15 : decode cX5_addByte 15 = .ok (.getfield 39, 3) := by decide +kernel
theorem dX5_addByte_18 : decode cX5_addByte 18 = .ok (.iload_n 1, 1) := by decide +kernel
theorem dX5_addByte_19 : decode cX5_addByte 19 = .ok (.iastore, 1) := by decide +kernel
theorem dX5_addByte_20 : decode cX5_addByte 20 = .ok (.aload_n 0, 1) := by decide +kernel
theorem dX5_addByte_21 : decode cX5_addByte 21 = .ok (.dup, 1) := by decide +kernel
theorem dX5_addByte_22 : decode cX5_addByte 22 = .ok (.getfield 39, 3) := by decide +kernel
theorem dX5_addByte_25 : decode cX5_addByte 25 = .ok (.iconst 1, 1) := by decide +kernel
theorem dX5_addByte_26 : decode cX5_addByte 26 = .ok (.iadd, 1) := by decide +kernel
theorem dX5_addByte_27 : decode cX5_addByte 27 = .ok (.putfield 39, 3) := by decide +kernel
theorem dX5_addByte_30 : decode cX5_addByte 30 = .ok (.return_, 1) := by decide +kernel
theorem dX5_kindAt_0 : decode cX5_kindAt 0 = .ok (.iload_n 1, 1) := by decide +kernel
theorem dX5_kindAt_1 : decode cX5_kindAt 1 = .ok (.ifCond .lt 11, 3) := by decide +kernel
theorem dX5_kindAt_4 : decode cX5_kindAt 4 = .ok (.iload_n 1, 1) := by decide +kernel
theorem dX5_kindAt_5 : decode cX5_kindAt 5 = .ok (.aload_n 0, 1) := by decide +kernel
theorem dX5_kindAt_6 : decode cX5_kindAt 6 = .ok (.getfield 39, 3) := by decide +kernel
theorem dX5_kindAt_9 : decode cX5_kindAt 9 = .ok (.if_icmp .lt 5, 3) := by decide +kernel
theorem dX5_kindAt_12 : decode cX5_kindAt 12 = .ok (.iconst 0, 1) := by decide +kernel
theorem dX5_kindAt_13 : decode cX5_kindAt 13 = .ok (.ireturn, 1) := by decide +kernel
theorem dX5_kindAt_14 : decode cX5_kindAt 14 = .ok (.aload_n 0, 1) := by decide +kernel
theorem dX5_kindAt_15 : decode cX5_kindAt 15 = .ok (.getfield 9, 3) := by decide +kernel
theorem dX5_kindAt_18 : decode cX5_kindAt 18 = .ok (.iload_n 1, 1) := by decide +kernel
theorem dX5_kindAt_19 : decode cX5_kindAt 19 = .ok (.iaload, 1) := by decide +kernel
theorem dX5_kindAt_20 : decode cX5_kindAt 20 = .ok (.istore_n 2, 1) := by decide +kernel
theorem dX5_kindAt_21 : decode cX5_kindAt 21 = .ok (.iload_n 2, 1) := by decide +kernel
theorem dX5_kindAt_22 : decode cX5_kindAt 22 = .ok (.bipush 97, 2) := by decide +kernel
theorem dX5_kindAt_24 : decode cX5_kindAt 24 = .ok (.if_icmp .lt 11, 3) := by decide +kernel
theorem dX5_kindAt_27 : decode cX5_kindAt 27 = .ok (.iload_n 2, 1) := by decide +kernel
theorem dX5_kindAt_28 : decode cX5_kindAt 28 = .ok (.bipush 122, 2) := by decide +kernel
theorem dX5_kindAt_30 : decode cX5_kindAt 30 = .ok (.if_icmp .gt 5, 3) := by decide +kernel
theorem dX5_kindAt_33 : decode cX5_kindAt 33 = .ok (.iconst 1, 1) := by decide +kernel
theorem dX5_kindAt_34 : decode cX5_kindAt 34 = .ok (.ireturn, 1) := by decide +kernel
theorem dX5_kindAt_35 : decode cX5_kindAt 35 = .ok (.iload_n 2, 1) := by decide +kernel
theorem dX5_kindAt_36 : decode cX5_kindAt 36 = .ok (.bipush 48, 2) := by decide +kernel
theorem dX5_kindAt_38 : decode cX5_kindAt 38 = .ok (.if_icmp .lt 11, 3) := by decide +kernel
theorem dX5_kindAt_41 : decode cX5_kindAt 41 = .ok (.iload_n 2, 1) := by decide +kernel
theorem dX5_kindAt_42 : decode cX5_kindAt 42 = .ok (.bipush 57, 2) := by decide +kernel
theorem dX5_kindAt_44 : decode cX5_kindAt 44 = .ok (.if_icmp .gt 5, 3) := by decide +kernel
theorem dX5_kindAt_47 : decode cX5_kindAt 47 = .ok (.iconst 2, 1) := by decide +kernel
theorem dX5_kindAt_48 : decode cX5_kindAt 48 = .ok (.ireturn, 1) := by decide +kernel
theorem dX5_kindAt_49 : decode cX5_kindAt 49 = .ok (.iload_n 2, 1) := by decide +kernel
theorem dX5_kindAt_50 : decode cX5_kindAt 50 = .ok (.bipush 59, 2) := by decide +kernel
theorem dX5_kindAt_52 : decode cX5_kindAt 52 = .ok (.if_icmp .ne 7, 3) := by decide +kernel
theorem dX5_kindAt_55 : decode cX5_kindAt 55 = .ok (.iconst 3, 1) := by decide +kernel
theorem dX5_kindAt_56 : decode cX5_kindAt 56 = .ok (.goto 4, 3) := by decide +kernel
theorem dX5_kindAt_59 : decode cX5_kindAt 59 = .ok (.iconst 4, 1) := by decide +kernel
theorem dX5_kindAt_60 : decode cX5_kindAt 60 = .ok (.ireturn, 1) := by decide +kernel
theorem dX6_init_0 : decode cX6_init 0 = .ok (.aload_n 0, 1) := by decide +kernel
theorem dX6_init_1 : decode cX6_init 1 = .ok (.invokespecial 3, 3) := by decide +kernel
theorem dX6_init_4 : decode cX6_init 4 = .ok (.aload_n 0, 1) := by decide +kernel
theorem dX6_init_5 : decode cX6_init 5 = .ok (.new 9, 3) := by decide +kernel
theorem dX6_init_8 : decode cX6_init 8 = .ok (.dup, 1) := by decide +kernel
theorem dX6_init_9 : decode cX6_init 9 = .ok (.invokespecial 11, 3) := by decide +kernel
theorem dX6_init_12 : decode cX6_init 12 = .ok (.putfield 12, 3) := by decide +kernel
theorem dX6_init_15 : decode cX6_init 15 = .ok (.aload_n 0, 1) := by decide +kernel
theorem dX6_init_16 : decode cX6_init 16 = .ok (.iconst 1, 1) := by decide +kernel
theorem dX6_init_17 : decode cX6_init 17 = .ok (.putfield 18, 3) := by decide +kernel
theorem dX6_init_20 : decode cX6_init 20 = .ok (.aload_n 0, 1) := by decide +kernel
theorem dX6_init_21 : decode cX6_init 21 = .ok (.iconst 1, 1) := by decide +kernel
theorem dX6_init_22 : decode cX6_init 22 = .ok (.putfield 22, 3) := by decide +kernel
theorem dX6_init_25 : decode cX6_init 25 = .ok (.aload_n 0, 1) := by decide +kernel
theorem dX6_init_26 : decode cX6_init 26 = .ok (.bipush 6, 2) := by decide +kernel
theorem dX6_init_28 : decode cX6_init 28 = .ok (.anewarray 25, 3) := by decide +kernel
theorem dX6_init_31 : decode cX6_init 31 = .ok (.putfield 27, 3) := by decide +kernel
theorem dX6_init_34 : decode cX6_init 34 = .ok (.aload_n 0, 1) := by decide +kernel
theorem dX6_init_35 : decode cX6_init 35 = .ok (.bipush 20, 2) := by decide +kernel
theorem dX6_init_37 : decode cX6_init 37 = .ok (.anewarray 31, 3) := by decide +kernel
theorem dX6_init_40 : decode cX6_init 40 = .ok (.putfield 33, 3) := by decide +kernel
theorem dX6_init_43 : decode cX6_init 43 = .ok (.aload_n 0, 1) := by decide +kernel
theorem dX6_init_44 : decode cX6_init 44 = .ok (.bipush 20, 2) := by decide +kernel
theorem dX6_init_46 : decode cX6_init 46 = .ok (.newarray .int, 2) := by decide +kernel
theorem dX6_init_48 : decode cX6_init 48 = .ok (.putfield 37, 3) := by decide +kernel
theorem dX6_init_51 : decode cX6_init 51 = .ok (.aload_n 0, 1) := by decide +kernel
theorem dX6_init_52 : decode cX6_init 52 = .ok (.iconst (-1), 1) := by decide +kernel
theorem dX6_init_53 : decode cX6_init 53 = .ok (.putfield 41, 3) := by decide +kernel
theorem dX6_init_56 : decode cX6_init 56 = .ok (.aload_n 0, 1) := by decide +kernel
theorem dX6_init_57 : decode cX6_init 57 = .ok (.iconst (-1), 1) := by decide +kernel
theorem dX6_init_58 : decode cX6_init 58 = .ok (.putfield 44, 3) := by decide +kernel
theorem dX6_init_61 : decode cX6_init 61 = .ok (.aload_n 0, 1) := by decide +kernel
theorem dX6_init_62 : decode cX6_init 62 = .ok (.iconst (-1), 1) := by decide +kernel
theorem dX6_init_63 : decode cX6_init 63 = .ok (.putfield 47, 3) := by decide +kernel
theorem dX6_init_66 : decode cX6_init 66 = .ok (.aload_n 0, 1) := by decide +kernel
theorem dX6_init_67 : decode cX6_init 67 = .ok (.iconst (-1), 1) := by decide +kernel
theorem dX6_init_68 : decode cX6_init 68 = .ok (.putfield 50, 3) := by decide +kernel
theorem dX6_init_71 : decode cX6_init 71 = .ok (.iconst 0, 1) := by decide +kernel
theorem dX6_init_72 : decode cX6_init 72 = .ok (.istore_n 1, 1) := by decide +kernel
theorem dX6_init_73 : decode cX6_init 73 = .ok (.iload_n 1, 1) := by decide +kernel
theorem dX6_init_74 : decode cX6_init 74 = .ok (.bipush 6, 2) := by decide +kernel
theorem dX6_init_76 : decode cX6_init 76 = .ok (.if_icmp .ge 22, 3) := by decide +kernel
theorem dX6_init_79 : decode cX6_init 79 = .ok (.aload_n 0, 1) := by decide +kernel
theorem dX6_init_80 : decode cX6_init 80 = .ok (.getfield 27, 3) := by decide +kernel
theorem dX6_init_83 : decode cX6_init 83 = .ok (.iload_n 1, 1) := by decide +kernel
theorem dX6_init_84 : decode cX6_init 84 = .ok (.new 25, 3) := by decide +kernel
theorem dX6_init_87 : decode cX6_init 87 = .ok (.dup, 1) := by decide +kernel
theorem dX6_init_88 : decode cX6_init 88 = .ok (.invokespecial 53, 3) := by decide +kernel
theorem dX6_init_91 : decode cX6_init 91 = .ok (.aastore, 1) := by decide +kernel
theorem dX6_init_92 : decode cX6_init 92 = .ok (.iinc 1 1, 3) := by decide +kernel
theorem dX6_init_95 : decode cX6_init 95 = .ok (.goto (-22), 3) := by decide +kernel
theorem dX6_init_98 : decode cX6_init 98 = .ok (.iconst 0, 1) := by decide +kernel
theorem dX6_init_99 : decode cX6_init 99 = .ok (.istore_n 1, 1) := by decide +kernel
theorem dX6_init_100 : decode cX6_init 100 = .ok (.iload_n 1, 1) := by decide +kernel
theorem dX6_init_101 : decode cX6_init 101 = .ok (.bipush 20, 2) := by decide +kernel
theorem dX6_init_103 : decode cX6_init 103 = .ok (.if_icmp .ge 22, 3) := by decide +kernel
theorem dX6_init_106 : decode cX6_init 106 = .ok (.aload_n 0, 1) := by decide +kernel
theorem dX6_init_107 : decode cX6_init 107 = .ok (.getfield 33, 3) := by decide +kernel
theorem dX6_init_110 : decode cX6_init 110 = .ok (.iload_n 1, 1) := by decide +kernel
theorem dX6_init_111 : decode cX6_init 111 = .ok (.new 31, 3) := by decide +kernel
theorem dX6_init_114 : decode cX6_init 114 = .ok (.dup, 1) := by decide +kernel
theorem dX6_init_115 : decode cX6_init 115 = .ok (.invokespecial 54, 3) := by decide +kernel
theorem dX6_init_118 : decode cX6_init 118 = .ok (.aastore, 1) := by decide +kernel
theorem dX6_init_119 : decode cX6_init 119 = .ok (.iinc 1 1, 3) := by decide +kernel
theorem dX6_init_122 : decode cX6_init 122 = .ok (.goto (-22), 3) := by decide +kernel
theorem dX6_init_125 : decode cX6_init 125 = .ok (.return_, 1) := by decide +kernel
theorem dX6_copyFrom_0 : decode cX6_copyFrom 0 = .ok (.aload_n 0, 1) := by decide +kernel
theorem dX6_copyFrom_1 : decode cX6_copyFrom 1 = .ok (.getfield 12, 3) := by decide +kernel
theorem dX6_copyFrom_4 : decode cX6_copyFrom 4 = .ok (.aload_n 1, 1) := by decide +kernel
theorem dX6_copyFrom_5 : decode cX6_copyFrom 5 = .ok (.getfield 12, 3) := by decide +kernel
theorem dX6_copyFrom_8 : decode cX6_copyFrom 8 = .ok (.invokevirtual 55, 3) := by decide +kernel
theorem dX6_copyFrom_11 : decode cX6_copyFrom 11 = .ok (.aload_n 0, 1) := by decide +kernel
theorem dX6_copyFrom_12 : decode cX6_copyFrom 12 = .ok (.aload_n 1, 1) := by decide +kernel
theorem dX6_copyFrom_13 : decode cX6_copyFrom 13 = .ok (.getfield 18, 3) := by decide +kernel
theorem dX6_copyFrom_16 : decode cX6_copyFrom 16 = .ok (.putfield 18, 3) := by decide +kernel
theorem dX6_copyFrom_19 : decode cX6_copyFrom 19 = .ok (.aload_n 0, 1) := by decide +kernel
theorem dX6_copyFrom_20 : decode cX6_copyFrom 20 = .ok (.aload_n 1, 1) := by decide +kernel
theorem dX6_copyFrom_21 : decode cX6_copyFrom 21 = .ok (.getfield 22, 3) := by decide +kernel
theorem dX6_copyFrom_24 : decode cX6_copyFrom 24 = .ok (.putfield 22, 3) := by decide +kernel
theorem dX6_copyFrom_27 : decode cX6_copyFrom 27 = .ok (.aload_n 0, 1) := by decide +kernel
theorem dX6_copyFrom_28 : decode cX6_copyFrom 28 = .ok (.aload_n 1, 1) := by decide +kernel
theorem dX6_copyFrom_29 : decode cX6_copyFrom 29 = .ok (.getfield 59, 3) := by decide +kernel
theorem dX6_copyFrom_32 : decode cX6_copyFrom 32 = .ok (.putfield 59, 3) := by decide +kernel
theorem dX6_copyFrom_35 : decode cX6_copyFrom 35 = .ok (.aload_n 0, 1) := by decide +kernel
theorem dX6_copyFrom_36 : decode cX6_copyFrom 36 = .ok (.aload_n 1, 1) := by decide +kernel
theorem dX6_copyFrom_37 : decode cX6_copyFrom 37 = .ok (.getfield 62, 3) := by decide +kernel
theorem dX6_copyFrom_40 : decode cX6_copyFrom 40 = .ok (.putfield 62, 3) := by decide +kernel
theorem dX6_copyFrom_43 : decode cX6_copyFrom 43 = .ok (.aload_n 0, 1) := by decide +kernel
theorem dX6_copyFrom_44 : decode cX6_copyFrom 44 = .ok (.aload_n 1, 1) := by decide +kernel
theorem dX6_copyFrom_45 : decode cX6_copyFrom 45 = .ok (.getfield 65, 3) := by decide +kernel
theorem dX6_copyFrom_48 : decode cX6_copyFrom 48 = .ok (.putfield 65, 3) := by decide +kernel
theorem dX6_copyFrom_51 : decode cX6_copyFrom 51 = .ok (.aload_n 0, 1) := by decide +kernel
theorem dX6_copyFrom_52 : decode cX6_copyFrom 52 = .ok (.aload_n 1, 1) := by decide +kernel
theorem dX6_copyFrom_53 : decode cX6_copyFrom 53 = .ok (.getfield 68, 3) := by decide +kernel
theorem dX6_copyFrom_56 : decode cX6_copyFrom 56 = .ok (.putfield 68, 3) := by decide +kernel
theorem dX6_copyFrom_59 : decode cX6_copyFrom 59 = .ok (.aload_n 0, 1) := by decide +kernel
theorem dX6_copyFrom_60 : decode cX6_copyFrom 60 = .ok (.aload_n 1, 1) := by decide +kernel
theorem dX6_copyFrom_61 : decode cX6_copyFrom 61 = .ok (.getfield 71, 3) := by decide +kernel
theorem dX6_copyFrom_64 : decode cX6_copyFrom 64 = .ok (.putfield 71, 3) := by decide +kernel
theorem dX6_copyFrom_67 : decode cX6_copyFrom 67 = .ok (.iconst 0, 1) := by decide +kernel
theorem dX6_copyFrom_68 : decode cX6_copyFrom 68 = .ok (.istore_n 2, 1) := by decide +kernel
theorem dX6_copyFrom_69 : decode cX6_copyFrom 69 = .ok (.iload_n 2, 1) := by decide +kernel
theorem dX6_copyFrom_70 : decode cX6_copyFrom 70 = .ok (.aload_n 0, 1) := by decide +kernel
theorem dX6_copyFrom_71 : decode cX6_copyFrom 71 = .ok (.getfield 71, 3) := by decide +kernel
theorem dX6_copyFrom_74 : decode cX6_copyFrom 74 = .ok (.if_icmp .ge 24, 3) := by decide +kernel
theorem dX6_copyFrom_77 : decode cX6_copyFrom 77 = .ok (.aload_n 0, 1) := by decide +kernel
theorem dX6_copyFrom_78 : decode cX6_copyFrom 78 = .ok (.getfield 27, 3) := by decide +kernel
theorem dX6_copyFrom_81 : decode cX6_copyFrom 81 = .ok (.iload_n 2, 1) := by decide +kernel
theorem dX6_copyFrom_82 : decode cX6_copyFrom 82 = .ok (.aaload, 1) := by decide +kernel
theorem dX6_copyFrom_83 : decode cX6_copyFrom 83 = .ok (.aload_n 1, 1) := by decide +kernel
theorem dX6_copyFrom_84 : decode cX6_copyFrom 84 = .ok (.getfield 27, 3) := by decide +kernel
theorem dX6_copyFrom_87 : decode cX6_copyFrom 87 = .ok (.iload_n 2, 1) := by decide +kernel
theorem dX6_copyFrom_88 : decode cX6_copyFrom 88 = .ok (.aaload, 1) := by decide +kernel
theorem dX6_copyFrom_89 : decode cX6_copyFrom 89 = .ok (.invokevirtual 74, 3) := by decide +kernel
theorem dX6_copyFrom_92 : decode cX6_copyFrom 92 = .ok (.iinc 2 1, 3) := by decide +kernel
theorem dX6_copyFrom_95 : decode cX6_copyFrom 95 = .ok (.goto (-26), 3) := by decide +kernel
theorem dX6_copyFrom_98 : decode cX6_copyFrom 98 = .ok (.aload_n 0, 1) := by decide +kernel
theorem dX6_copyFrom_99 : decode cX6_copyFrom 99 = .ok (.aload_n 1, 1) := by decide +kernel
theorem dX6_copyFrom_100 : decode cX6_copyFrom 100 = .ok (.getfield 77, 3) := by decide +kernel
theorem dX6_copyFrom_103 : decode cX6_copyFrom 103 = .ok (.putfield 77, 3) := by decide +kernel
theorem dX6_copyFrom_106 : decode cX6_copyFrom 106 = .ok (.iconst 0, 1) := by decide +kernel
theorem dX6_copyFrom_107 : decode cX6_copyFrom 107 = .ok (.istore_n 2, 1) := by decide +kernel
theorem dX6_copyFrom_108 : decode cX6_copyFrom 108 = .ok (.iload_n 2, 1) := by decide +kernel
theorem dX6_copyFrom_109 : decode cX6_copyFrom 109 = .ok (.aload_n 0, 1) := by decide +kernel
theorem dX6_copyFrom_110 : decode cX6_copyFrom 110 = .ok (.getfield 77, 3) := by decide +kernel
theorem dX6_copyFrom_113 : decode cX6_copyFrom 113 = .ok (.if_icmp .ge 24, 3) := by decide +kernel
theorem dX6_copyFrom_116 : decode cX6_copyFrom 116 = .ok (.aload_n 0, 1) := by decide +kernel
theorem dX6_copyFrom_117 : decode cX6_copyFrom 117 = .ok (.getfield 33, 3) := by decide +kernel
theorem dX6_copyFrom_120 : decode cX6_copyFrom 120 = .ok (.iload_n 2, 1) := by decide +kernel
theorem dX6_copyFrom_121 : decode cX6_copyFrom 121 = .ok (.aaload, 1) := by decide +kernel
theorem dX6_copyFrom_122 : decode cX6_copyFrom 122 = .ok (.aload_n 1, 1) := by decide +kernel
theorem dX6_copyFrom_123 : decode cX6_copyFrom 123 = .ok (.getfield 33, 3) := by decide +kernel
theorem dX6_copyFrom_126 : decode cX6_copyFrom 126 = .ok (.iload_n 2, 1) := by decide +kernel
theorem dX6_copyFrom_127 : decode cX6_copyFrom 127 = .ok (.aaload, 1) := by decide +kernel
theorem dX6_copyFrom_128 : decode cX6_copyFrom 128 = .ok (.invokevirtual 80, 3) := by decide +kernel
theorem dX6_copyFrom_131 : decode cX6_copyFrom 131 = .ok (.iinc 2 1, 3) := by decide +kernel
theorem dX6_copyFrom_134 : decode cX6_copyFrom 134 = .ok (.goto (-26), 3) := by decide +kernel
theorem dX6_copyFrom_137 : decode cX6_copyFrom 137 = .ok (.aload_n 1, 1) := by decide +kernel
theorem dX6_copyFrom_138 : decode cX6_copyFrom 138 = .ok (.getfield 37, 3) := by decide +kernel
theorem dX6_copyFrom_141 : decode cX6_copyFrom 141 = .ok (.iconst 0, 1) := by decide +kernel
theorem dX6_copyFrom_142 : decode cX6_copyFrom 142 = .ok (.aload_n 0, 1) := by decide +kernel
theorem dX6_copyFrom_143 : decode cX6_copyFrom 143 = .ok (.getfield 37, 3) := by decide +kernel
theorem dX6_copyFrom_146 : decode cX6_copyFrom 146 = .ok (.iconst 0, 1) := by decide +kernel
theorem dX6_copyFrom_147 : decode cX6_copyFrom 147 = .ok (.bipush 20, 2) := by decide +kernel
theorem dX6_copyFrom_149 : decode cX6_copyFrom 149 = .ok (.invokestatic 83, 3) := by decide +kernel
theorem dX6_copyFrom_152 : decode cX6_copyFrom 152 = .ok (.aload_n 0, 1) := by decide +kernel
theorem dX6_copyFrom_153 : decode cX6_copyFrom 153 = .ok (.aload_n 1, 1) := by decide +kernel
theorem dX6_copyFrom_154 : decode cX6_copyFrom 154 = .ok (.getfield 89, 3) := by decide +kernel
theorem dX6_copyFrom_157 : decode cX6_copyFrom 157 = .ok (.putfield 89, 3) := by decide +kernel
theorem dX6_copyFrom_160 : decode cX6_copyFrom 160 = .ok (.aload_n 0, 1) := by decide +kernel
theorem dX6_copyFrom_161 : decode cX6_copyFrom 161 = .ok (.aload_n 1, 1) := by decide +kernel
theorem dX6_copyFrom_162 : decode cX6_copyFrom 162 = .ok (.getfield 41, 3) := by decide +kernel
theorem dX6_copyFrom_165 : decode cX6_copyFrom 165 = .ok (.putfield 41, 3) := by decide +kernel
theorem dX6_copyFrom_168 : decode cX6_copyFrom 168 = .ok (.aload_n 0, 1) := by decide +kernel
theorem dX6_copyFrom_169 : decode cX6_copyFrom 169 = .ok (.aload_n 1, 1) := by decide +kernel
theorem dX6_copyFrom_170 : decode cX6_copyFrom 170 = .ok (.getfield 44, 3) := by decide +kernel
theorem dX6_copyFrom_173 : decode cX6_copyFrom 173 = .ok (.putfield 44, 3) := by decide +kernel
theorem dX6_copyFrom_176 : decode cX6_copyFrom 176 = .ok (.aload_n 0, 1) := by decide +kernel
theorem dX6_copyFrom_177 : decode cX6_copyFrom 177 = .ok (.aload_n 1, 1) := by decide +kernel
theorem dX6_copyFrom_178 : decode cX6_copyFrom 178 = .ok (.getfield 47, 3) := by decide +kernel
theorem dX6_copyFrom_181 : decode cX6_copyFrom 181 = .ok (.putfield 47, 3) := by decide +kernel
theorem dX6_copyFrom_184 : decode cX6_copyFrom 184 = .ok (.aload_n 0, 1) := by decide +kernel
theorem dX6_copyFrom_185 : decode cX6_copyFrom 185 = .ok (.aload_n 1, 1) := by decide +kernel
theorem dX6_copyFrom_186 : decode cX6_copyFrom 186 = .ok (.getfield 50, 3) := by decide +kernel
theorem dX6_copyFrom_189 : decode cX6_copyFrom 189 = .ok (.putfield 50, 3) := by decide +kernel
theorem dX6_copyFrom_192 : decode cX6_copyFrom 192 = .ok (.return_, 1) := by decide +kernel
theorem dX6_beginEmpty_0 : decode cX6_beginEmpty 0 = .ok (.aload_n 0, 1) := by decide +kernel
theorem dX6_beginEmpty_1 : decode cX6_beginEmpty 1 = .ok (.getfield 12, 3) := by decide +kernel
theorem dX6_beginEmpty_4 : decode cX6_beginEmpty 4 = .ok (.iconst 0, 1) := by decide +kernel
theorem dX6_beginEmpty_5 : decode cX6_beginEmpty 5 = .ok (.putfield 92, 3) := by decide +kernel
theorem dX6_beginEmpty_8 : decode cX6_beginEmpty 8 = .ok (.aload_n 0, 1) := by decide +kernel
theorem dX6_beginEmpty_9 : decode cX6_beginEmpty 9 = .ok (.iconst 0, 1) := by decide +kernel
theorem dX6_beginEmpty_10 : decode cX6_beginEmpty 10 = .ok (.putfield 62, 3) := by decide +kernel
theorem dX6_beginEmpty_13 : decode cX6_beginEmpty 13 = .ok (.aload_n 0, 1) := by decide +kernel
theorem dX6_beginEmpty_14 : decode cX6_beginEmpty 14 = .ok (.iconst 0, 1) := by decide +kernel
theorem dX6_beginEmpty_15 : decode cX6_beginEmpty 15 = .ok (.putfield 65, 3) := by decide +kernel
theorem dX6_beginEmpty_18 : decode cX6_beginEmpty 18 = .ok (.aload_n 0, 1) := by decide +kernel
theorem dX6_beginEmpty_19 : decode cX6_beginEmpty 19 = .ok (.iconst 0, 1) := by decide +kernel
theorem dX6_beginEmpty_20 : decode cX6_beginEmpty 20 = .ok (.putfield 68, 3) := by decide +kernel
theorem dX6_beginEmpty_23 : decode cX6_beginEmpty 23 = .ok (.aload_n 0, 1) := by decide +kernel
theorem dX6_beginEmpty_24 : decode cX6_beginEmpty 24 = .ok (.iconst 0, 1) := by decide +kernel
theorem dX6_beginEmpty_25 : decode cX6_beginEmpty 25 = .ok (.putfield 71, 3) := by decide +kernel
theorem dX6_beginEmpty_28 : decode cX6_beginEmpty 28 = .ok (.aload_n 0, 1) := by decide +kernel
theorem dX6_beginEmpty_29 : decode cX6_beginEmpty 29 = .ok (.iconst 0, 1) := by decide +kernel
theorem dX6_beginEmpty_30 : decode cX6_beginEmpty 30 = .ok (.putfield 77, 3) := by decide +kernel
theorem dX6_beginEmpty_33 : decode cX6_beginEmpty 33 = .ok (.aload_n 0, 1) := by decide +kernel
theorem dX6_beginEmpty_34 : decode cX6_beginEmpty 34 = .ok (.iconst 0, 1) := by decide +kernel
theorem dX6_beginEmpty_35 : decode cX6_beginEmpty 35 = .ok (.putfield 89, 3) := by decide +kernel
theorem dX6_beginEmpty_38 : decode cX6_beginEmpty 38 = .ok (.aload_n 0, 1) := by decide +kernel
theorem dX6_beginEmpty_39 : decode cX6_beginEmpty 39 = .ok (.invokevirtual 95, 3) := by decide +kernel
theorem dX6_beginEmpty_42 : decode cX6_beginEmpty 42 = .ok (.return_, 1) := by decide +kernel
theorem dX6_hasBarrel_0 : decode cX6_hasBarrel 0 = .ok (.iload_n 1, 1) := by decide +kernel
theorem dX6_hasBarrel_1 : decode cX6_hasBarrel 1 = .ok (.ifCond .lt 15, 3) := by decide +kernel
theorem dX6_hasBarrel_4 : decode cX6_hasBarrel 4 = .ok (.iload_n 1, 1) := by decide +kernel
theorem dX6_hasBarrel_5 : decode cX6_hasBarrel 5 = .ok (.aload_n 0, 1) := by decide +kernel
theorem dX6_hasBarrel_6 : decode cX6_hasBarrel 6 = .ok (.getfield 77, 3) := by decide +kernel
theorem dX6_hasBarrel_9 : decode cX6_hasBarrel 9 = .ok (.if_icmp .ge 7, 3) := by decide +kernel
theorem dX6_hasBarrel_12 : decode cX6_hasBarrel 12 = .ok (.iconst 1, 1) := by decide +kernel
theorem dX6_hasBarrel_13 : decode cX6_hasBarrel 13 = .ok (.goto 4, 3) := by decide +kernel
theorem dX6_hasBarrel_16 : decode cX6_hasBarrel 16 = .ok (.iconst 0, 1) := by decide +kernel
theorem dX6_hasBarrel_17 : decode cX6_hasBarrel 17 = .ok (.ireturn, 1) := by decide +kernel
theorem dX6_hasBuyer_0 : decode cX6_hasBuyer 0 = .ok (.iload_n 1, 1) := by decide +kernel
theorem dX6_hasBuyer_1 : decode cX6_hasBuyer 1 = .ok (.ifCond .lt 15, 3) := by decide +kernel
theorem dX6_hasBuyer_4 : decode cX6_hasBuyer 4 = .ok (.iload_n 1, 1) := by decide +kernel
theorem dX6_hasBuyer_5 : decode cX6_hasBuyer 5 = .ok (.aload_n 0, 1) := by decide +kernel
theorem dX6_hasBuyer_6 : decode cX6_hasBuyer 6 = .ok (.getfield 71, 3) := by decide +kernel
theorem dX6_hasBuyer_9 : decode cX6_hasBuyer 9 = .ok (.if_icmp .ge 7, 3) := by decide +kernel
theorem dX6_hasBuyer_12 : decode cX6_hasBuyer 12 = .ok (.iconst 1, 1) := by decide +kernel
theorem dX6_hasBuyer_13 : decode cX6_hasBuyer 13 = .ok (.goto 4, 3) := by decide +kernel
theorem dX6_hasBuyer_16 : decode cX6_hasBuyer 16 = .ok (.iconst 0, 1) := by decide +kernel
theorem dX6_hasBuyer_17 : decode cX6_hasBuyer 17 = .ok (.ireturn, 1) := by decide +kernel
theorem dX6_hasRoom_0 : decode cX6_hasRoom 0 = .ok (.aload_n 0, 1) := by decide +kernel
theorem dX6_hasRoom_1 : decode cX6_hasRoom 1 = .ok (.getfield 77, 3) := by decide +kernel
theorem dX6_hasRoom_4 : decode cX6_hasRoom 4 = .ok (.bipush 20, 2) := by decide +kernel
theorem dX6_hasRoom_6 : decode cX6_hasRoom 6 = .ok (.if_icmp .ge 7, 3) := by decide +kernel
theorem dX6_hasRoom_9 : decode cX6_hasRoom 9 = .ok (.iconst 1, 1) := by decide +kernel
theorem dX6_hasRoom_10 : decode cX6_hasRoom 10 = .ok (.goto 4, 3) := by decide +kernel
theorem dX6_hasRoom_13 : decode cX6_hasRoom 13 = .ok (.iconst 0, 1) := by decide +kernel
theorem dX6_hasRoom_14 : decode cX6_hasRoom 14 = .ok (.ireturn, 1) := by decide +kernel
theorem dX6_isWaiting_0 : decode cX6_isWaiting 0 = .ok (.aload_n 0, 1) := by decide +kernel
theorem dX6_isWaiting_1 : decode cX6_isWaiting 1 = .ok (.iload_n 1, 1) := by decide +kernel
theorem dX6_isWaiting_2 : decode cX6_isWaiting 2 = .ok (.invokevirtual 98, 3) := by decide +kernel
theorem dX6_isWaiting_5 : decode cX6_isWaiting 5 = .ok (.ifCond .eq 19, 3) := by decide +kernel
theorem dX6_isWaiting_8 : decode cX6_isWaiting 8 = .ok (.aload_n 0, 1) := by decide +kernel
theorem dX6_isWaiting_9 : decode cX6_isWaiting 9 = .ok (.getfield 33, 3) := by decide +kernel
theorem dX6_isWaiting_12 : decode cX6_isWaiting 12 = .ok (.iload_n 1, 1) := by decide +kernel
theorem dX6_isWaiting_13 : decode cX6_isWaiting 13 = .ok (.aaload, 1) := by decide +kernel
theorem dX6_isWaiting_14 : decode cX6_isWaiting 14 = .ok (.getfield 102, 3) := by decide +kernel
theorem dX6_isWaiting_17 : decode cX6_isWaiting 17 = .ok (.ifCond .ne 7, 3) := by decide +kernel
theorem dX6_isWaiting_20 : decode cX6_isWaiting 20 = .ok (.iconst 1, 1) := by decide +kernel
theorem dX6_isWaiting_21 : decode cX6_isWaiting 21 = .ok (.goto 4, 3) := by decide +kernel
theorem dX6_isWaiting_24 : decode cX6_isWaiting 24 = .ok (.iconst 0, 1) := by decide +kernel
theorem dX6_isWaiting_25 : decode cX6_isWaiting 25 = .ok (.ireturn, 1) := by decide +kernel
theorem dX6_canCut_0 : decode cX6_canCut 0 = .ok (.aload_n 0, 1) := by decide +kernel
theorem dX6_canCut_1 : decode cX6_canCut 1 = .ok (.iload_n 1, 1) := by decide +kernel
theorem dX6_canCut_2 : decode cX6_canCut 2 = .ok (.invokevirtual 105, 3) := by decide +kernel
theorem dX6_canCut_5 : decode cX6_canCut 5 = .ok (.ifCond .eq 32, 3) := by decide +kernel
theorem dX6_canCut_8 : decode cX6_canCut 8 = .ok (.iload_n 2, 1) := by decide +kernel
theorem dX6_canCut_9 : decode cX6_canCut 9 = .ok (.iconst 1, 1) := by decide +kernel
theorem dX6_canCut_10 : decode cX6_canCut 10 = .ok (.if_icmp .lt 27, 3) := by decide +kernel
theorem dX6_canCut_13 : decode cX6_canCut 13 = .ok (.aload_n 0, 1) := by decide +kernel
theorem dX6_canCut_14 : decode cX6_canCut 14 = .ok (.getfield 33, 3) := by decide +kernel
theorem dX6_canCut_17 : decode cX6_canCut 17 = .ok (.iload_n 1, 1) := by decide +kernel
theorem dX6_canCut_18 : decode cX6_canCut 18 = .ok (.aaload, 1) := by decide +kernel
theorem dX6_canCut_19 : decode cX6_canCut 19 = .ok (.getfield 108, 3) := by decide +kernel
theorem dX6_canCut_22 : decode cX6_canCut 22 = .ok (.iload_n 2, 1) := by decide +kernel
theorem dX6_canCut_23 : decode cX6_canCut 23 = .ok (.if_icmp .le 14, 3) := by decide +kernel
theorem dX6_canCut_26 : decode cX6_canCut 26 = .ok (.aload_n 0, 1) := by decide +kernel
theorem dX6_canCut_27 : decode cX6_canCut 27 = .ok (.invokevirtual 111, 3) := by decide +kernel
theorem dX6_canCut_30 : decode cX6_canCut 30 = .ok (.ifCond .eq 7, 3) := by decide +kernel
theorem dX6_canCut_33 : decode cX6_canCut 33 = .ok (.iconst 1, 1) := by decide +kernel
theorem dX6_canCut_34 : decode cX6_canCut 34 = .ok (.goto 4, 3) := by decide +kernel
theorem dX6_canCut_37 : decode cX6_canCut 37 = .ok (.iconst 0, 1) := by decide +kernel
theorem dX6_canCut_38 : decode cX6_canCut 38 = .ok (.ireturn, 1) := by decide +kernel
theorem dX6_takeBuyer_0 : decode cX6_takeBuyer 0 = .ok (.aload_n 0, 1) := by decide +kernel
theorem dX6_takeBuyer_1 : decode cX6_takeBuyer 1 = .ok (.getfield 71, 3) := by decide +kernel
theorem dX6_takeBuyer_4 : decode cX6_takeBuyer 4 = .ok (.bipush 6, 2) := by decide +kernel
theorem dX6_takeBuyer_6 : decode cX6_takeBuyer 6 = .ok (.if_icmp .ge 38, 3) := by decide +kernel
theorem dX6_takeBuyer_9 : decode cX6_takeBuyer 9 = .ok (.aload_n 0, 1) := by decide +kernel
theorem dX6_takeBuyer_10 : decode cX6_takeBuyer 10 = .ok (.getfield 27, 3) := by decide +kernel
theorem dX6_takeBuyer_13 : decode cX6_takeBuyer 13 = .ok (.aload_n 0, 1) := by decide +kernel
theorem dX6_takeBuyer_14 : decode cX6_takeBuyer 14 = .ok (.getfield 71, 3) := by decide +kernel
theorem dX6_takeBuyer_17 : decode cX6_takeBuyer 17 = .ok (.aaload, 1) := by decide +kernel
theorem dX6_takeBuyer_18 : decode cX6_takeBuyer 18 = .ok (.iload_n 1, 1) := by decide +kernel
theorem dX6_takeBuyer_19 : decode cX6_takeBuyer 19 = .ok (.iload_n 2, 1) := by decide +kernel
theorem dX6_takeBuyer_20 : decode cX6_takeBuyer 20 = .ok (.iload_n 3, 1) := by decide +kernel
theorem dX6_takeBuyer_21 : decode cX6_takeBuyer 21 = .ok (.invokevirtual 115, 3) := by decide +kernel
theorem dX6_takeBuyer_24 : decode cX6_takeBuyer 24 = .ok (.aload_n 0, 1) := by decide +kernel
theorem dX6_takeBuyer_25 : decode cX6_takeBuyer 25 = .ok (.dup, 1) := by decide +kernel
theorem dX6_takeBuyer_26 : decode cX6_takeBuyer 26 = .ok (.getfield 71, 3) := by decide +kernel
theorem dX6_takeBuyer_29 : decode cX6_takeBuyer 29 = .ok (.iconst 1, 1) := by decide +kernel
theorem dX6_takeBuyer_30 : decode cX6_takeBuyer 30 = .ok (.iadd, 1) := by decide +kernel
theorem dX6_takeBuyer_31 : decode cX6_takeBuyer 31 = .ok (.putfield 71, 3) := by decide +kernel
theorem dX6_takeBuyer_34 : decode cX6_takeBuyer 34 = .ok (.aload_n 0, 1) := by decide +kernel
theorem dX6_takeBuyer_35 : decode cX6_takeBuyer 35 = .ok (.dup, 1) := by decide +kernel
theorem dX6_takeBuyer_36 : decode cX6_takeBuyer 36 = .ok (.getfield 68, 3) := by decide +kernel
theorem dX6_takeBuyer_39 : decode cX6_takeBuyer 39 = .ok (.iload_n 1, 1) := by decide +kernel
theorem dX6_takeBuyer_40 : decode cX6_takeBuyer 40 = .ok (.iadd, 1) := by decide +kernel
theorem dX6_takeBuyer_41 : decode cX6_takeBuyer 41 = .ok (.putfield 68, 3) := by decide +kernel
theorem dX6_takeBuyer_44 : decode cX6_takeBuyer 44 = .ok (.return_, 1) := by decide +kernel
theorem dX6_takeBarrel_0 : decode cX6_takeBarrel 0 = .ok (.aload_n 0, 1) := by decide +kernel
theorem dX6_takeBarrel_1 : decode cX6_takeBarrel 1 = .ok (.invokevirtual 111, 3) := by decide +kernel
theorem dX6_takeBarrel_4 : decode cX6_takeBarrel 4 = .ok (.ifCond .ne 5, 3) := by decide +kernel
theorem dX6_takeBarrel_7 : decode cX6_takeBarrel 7 = .ok (.iconst (-1), 1) := by decide +kernel
theorem dX6_takeBarrel_8 : decode cX6_takeBarrel 8 = .ok (.ireturn, 1) := by decide +kernel
theorem dX6_takeBarrel_9 : decode cX6_takeBarrel 9 = .ok (.aload_n 0, 1) := by decide +kernel
theorem dX6_takeBarrel_10 : decode cX6_takeBarrel 10 = .ok (.getfield 77, 3) := by decide +kernel
theorem dX6_takeBarrel_13 : decode cX6_takeBarrel 13 = .ok (.istore 5, 2) := by decide +kernel
theorem dX6_takeBarrel_15 : decode cX6_takeBarrel 15 = .ok (.aload_n 0, 1) := by decide +kernel
theorem dX6_takeBarrel_16 : decode cX6_takeBarrel 16 = .ok (.dup, 1) := by decide +kernel
theorem dX6_takeBarrel_17 : decode cX6_takeBarrel 17 = .ok (.getfield 77, 3) := by decide +kernel
theorem dX6_takeBarrel_20 : decode cX6_takeBarrel 20 = .ok (.iconst 1, 1) := by decide +kernel
theorem dX6_takeBarrel_21 : decode cX6_takeBarrel 21 = .ok (.iadd, 1) := by decide +kernel
theorem dX6_takeBarrel_22 : decode cX6_takeBarrel 22 = .ok (.putfield 77, 3) := by decide +kernel
theorem dX6_takeBarrel_25 : decode cX6_takeBarrel 25 = .ok (.aload_n 0, 1) := by decide +kernel
theorem dX6_takeBarrel_26 : decode cX6_takeBarrel 26 = .ok (.getfield 33, 3) := by decide +kernel
theorem dX6_takeBarrel_29 : decode cX6_takeBarrel 29 = .ok (.iload 5, 2) := by decide +kernel
theorem dX6_takeBarrel_31 : decode cX6_takeBarrel 31 = .ok (.aaload, 1) := by decide +kernel
theorem dX6_takeBarrel_32 : decode cX6_takeBarrel 32 = .ok (.aload_n 2, 1) := by decide +kernel
theorem dX6_takeBarrel_33 : decode cX6_takeBarrel 33 = .ok (.iload_n 3, 1) := by decide +kernel
theorem dX6_takeBarrel_34 : decode cX6_takeBarrel 34 = .ok (.iload 4, 2) := by decide +kernel
theorem dX6_takeBarrel_36 : decode cX6_takeBarrel 36 = .ok (.invokevirtual 119, 3) := by decide +kernel
theorem dX6_takeBarrel_39 : decode cX6_takeBarrel 39 = .ok (.aload_n 0, 1) := by decide +kernel
theorem dX6_takeBarrel_40 : decode cX6_takeBarrel 40 = .ok (.getfield 33, 3) := by decide +kernel
theorem dX6_takeBarrel_43 : decode cX6_takeBarrel 43 = .ok (.iload 5, 2) := by decide +kernel
theorem dX6_takeBarrel_45 : decode cX6_takeBarrel 45 = .ok (.aaload, 1) := by decide +kernel
theorem dX6_takeBarrel_46 : decode cX6_takeBarrel 46 = .ok (.iload_n 1, 1) := by decide +kernel
theorem dX6_takeBarrel_47 : decode cX6_takeBarrel 47 = .ok (.invokevirtual 123, 3) := by decide +kernel
theorem dX6_takeBarrel_50 : decode cX6_takeBarrel 50 = .ok (.aload_n 0, 1) := by decide +kernel
theorem dX6_takeBarrel_51 : decode cX6_takeBarrel 51 = .ok (.iload 5, 2) := by decide +kernel
theorem dX6_takeBarrel_53 : decode cX6_takeBarrel 53 = .ok (.invokevirtual 127, 3) := by decide +kernel
theorem dX6_takeBarrel_56 : decode cX6_takeBarrel 56 = .ok (.iload 5, 2) := by decide +kernel
theorem dX6_takeBarrel_58 : decode cX6_takeBarrel 58 = .ok (.ireturn, 1) := by decide +kernel
theorem dX6_cut_0 : decode cX6_cut 0 = .ok (.aload_n 0, 1) := by decide +kernel
theorem dX6_cut_1 : decode cX6_cut 1 = .ok (.iload_n 1, 1) := by decide +kernel
theorem dX6_cut_2 : decode cX6_cut 2 = .ok (.iload_n 2, 1) := by decide +kernel
theorem dX6_cut_3 : decode cX6_cut 3 = .ok (.invokevirtual 130, 3) := by decide +kernel
theorem dX6_cut_6 : decode cX6_cut 6 = .ok (.ifCond .ne 5, 3) := by decide +kernel
theorem dX6_cut_9 : decode cX6_cut 9 = .ok (.iconst (-1), 1) := by decide +kernel
theorem dX6_cut_10 : decode cX6_cut 10 = .ok (.ireturn, 1) := by decide +kernel
theorem dX6_cut_11 : decode cX6_cut 11 = .ok (.aload_n 0, 1) := by decide +kernel
theorem dX6_cut_12 : decode cX6_cut 12 = .ok (.getfield 33, 3) := by decide +kernel
theorem dX6_cut_15 : decode cX6_cut 15 = .ok (.iload_n 1, 1) := by decide +kernel
theorem dX6_cut_16 : decode cX6_cut 16 = .ok (.aaload, 1) := by decide +kernel
theorem dX6_cut_17 : decode cX6_cut 17 = .ok (.astore_n 3, 1) := by decide +kernel
theorem dX6_cut_18 : decode cX6_cut 18 = .ok (.aload_n 3, 1) := by decide +kernel
theorem dX6_cut_19 : decode cX6_cut 19 = .ok (.getfield 108, 3) := by decide +kernel
theorem dX6_cut_22 : decode cX6_cut 22 = .ok (.istore 4, 2) := by decide +kernel
theorem dX6_cut_24 : decode cX6_cut 24 = .ok (.aload_n 3, 1) := by decide +kernel
theorem dX6_cut_25 : decode cX6_cut 25 = .ok (.getfield 134, 3) := by decide +kernel
theorem dX6_cut_28 : decode cX6_cut 28 = .ok (.iload_n 2, 1) := by decide +kernel
theorem dX6_cut_29 : decode cX6_cut 29 = .ok (.imul, 1) := by decide +kernel
theorem dX6_cut_30 : decode cX6_cut 30 = .ok (.iload 4, 2) := by decide +kernel
theorem dX6_cut_32 : decode cX6_cut 32 = .ok (.idiv, 1) := by decide +kernel
theorem dX6_cut_33 : decode cX6_cut 33 = .ok (.istore 5, 2) := by decide +kernel
theorem dX6_cut_35 : decode cX6_cut 35 = .ok (.aload_n 0, 1) := by decide +kernel
theorem dX6_cut_36 : decode cX6_cut 36 = .ok (.iload 5, 2) := by decide +kernel
theorem dX6_cut_38 : decode cX6_cut 38 = .ok (.iconst 1, 1) := by decide +kernel
theorem dX6_cut_39 : decode cX6_cut 39 = .ok (.invokestatic 137, 3) := by decide +kernel
theorem dX6_cut_42 : decode cX6_cut 42 = .ok (.aload_n 3, 1) := by decide +kernel
theorem dX6_cut_43 : decode cX6_cut 43 = .ok (.getfield 143, 3) := by decide +kernel
theorem dX6_cut_46 : decode cX6_cut 46 = .ok (.iload 4, 2) := by decide +kernel
theorem dX6_cut_48 : decode cX6_cut 48 = .ok (.iload_n 2, 1) := by decide +kernel
theorem dX6_cut_49 : decode cX6_cut 49 = .ok (.isub, 1) := by decide +kernel
theorem dX6_cut_50 : decode cX6_cut 50 = .ok (.iload 4, 2) := by decide +kernel
theorem dX6_cut_52 : decode cX6_cut 52 = .ok (.invokevirtual 146, 3) := by decide +kernel
theorem dX6_cut_55 : decode cX6_cut 55 = .ok (.istore 6, 2) := by decide +kernel
theorem dX6_cut_57 : decode cX6_cut 57 = .ok (.aload_n 3, 1) := by decide +kernel
theorem dX6_cut_58 : decode cX6_cut 58 = .ok (.iload 4, 2) := by decide +kernel
theorem dX6_cut_60 : decode cX6_cut 60 = .ok (.iload_n 2, 1) := by decide +kernel
theorem dX6_cut_61 : decode cX6_cut 61 = .ok (.isub, 1) := by decide +kernel
theorem dX6_cut_62 : decode cX6_cut 62 = .ok (.invokevirtual 150, 3) := by decide +kernel
theorem dX6_cut_65 : decode cX6_cut 65 = .ok (.aload_n 3, 1) := by decide +kernel
theorem dX6_cut_66 : decode cX6_cut 66 = .ok (.aload_n 3, 1) := by decide +kernel
theorem dX6_cut_67 : decode cX6_cut 67 = .ok (.getfield 134, 3) := by decide +kernel
theorem dX6_cut_70 : decode cX6_cut 70 = .ok (.iload 5, 2) := by decide +kernel
theorem dX6_cut_72 : decode cX6_cut 72 = .ok (.isub, 1) := by decide +kernel
theorem dX6_cut_73 : decode cX6_cut 73 = .ok (.iconst 1, 1) := by decide +kernel
theorem dX6_cut_74 : decode cX6_cut 74 = .ok (.invokestatic 137, 3) := by decide +kernel
theorem dX6_cut_77 : decode cX6_cut 77 = .ok (.putfield 134, 3) := by decide +kernel
theorem dX6_cut_80 : decode cX6_cut 80 = .ok (.iload 6, 2) := by decide +kernel
theorem dX6_cut_82 : decode cX6_cut 82 = .ok (.ireturn, 1) := by decide +kernel
theorem dX6_takeAway_0 : decode cX6_takeAway 0 = .ok (.aload_n 0, 1) := by decide +kernel
theorem dX6_takeAway_1 : decode cX6_takeAway 1 = .ok (.iload_n 1, 1) := by decide +kernel
theorem dX6_takeAway_2 : decode cX6_takeAway 2 = .ok (.invokevirtual 105, 3) := by decide +kernel
theorem dX6_takeAway_5 : decode cX6_takeAway 5 = .ok (.ifCond .eq 18, 3) := by decide +kernel
theorem dX6_takeAway_8 : decode cX6_takeAway 8 = .ok (.aload_n 0, 1) := by decide +kernel
theorem dX6_takeAway_9 : decode cX6_takeAway 9 = .ok (.getfield 33, 3) := by decide +kernel
theorem dX6_takeAway_12 : decode cX6_takeAway 12 = .ok (.iload_n 1, 1) := by decide +kernel
theorem dX6_takeAway_13 : decode cX6_takeAway 13 = .ok (.aaload, 1) := by decide +kernel
theorem dX6_takeAway_14 : decode cX6_takeAway 14 = .ok (.iconst 3, 1) := by decide +kernel
theorem dX6_takeAway_15 : decode cX6_takeAway 15 = .ok (.putfield 102, 3) := by decide +kernel
theorem dX6_takeAway_18 : decode cX6_takeAway 18 = .ok (.aload_n 0, 1) := by decide +kernel
theorem dX6_takeAway_19 : decode cX6_takeAway 19 = .ok (.iload_n 1, 1) := by decide +kernel
theorem dX6_takeAway_20 : decode cX6_takeAway 20 = .ok (.invokevirtual 153, 3) := by decide +kernel
theorem dX6_takeAway_23 : decode cX6_takeAway 23 = .ok (.return_, 1) := by decide +kernel
theorem dX6_putCoins_0 : decode cX6_putCoins 0 = .ok (.aload_n 0, 1) := by decide +kernel
theorem dX6_putCoins_1 : decode cX6_putCoins 1 = .ok (.iload_n 1, 1) := by decide +kernel
theorem dX6_putCoins_2 : decode cX6_putCoins 2 = .ok (.invokevirtual 156, 3) := by decide +kernel
theorem dX6_putCoins_5 : decode cX6_putCoins 5 = .ok (.ifCond .eq 45, 3) := by decide +kernel
theorem dX6_putCoins_8 : decode cX6_putCoins 8 = .ok (.iload_n 2, 1) := by decide +kernel
theorem dX6_putCoins_9 : decode cX6_putCoins 9 = .ok (.ldc 159, 2) := by decide +kernel
theorem dX6_putCoins_11 : decode cX6_putCoins 11 = .ok (.aload_n 0, 1) := by decide +kernel
theorem dX6_putCoins_12 : decode cX6_putCoins 12 = .ok (.getfield 27, 3) := by decide +kernel
theorem dX6_putCoins_15 : decode cX6_putCoins 15 = .ok (.iload_n 1, 1) := by decide +kernel
theorem dX6_putCoins_16 : decode cX6_putCoins 16 = .ok (.aaload, 1) := by decide +kernel
theorem dX6_putCoins_17 : decode cX6_putCoins 17 = .ok (.getfield 160, 3) := by decide +kernel
theorem dX6_putCoins_20 : decode cX6_putCoins 20 = .ok (.isub, 1) := by decide +kernel
theorem dX6_putCoins_21 : decode cX6_putCoins 21 = .ok (.invokestatic 163, 3) := by decide +kernel
theorem dX6_putCoins_24 : decode cX6_putCoins 24 = .ok (.istore_n 3, 1) := by decide +kernel
theorem dX6_putCoins_25 : decode cX6_putCoins 25 = .ok (.aload_n 0, 1) := by decide +kernel
theorem dX6_putCoins_26 : decode cX6_putCoins 26 = .ok (.getfield 27, 3) := by decide +kernel
theorem dX6_putCoins_29 : decode cX6_putCoins 29 = .ok (.iload_n 1, 1) := by decide +kernel
theorem dX6_putCoins_30 : decode cX6_putCoins 30 = .ok (.aaload, 1) := by decide +kernel
theorem dX6_putCoins_31 : decode cX6_putCoins 31 = .ok (.dup, 1) := by decide +kernel
theorem dX6_putCoins_32 : decode cX6_putCoins 32 = .ok (.getfield 160, 3) := by decide +kernel
theorem dX6_putCoins_35 : decode cX6_putCoins 35 = .ok (.iload_n 3, 1) := by decide +kernel
theorem dX6_putCoins_36 : decode cX6_putCoins 36 = .ok (.iadd, 1) := by decide +kernel
theorem dX6_putCoins_37 : decode cX6_putCoins 37 = .ok (.putfield 160, 3) := by decide +kernel
theorem dX6_putCoins_40 : decode cX6_putCoins 40 = .ok (.aload_n 0, 1) := by decide +kernel
theorem dX6_putCoins_41 : decode cX6_putCoins 41 = .ok (.dup, 1) := by decide +kernel
theorem dX6_putCoins_42 : decode cX6_putCoins 42 = .ok (.getfield 68, 3) := by decide +kernel
theorem dX6_putCoins_45 : decode cX6_putCoins 45 = .ok (.iload_n 3, 1) := by decide +kernel
theorem dX6_putCoins_46 : decode cX6_putCoins 46 = .ok (.iadd, 1) := by decide +kernel
theorem dX6_putCoins_47 : decode cX6_putCoins 47 = .ok (.putfield 68, 3) := by decide +kernel
theorem dX6_putCoins_50 : decode cX6_putCoins 50 = .ok (.return_, 1) := by decide +kernel
theorem dX6_coinsInPurses_0 : decode cX6_coinsInPurses 0 = .ok (.iconst 0, 1) := by decide +kernel
theorem dX6_coinsInPurses_1 : decode cX6_coinsInPurses 1 = .ok (.istore_n 1, 1) := by decide +kernel
theorem dX6_coinsInPurses_2 : decode cX6_coinsInPurses 2 = .ok (.iconst 0, 1) := by decide +kernel
theorem dX6_coinsInPurses_3 : decode cX6_coinsInPurses 3 = .ok (.istore_n 2, 1) := by decide +kernel
theorem dX6_coinsInPurses_4 : decode cX6_coinsInPurses 4 = .ok (.iload_n 2, 1) := by decide +kernel
theorem dX6_coinsInPurses_5 : decode cX6_coinsInPurses 5 = .ok (.aload_n 0, 1) := by decide +kernel
theorem dX6_coinsInPurses_6 : decode cX6_coinsInPurses 6 = .ok (.getfield 71, 3) := by decide +kernel
theorem dX6_coinsInPurses_9 : decode cX6_coinsInPurses 9 = .ok (.if_icmp .ge 21, 3) := by decide +kernel
theorem dX6_coinsInPurses_12 : decode cX6_coinsInPurses 12 = .ok (.iload_n 1, 1) := by decide +kernel
theorem dX6_coinsInPurses_13 : decode cX6_coinsInPurses 13 = .ok (.aload_n 0, 1) := by decide +kernel
theorem dX6_coinsInPurses_14 : decode cX6_coinsInPurses 14 = .ok (.getfield 27, 3) := by decide +kernel
theorem dX6_coinsInPurses_17 : decode cX6_coinsInPurses 17 = .ok (.iload_n 2, 1) := by decide +kernel
theorem dX6_coinsInPurses_18 : decode cX6_coinsInPurses 18 = .ok (.aaload, 1) := by decide +kernel
theorem dX6_coinsInPurses_19 : decode cX6_coinsInPurses 19 = .ok (.getfield 160, 3) := by decide +kernel
theorem dX6_coinsInPurses_22 : decode cX6_coinsInPurses 22 = .ok (.iadd, 1) := by decide +kernel
theorem dX6_coinsInPurses_23 : decode cX6_coinsInPurses 23 = .ok (.istore_n 1, 1) := by decide +kernel
end
section
theorem dX6_coinsInPurses_24 : decode cX6_coinsInPurses 24 = .ok (.iinc 2 1, 3) := by decide +kernel
theorem dX6_coinsInPurses_27 : decode cX6_coinsInPurses 27 = .ok (.goto (-23), 3) := by decide +kernel
theorem dX6_coinsInPurses_30 : decode cX6_coinsInPurses 30 = .ok (.iload_n 1, 1) := by decide +kernel
theorem dX6_coinsInPurses_31 : decode cX6_coinsInPurses 31 = .ok (.ireturn, 1) := by decide +kernel
theorem dX6_keenest_0 : decode cX6_keenest 0 = .ok (.iconst 0, 1) := by decide +kernel
theorem dX6_keenest_1 : decode cX6_keenest 1 = .ok (.istore_n 2, 1) := by decide +kernel
theorem dX6_keenest_2 : decode cX6_keenest 2 = .ok (.iconst 1, 1) := by decide +kernel
theorem dX6_keenest_3 : decode cX6_keenest 3 = .ok (.istore_n 3, 1) := by decide +kernel
theorem dX6_keenest_4 : decode cX6_keenest 4 = .ok (.iload_n 3, 1) := by decide +kernel
theorem dX6_keenest_5 : decode cX6_keenest 5 = .ok (.aload_n 0, 1) := by decide +kernel
theorem dX6_keenest_6 : decode cX6_keenest 6 = .ok (.getfield 71, 3) := by decide +kernel
theorem dX6_keenest_9 : decode cX6_keenest 9 = .ok (.if_icmp .ge 35, 3) := by decide +kernel
theorem dX6_keenest_12 : decode cX6_keenest 12 = .ok (.aload_n 0, 1) := by decide +kernel
theorem dX6_keenest_13 : decode cX6_keenest 13 = .ok (.getfield 27, 3) := by decide +kernel
theorem dX6_keenest_16 : decode cX6_keenest 16 = .ok (.iload_n 3, 1) := by decide +kernel
theorem dX6_keenest_17 : decode cX6_keenest 17 = .ok (.aaload, 1) := by decide +kernel
theorem dX6_keenest_18 : decode cX6_keenest 18 = .ok (.aload_n 1, 1) := by decide +kernel
theorem dX6_keenest_19 : decode cX6_keenest 19 = .ok (.invokevirtual 166, 3) := by decide +kernel
theorem dX6_keenest_22 : decode cX6_keenest 22 = .ok (.aload_n 0, 1) := by decide +kernel
theorem dX6_keenest_23 : decode cX6_keenest 23 = .ok (.getfield 27, 3) := by decide +kernel
theorem dX6_keenest_26 : decode cX6_keenest 26 = .ok (.iload_n 2, 1) := by decide +kernel
theorem dX6_keenest_27 : decode cX6_keenest 27 = .ok (.aaload, 1) := by decide +kernel
theorem dX6_keenest_28 : decode cX6_keenest 28 = .ok (.aload_n 1, 1) := by decide +kernel
theorem dX6_keenest_29 : decode cX6_keenest 29 = .ok (.invokevirtual 166, 3) := by decide +kernel
theorem dX6_keenest_32 : decode cX6_keenest 32 = .ok (.dcmp .l, 1) := by decide +kernel
theorem dX6_keenest_33 : decode cX6_keenest 33 = .ok (.ifCond .le 5, 3) := by decide +kernel
theorem dX6_keenest_36 : decode cX6_keenest 36 = .ok (.iload_n 3, 1) := by decide +kernel
theorem dX6_keenest_37 : decode cX6_keenest 37 = .ok (.istore_n 2, 1) := by decide +kernel
theorem dX6_keenest_38 : decode cX6_keenest 38 = .ok (.iinc 3 1, 3) := by decide +kernel
theorem dX6_keenest_41 : decode cX6_keenest 41 = .ok (.goto (-37), 3) := by decide +kernel
theorem dX6_keenest_44 : decode cX6_keenest 44 = .ok (.iload_n 2, 1) := by decide +kernel
theorem dX6_keenest_45 : decode cX6_keenest 45 = .ok (.ireturn, 1) := by decide +kernel
theorem dX6_withFee_0 : decode cX6_withFee 0 = .ok (.iload_n 1, 1) := by decide +kernel
theorem dX6_withFee_1 : decode cX6_withFee 1 = .ok (.iload_n 1, 1) := by decide +kernel
theorem dX6_withFee_2 : decode cX6_withFee 2 = .ok (.aload_n 0, 1) := by decide +kernel
theorem dX6_withFee_3 : decode cX6_withFee 3 = .ok (.getfield 59, 3) := by decide +kernel
theorem dX6_withFee_6 : decode cX6_withFee 6 = .ok (.imul, 1) := by decide +kernel
theorem dX6_withFee_7 : decode cX6_withFee 7 = .ok (.bipush 100, 2) := by decide +kernel
theorem dX6_withFee_9 : decode cX6_withFee 9 = .ok (.idiv, 1) := by decide +kernel
theorem dX6_withFee_10 : decode cX6_withFee 10 = .ok (.iadd, 1) := by decide +kernel
theorem dX6_withFee_11 : decode cX6_withFee 11 = .ok (.ireturn, 1) := by decide +kernel
theorem dX6_nextPrice_0 : decode cX6_nextPrice 0 = .ok (.aload_n 0, 1) := by decide +kernel
theorem dX6_nextPrice_1 : decode cX6_nextPrice 1 = .ok (.getfield 41, 3) := by decide +kernel
theorem dX6_nextPrice_4 : decode cX6_nextPrice 4 = .ok (.iconst (-1), 1) := by decide +kernel
theorem dX6_nextPrice_5 : decode cX6_nextPrice 5 = .ok (.if_icmp .ne 5, 3) := by decide +kernel
theorem dX6_nextPrice_8 : decode cX6_nextPrice 8 = .ok (.iconst (-1), 1) := by decide +kernel
theorem dX6_nextPrice_9 : decode cX6_nextPrice 9 = .ok (.ireturn, 1) := by decide +kernel
theorem dX6_nextPrice_10 : decode cX6_nextPrice 10 = .ok (.aload_n 0, 1) := by decide +kernel
theorem dX6_nextPrice_11 : decode cX6_nextPrice 11 = .ok (.getfield 47, 3) := by decide +kernel
theorem dX6_nextPrice_14 : decode cX6_nextPrice 14 = .ok (.iconst (-1), 1) := by decide +kernel
theorem dX6_nextPrice_15 : decode cX6_nextPrice 15 = .ok (.if_icmp .ne 18, 3) := by decide +kernel
theorem dX6_nextPrice_18 : decode cX6_nextPrice 18 = .ok (.aload_n 0, 1) := by decide +kernel
theorem dX6_nextPrice_19 : decode cX6_nextPrice 19 = .ok (.getfield 33, 3) := by decide +kernel
theorem dX6_nextPrice_22 : decode cX6_nextPrice 22 = .ok (.aload_n 0, 1) := by decide +kernel
theorem dX6_nextPrice_23 : decode cX6_nextPrice 23 = .ok (.getfield 41, 3) := by decide +kernel
theorem dX6_nextPrice_26 : decode cX6_nextPrice 26 = .ok (.aaload, 1) := by decide +kernel
theorem dX6_nextPrice_27 : decode cX6_nextPrice 27 = .ok (.getfield 134, 3) := by decide +kernel
theorem dX6_nextPrice_30 : decode cX6_nextPrice 30 = .ok (.goto 12, 3) := by decide +kernel
theorem dX6_nextPrice_33 : decode cX6_nextPrice 33 = .ok (.aload_n 0, 1) := by decide +kernel
theorem dX6_nextPrice_34 : decode cX6_nextPrice 34 = .ok (.getfield 44, 3) := by decide +kernel
theorem dX6_nextPrice_37 : decode cX6_nextPrice 37 = .ok (.aload_n 0, 1) := by decide +kernel
theorem dX6_nextPrice_38 : decode cX6_nextPrice 38 = .ok (.getfield 22, 3) := by decide +kernel
theorem dX6_nextPrice_41 : decode cX6_nextPrice 41 = .ok (.iadd, 1) := by decide +kernel
theorem dX6_nextPrice_42 : decode cX6_nextPrice 42 = .ok (.ireturn, 1) := by decide +kernel
theorem dX6_refusal_0 : decode cX6_refusal 0 = .ok (.aload_n 0, 1) := by decide +kernel
theorem dX6_refusal_1 : decode cX6_refusal 1 = .ok (.getfield 12, 3) := by decide +kernel
theorem dX6_refusal_4 : decode cX6_refusal 4 = .ok (.invokevirtual 170, 3) := by decide +kernel
theorem dX6_refusal_7 : decode cX6_refusal 7 = .ok (.ifCond .ne 5, 3) := by decide +kernel
theorem dX6_refusal_10 : decode cX6_refusal 10 = .ok (.iconst 1, 1) := by decide +kernel
theorem dX6_refusal_11 : decode cX6_refusal 11 = .ok (.ireturn, 1) := by decide +kernel
theorem dX6_refusal_12 : decode cX6_refusal 12 = .ok (.aload_n 0, 1) := by decide +kernel
theorem dX6_refusal_13 : decode cX6_refusal 13 = .ok (.getfield 41, 3) := by decide +kernel
theorem dX6_refusal_16 : decode cX6_refusal 16 = .ok (.iconst (-1), 1) := by decide +kernel
theorem dX6_refusal_17 : decode cX6_refusal 17 = .ok (.if_icmp .ne 5, 3) := by decide +kernel
theorem dX6_refusal_20 : decode cX6_refusal 20 = .ok (.iconst 2, 1) := by decide +kernel
theorem dX6_refusal_21 : decode cX6_refusal 21 = .ok (.ireturn, 1) := by decide +kernel
theorem dX6_refusal_22 : decode cX6_refusal 22 = .ok (.iload_n 1, 1) := by decide +kernel
theorem dX6_refusal_23 : decode cX6_refusal 23 = .ok (.aload_n 0, 1) := by decide +kernel
theorem dX6_refusal_24 : decode cX6_refusal 24 = .ok (.getfield 47, 3) := by decide +kernel
theorem dX6_refusal_27 : decode cX6_refusal 27 = .ok (.if_icmp .ne 5, 3) := by decide +kernel
theorem dX6_refusal_30 : decode cX6_refusal 30 = .ok (.iconst 3, 1) := by decide +kernel
theorem dX6_refusal_31 : decode cX6_refusal 31 = .ok (.ireturn, 1) := by decide +kernel
theorem dX6_refusal_32 : decode cX6_refusal 32 = .ok (.aload_n 0, 1) := by decide +kernel
theorem dX6_refusal_33 : decode cX6_refusal 33 = .ok (.iload_n 1, 1) := by decide +kernel
theorem dX6_refusal_34 : decode cX6_refusal 34 = .ok (.invokevirtual 156, 3) := by decide +kernel
theorem dX6_refusal_37 : decode cX6_refusal 37 = .ok (.ifCond .eq 27, 3) := by decide +kernel
theorem dX6_refusal_40 : decode cX6_refusal 40 = .ok (.aload_n 0, 1) := by decide +kernel
theorem dX6_refusal_41 : decode cX6_refusal 41 = .ok (.getfield 27, 3) := by decide +kernel
theorem dX6_refusal_44 : decode cX6_refusal 44 = .ok (.iload_n 1, 1) := by decide +kernel
theorem dX6_refusal_45 : decode cX6_refusal 45 = .ok (.aaload, 1) := by decide +kernel
theorem dX6_refusal_46 : decode cX6_refusal 46 = .ok (.getfield 160, 3) := by decide +kernel
theorem dX6_refusal_49 : decode cX6_refusal 49 = .ok (.aload_n 0, 1) := by decide +kernel
theorem dX6_refusal_50 : decode cX6_refusal 50 = .ok (.aload_n 0, 1) := by decide +kernel
theorem dX6_refusal_51 : decode cX6_refusal 51 = .ok (.invokevirtual 173, 3) := by decide +kernel
theorem dX6_refusal_54 : decode cX6_refusal 54 = .ok (.invokevirtual 177, 3) := by decide +kernel
theorem dX6_refusal_57 : decode cX6_refusal 57 = .ok (.if_icmp .lt 7, 3) := by decide +kernel
theorem dX6_refusal_60 : decode cX6_refusal 60 = .ok (.iconst 0, 1) := by decide +kernel
theorem dX6_refusal_61 : decode cX6_refusal 61 = .ok (.goto 4, 3) := by decide +kernel
theorem dX6_refusal_64 : decode cX6_refusal 64 = .ok (.iconst 4, 1) := by decide +kernel
theorem dX6_refusal_65 : decode cX6_refusal 65 = .ok (.ireturn, 1) := by decide +kernel
theorem dX6_whoNods_0 : decode cX6_whoNods 0 = .ok (.aload_n 0, 1) := by decide +kernel
theorem dX6_whoNods_1 : decode cX6_whoNods 1 = .ok (.getfield 41, 3) := by decide +kernel
theorem dX6_whoNods_4 : decode cX6_whoNods 4 = .ok (.iconst (-1), 1) := by decide +kernel
theorem dX6_whoNods_5 : decode cX6_whoNods 5 = .ok (.if_icmp .ne 5, 3) := by decide +kernel
theorem dX6_whoNods_8 : decode cX6_whoNods 8 = .ok (.iconst (-1), 1) := by decide +kernel
theorem dX6_whoNods_9 : decode cX6_whoNods 9 = .ok (.ireturn, 1) := by decide +kernel
theorem dX6_whoNods_10 : decode cX6_whoNods 10 = .ok (.aload_n 0, 1) := by decide +kernel
theorem dX6_whoNods_11 : decode cX6_whoNods 11 = .ok (.getfield 33, 3) := by decide +kernel
theorem dX6_whoNods_14 : decode cX6_whoNods 14 = .ok (.aload_n 0, 1) := by decide +kernel
theorem dX6_whoNods_15 : decode cX6_whoNods 15 = .ok (.getfield 41, 3) := by decide +kernel
theorem dX6_whoNods_18 : decode cX6_whoNods 18 = .ok (.aaload, 1) := by decide +kernel
theorem dX6_whoNods_19 : decode cX6_whoNods 19 = .ok (.astore_n 1, 1) := by decide +kernel
theorem dX6_whoNods_20 : decode cX6_whoNods 20 = .ok (.aload_n 0, 1) := by decide +kernel
theorem dX6_whoNods_21 : decode cX6_whoNods 21 = .ok (.invokevirtual 173, 3) := by decide +kernel
theorem dX6_whoNods_24 : decode cX6_whoNods 24 = .ok (.istore_n 2, 1) := by decide +kernel
theorem dX6_whoNods_25 : decode cX6_whoNods 25 = .ok (.aload_n 0, 1) := by decide +kernel
theorem dX6_whoNods_26 : decode cX6_whoNods 26 = .ok (.getfield 47, 3) := by decide +kernel
theorem dX6_whoNods_29 : decode cX6_whoNods 29 = .ok (.istore_n 3, 1) := by decide +kernel
theorem dX6_whoNods_30 : decode cX6_whoNods 30 = .ok (.iconst 0, 1) := by decide +kernel
theorem dX6_whoNods_31 : decode cX6_whoNods 31 = .ok (.istore 4, 2) := by decide +kernel
theorem dX6_whoNods_33 : decode cX6_whoNods 33 = .ok (.iload 4, 2) := by decide +kernel
theorem dX6_whoNods_35 : decode cX6_whoNods 35 = .ok (.aload_n 0, 1) := by decide +kernel
theorem dX6_whoNods_36 : decode cX6_whoNods 36 = .ok (.getfield 71, 3) := by decide +kernel
theorem dX6_whoNods_39 : decode cX6_whoNods 39 = .ok (.if_icmp .ge 53, 3) := by decide +kernel
theorem dX6_whoNods_42 : decode cX6_whoNods 42 = .ok (.iload_n 3, 1) := by decide +kernel
theorem dX6_whoNods_43 : decode cX6_whoNods 43 = .ok (.iconst 1, 1) := by decide +kernel
theorem dX6_whoNods_44 : decode cX6_whoNods 44 = .ok (.iadd, 1) := by decide +kernel
theorem dX6_whoNods_45 : decode cX6_whoNods 45 = .ok (.aload_n 0, 1) := by decide +kernel
theorem dX6_whoNods_46 : decode cX6_whoNods 46 = .ok (.getfield 71, 3) := by decide +kernel
theorem dX6_whoNods_49 : decode cX6_whoNods 49 = .ok (.if_icmp .ge 9, 3) := by decide +kernel
theorem dX6_whoNods_52 : decode cX6_whoNods 52 = .ok (.iload_n 3, 1) := by decide +kernel
theorem dX6_whoNods_53 : decode cX6_whoNods 53 = .ok (.iconst 1, 1) := by decide +kernel
theorem dX6_whoNods_54 : decode cX6_whoNods 54 = .ok (.iadd, 1) := by decide +kernel
theorem dX6_whoNods_55 : decode cX6_whoNods 55 = .ok (.goto 4, 3) := by decide +kernel
theorem dX6_whoNods_58 : decode cX6_whoNods 58 = .ok (.iconst 0, 1) := by decide +kernel
theorem dX6_whoNods_59 : decode cX6_whoNods 59 = .ok (.istore_n 3, 1) := by decide +kernel
theorem dX6_whoNods_60 : decode cX6_whoNods 60 = .ok (.aload_n 0, 1) := by decide +kernel
theorem dX6_whoNods_61 : decode cX6_whoNods 61 = .ok (.iload_n 3, 1) := by decide +kernel
theorem dX6_whoNods_62 : decode cX6_whoNods 62 = .ok (.invokevirtual 181, 3) := by decide +kernel
theorem dX6_whoNods_65 : decode cX6_whoNods 65 = .ok (.ifCond .ne 21, 3) := by decide +kernel
theorem dX6_whoNods_68 : decode cX6_whoNods 68 = .ok (.aload_n 0, 1) := by decide +kernel
theorem dX6_whoNods_69 : decode cX6_whoNods 69 = .ok (.getfield 27, 3) := by decide +kernel
theorem dX6_whoNods_72 : decode cX6_whoNods 72 = .ok (.iload_n 3, 1) := by decide +kernel
theorem dX6_whoNods_73 : decode cX6_whoNods 73 = .ok (.aaload, 1) := by decide +kernel
theorem dX6_whoNods_74 : decode cX6_whoNods 74 = .ok (.aload_n 1, 1) := by decide +kernel
theorem dX6_whoNods_75 : decode cX6_whoNods 75 = .ok (.invokevirtual 166, 3) := by decide +kernel
theorem dX6_whoNods_78 : decode cX6_whoNods 78 = .ok (.iload_n 2, 1) := by decide +kernel
theorem dX6_whoNods_79 : decode cX6_whoNods 79 = .ok (.i2d, 1) := by decide +kernel
theorem dX6_whoNods_80 : decode cX6_whoNods 80 = .ok (.dcmp .l, 1) := by decide +kernel
theorem dX6_whoNods_81 : decode cX6_whoNods 81 = .ok (.ifCond .lt 5, 3) := by decide +kernel
theorem dX6_whoNods_84 : decode cX6_whoNods 84 = .ok (.iload_n 3, 1) := by decide +kernel
theorem dX6_whoNods_85 : decode cX6_whoNods 85 = .ok (.ireturn, 1) := by decide +kernel
theorem dX6_whoNods_86 : decode cX6_whoNods 86 = .ok (.iinc 4 1, 3) := by decide +kernel
theorem dX6_whoNods_89 : decode cX6_whoNods 89 = .ok (.goto (-56), 3) := by decide +kernel
theorem dX6_whoNods_92 : decode cX6_whoNods 92 = .ok (.iconst (-1), 1) := by decide +kernel
theorem dX6_whoNods_93 : decode cX6_whoNods 93 = .ok (.ireturn, 1) := by decide +kernel
theorem dX6_takeNod_0 : decode cX6_takeNod 0 = .ok (.aload_n 0, 1) := by decide +kernel
theorem dX6_takeNod_1 : decode cX6_takeNod 1 = .ok (.iload_n 1, 1) := by decide +kernel
theorem dX6_takeNod_2 : decode cX6_takeNod 2 = .ok (.invokevirtual 156, 3) := by decide +kernel
theorem dX6_takeNod_5 : decode cX6_takeNod 5 = .ok (.ifCond .eq 36, 3) := by decide +kernel
theorem dX6_takeNod_8 : decode cX6_takeNod 8 = .ok (.aload_n 0, 1) := by decide +kernel
theorem dX6_takeNod_9 : decode cX6_takeNod 9 = .ok (.aload_n 0, 1) := by decide +kernel
theorem dX6_takeNod_10 : decode cX6_takeNod 10 = .ok (.invokevirtual 173, 3) := by decide +kernel
theorem dX6_takeNod_13 : decode cX6_takeNod 13 = .ok (.putfield 44, 3) := by decide +kernel
theorem dX6_takeNod_16 : decode cX6_takeNod 16 = .ok (.aload_n 0, 1) := by decide +kernel
theorem dX6_takeNod_17 : decode cX6_takeNod 17 = .ok (.iload_n 1, 1) := by decide +kernel
theorem dX6_takeNod_18 : decode cX6_takeNod 18 = .ok (.putfield 47, 3) := by decide +kernel
theorem dX6_takeNod_21 : decode cX6_takeNod 21 = .ok (.aload_n 0, 1) := by decide +kernel
theorem dX6_takeNod_22 : decode cX6_takeNod 22 = .ok (.iconst 0, 1) := by decide +kernel
theorem dX6_takeNod_23 : decode cX6_takeNod 23 = .ok (.putfield 50, 3) := by decide +kernel
theorem dX6_takeNod_26 : decode cX6_takeNod 26 = .ok (.aload_n 0, 1) := by decide +kernel
theorem dX6_takeNod_27 : decode cX6_takeNod 27 = .ok (.getfield 27, 3) := by decide +kernel
theorem dX6_takeNod_30 : decode cX6_takeNod 30 = .ok (.iload_n 1, 1) := by decide +kernel
theorem dX6_takeNod_31 : decode cX6_takeNod 31 = .ok (.aaload, 1) := by decide +kernel
theorem dX6_takeNod_32 : decode cX6_takeNod 32 = .ok (.dup, 1) := by decide +kernel
theorem dX6_takeNod_33 : decode cX6_takeNod 33 = .ok (.getfield 184, 3) := by decide +kernel
theorem dX6_takeNod_36 : decode cX6_takeNod 36 = .ok (.iconst 1, 1) := by decide +kernel
theorem dX6_takeNod_37 : decode cX6_takeNod 37 = .ok (.iadd, 1) := by decide +kernel
theorem dX6_takeNod_38 : decode cX6_takeNod 38 = .ok (.putfield 184, 3) := by decide +kernel
theorem dX6_takeNod_41 : decode cX6_takeNod 41 = .ok (.return_, 1) := by decide +kernel
theorem dX6_letPass_0 : decode cX6_letPass 0 = .ok (.iconst 0, 1) := by decide +kernel
theorem dX6_letPass_1 : decode cX6_letPass 1 = .ok (.istore_n 2, 1) := by decide +kernel
theorem dX6_letPass_2 : decode cX6_letPass 2 = .ok (.iconst 0, 1) := by decide +kernel
theorem dX6_letPass_3 : decode cX6_letPass 3 = .ok (.istore_n 3, 1) := by decide +kernel
theorem dX6_letPass_4 : decode cX6_letPass 4 = .ok (.iload_n 3, 1) := by decide +kernel
theorem dX6_letPass_5 : decode cX6_letPass 5 = .ok (.iload_n 1, 1) := by decide +kernel
theorem dX6_letPass_6 : decode cX6_letPass 6 = .ok (.if_icmp .ge 43, 3) := by decide +kernel
theorem dX6_letPass_9 : decode cX6_letPass 9 = .ok (.aload_n 0, 1) := by decide +kernel
theorem dX6_letPass_10 : decode cX6_letPass 10 = .ok (.invokevirtual 187, 3) := by decide +kernel
theorem dX6_letPass_13 : decode cX6_letPass 13 = .ok (.ifCond .eq 20, 3) := by decide +kernel
theorem dX6_letPass_16 : decode cX6_letPass 16 = .ok (.aload_n 0, 1) := by decide +kernel
theorem dX6_letPass_17 : decode cX6_letPass 17 = .ok (.getfield 12, 3) := by decide +kernel
theorem dX6_letPass_20 : decode cX6_letPass 20 = .ok (.dup, 1) := by decide +kernel
theorem dX6_letPass_21 : decode cX6_letPass 21 = .ok (.getfield 92, 3) := by decide +kernel
theorem dX6_letPass_24 : decode cX6_letPass 24 = .ok (.iload_n 1, 1) := by decide +kernel
theorem dX6_letPass_25 : decode cX6_letPass 25 = .ok (.iload_n 3, 1) := by decide +kernel
theorem dX6_letPass_26 : decode cX6_letPass 26 = .ok (.isub, 1) := by decide +kernel
theorem dX6_letPass_27 : decode cX6_letPass 27 = .ok (.iadd, 1) := by decide +kernel
theorem dX6_letPass_28 : decode cX6_letPass 28 = .ok (.putfield 92, 3) := by decide +kernel
theorem dX6_letPass_31 : decode cX6_letPass 31 = .ok (.iload_n 2, 1) := by decide +kernel
theorem dX6_letPass_32 : decode cX6_letPass 32 = .ok (.ireturn, 1) := by decide +kernel
theorem dX6_letPass_33 : decode cX6_letPass 33 = .ok (.aload_n 0, 1) := by decide +kernel
theorem dX6_letPass_34 : decode cX6_letPass 34 = .ok (.invokevirtual 190, 3) := by decide +kernel
theorem dX6_letPass_37 : decode cX6_letPass 37 = .ok (.ifCond .eq 6, 3) := by decide +kernel
theorem dX6_letPass_40 : decode cX6_letPass 40 = .ok (.iinc 2 1, 3) := by decide +kernel
theorem dX6_letPass_43 : decode cX6_letPass 43 = .ok (.iinc 3 1, 3) := by decide +kernel
theorem dX6_letPass_46 : decode cX6_letPass 46 = .ok (.goto (-42), 3) := by decide +kernel
theorem dX6_letPass_49 : decode cX6_letPass 49 = .ok (.iload_n 2, 1) := by decide +kernel
theorem dX6_letPass_50 : decode cX6_letPass 50 = .ok (.ireturn, 1) := by decide +kernel
theorem dX6_isIdle_0 : decode cX6_isIdle 0 = .ok (.aload_n 0, 1) := by decide +kernel
theorem dX6_isIdle_1 : decode cX6_isIdle 1 = .ok (.getfield 41, 3) := by decide +kernel
theorem dX6_isIdle_4 : decode cX6_isIdle 4 = .ok (.iconst (-1), 1) := by decide +kernel
theorem dX6_isIdle_5 : decode cX6_isIdle 5 = .ok (.if_icmp .ne 14, 3) := by decide +kernel
theorem dX6_isIdle_8 : decode cX6_isIdle 8 = .ok (.aload_n 0, 1) := by decide +kernel
theorem dX6_isIdle_9 : decode cX6_isIdle 9 = .ok (.getfield 89, 3) := by decide +kernel
theorem dX6_isIdle_12 : decode cX6_isIdle 12 = .ok (.ifCond .ne 7, 3) := by decide +kernel
theorem dX6_isIdle_15 : decode cX6_isIdle 15 = .ok (.iconst 1, 1) := by decide +kernel
theorem dX6_isIdle_16 : decode cX6_isIdle 16 = .ok (.goto 4, 3) := by decide +kernel
theorem dX6_isIdle_19 : decode cX6_isIdle 19 = .ok (.iconst 0, 1) := by decide +kernel
theorem dX6_isIdle_20 : decode cX6_isIdle 20 = .ok (.ireturn, 1) := by decide +kernel
theorem dX6_passOneMinute_0 : decode cX6_passOneMinute 0 = .ok (.aload_n 0, 1) := by decide +kernel
theorem dX6_passOneMinute_1 : decode cX6_passOneMinute 1 = .ok (.getfield 12, 3) := by decide +kernel
theorem dX6_passOneMinute_4 : decode cX6_passOneMinute 4 = .ok (.dup, 1) := by decide +kernel
theorem dX6_passOneMinute_5 : decode cX6_passOneMinute 5 = .ok (.getfield 92, 3) := by decide +kernel
theorem dX6_passOneMinute_8 : decode cX6_passOneMinute 8 = .ok (.iconst 1, 1) := by decide +kernel
theorem dX6_passOneMinute_9 : decode cX6_passOneMinute 9 = .ok (.iadd, 1) := by decide +kernel
theorem dX6_passOneMinute_10 : decode cX6_passOneMinute 10 = .ok (.putfield 92, 3) := by decide +kernel
theorem dX6_passOneMinute_13 : decode cX6_passOneMinute 13 = .ok (.aload_n 0, 1) := by decide +kernel
theorem dX6_passOneMinute_14 : decode cX6_passOneMinute 14 = .ok (.getfield 12, 3) := by decide +kernel
theorem dX6_passOneMinute_17 : decode cX6_passOneMinute 17 = .ok (.invokevirtual 233, 3) := by decide +kernel
theorem dX6_passOneMinute_20 : decode cX6_passOneMinute 20 = .ok (.ifCond .eq 8, 3) := by decide +kernel
theorem dX6_passOneMinute_23 : decode cX6_passOneMinute 23 = .ok (.aload_n 0, 1) := by decide +kernel
theorem dX6_passOneMinute_24 : decode cX6_passOneMinute 24 = .ok (.invokevirtual 236, 3) := by decide +kernel
theorem dX6_passOneMinute_27 : decode cX6_passOneMinute 27 = .ok (.ireturn, 1) := by decide +kernel
theorem dX6_passOneMinute_28 : decode cX6_passOneMinute 28 = .ok (.aload_n 0, 1) := by decide +kernel
theorem dX6_passOneMinute_29 : decode cX6_passOneMinute 29 = .ok (.getfield 12, 3) := by decide +kernel
theorem dX6_passOneMinute_32 : decode cX6_passOneMinute 32 = .ok (.invokevirtual 170, 3) := by decide +kernel
theorem dX6_passOneMinute_35 : decode cX6_passOneMinute 35 = .ok (.ifCond .ne 5, 3) := by decide +kernel
theorem dX6_passOneMinute_38 : decode cX6_passOneMinute 38 = .ok (.iconst 0, 1) := by decide +kernel
theorem dX6_passOneMinute_39 : decode cX6_passOneMinute 39 = .ok (.ireturn, 1) := by decide +kernel
theorem dX6_passOneMinute_40 : decode cX6_passOneMinute 40 = .ok (.aload_n 0, 1) := by decide +kernel
theorem dX6_passOneMinute_41 : decode cX6_passOneMinute 41 = .ok (.getfield 41, 3) := by decide +kernel
theorem dX6_passOneMinute_44 : decode cX6_passOneMinute 44 = .ok (.iconst (-1), 1) := by decide +kernel
theorem dX6_passOneMinute_45 : decode cX6_passOneMinute 45 = .ok (.if_icmp .ne 9, 3) := by decide +kernel
theorem dX6_passOneMinute_48 : decode cX6_passOneMinute 48 = .ok (.aload_n 0, 1) := by decide +kernel
theorem dX6_passOneMinute_49 : decode cX6_passOneMinute 49 = .ok (.invokevirtual 239, 3) := by decide +kernel
theorem dX6_passOneMinute_52 : decode cX6_passOneMinute 52 = .ok (.iconst 0, 1) := by decide +kernel
theorem dX6_passOneMinute_53 : decode cX6_passOneMinute 53 = .ok (.ireturn, 1) := by decide +kernel
theorem dX6_passOneMinute_54 : decode cX6_passOneMinute 54 = .ok (.aload_n 0, 1) := by decide +kernel
theorem dX6_passOneMinute_55 : decode cX6_passOneMinute 55 = .ok (.invokevirtual 242, 3) := by decide +kernel
theorem dX6_passOneMinute_58 : decode cX6_passOneMinute 58 = .ok (.istore_n 1, 1) := by decide +kernel
theorem dX6_passOneMinute_59 : decode cX6_passOneMinute 59 = .ok (.iload_n 1, 1) := by decide +kernel
theorem dX6_passOneMinute_60 : decode cX6_passOneMinute 60 = .ok (.iconst (-1), 1) := by decide +kernel
theorem dX6_passOneMinute_61 : decode cX6_passOneMinute 61 = .ok (.if_icmp .eq 10, 3) := by decide +kernel
theorem dX6_passOneMinute_64 : decode cX6_passOneMinute 64 = .ok (.aload_n 0, 1) := by decide +kernel
theorem dX6_passOneMinute_65 : decode cX6_passOneMinute 65 = .ok (.iload_n 1, 1) := by decide +kernel
theorem dX6_passOneMinute_66 : decode cX6_passOneMinute 66 = .ok (.invokevirtual 212, 3) := by decide +kernel
theorem dX6_passOneMinute_69 : decode cX6_passOneMinute 69 = .ok (.iconst 0, 1) := by decide +kernel
theorem dX6_passOneMinute_70 : decode cX6_passOneMinute 70 = .ok (.ireturn, 1) := by decide +kernel
theorem dX6_passOneMinute_71 : decode cX6_passOneMinute 71 = .ok (.aload_n 0, 1) := by decide +kernel
theorem dX6_passOneMinute_72 : decode cX6_passOneMinute 72 = .ok (.dup, 1) := by decide +kernel
theorem dX6_passOneMinute_73 : decode cX6_passOneMinute 73 = .ok (.getfield 50, 3) := by decide +kernel
theorem dX6_passOneMinute_76 : decode cX6_passOneMinute 76 = .ok (.iconst 1, 1) := by decide +kernel
theorem dX6_passOneMinute_77 : decode cX6_passOneMinute 77 = .ok (.iadd, 1) := by decide +kernel
theorem dX6_passOneMinute_78 : decode cX6_passOneMinute 78 = .ok (.putfield 50, 3) := by decide +kernel
theorem dX6_passOneMinute_81 : decode cX6_passOneMinute 81 = .ok (.aload_n 0, 1) := by decide +kernel
theorem dX6_passOneMinute_82 : decode cX6_passOneMinute 82 = .ok (.getfield 50, 3) := by decide +kernel
theorem dX6_passOneMinute_85 : decode cX6_passOneMinute 85 = .ok (.aload_n 0, 1) := by decide +kernel
theorem dX6_passOneMinute_86 : decode cX6_passOneMinute 86 = .ok (.getfield 18, 3) := by decide +kernel
theorem dX6_passOneMinute_89 : decode cX6_passOneMinute 89 = .ok (.if_icmp .ne 14, 3) := by decide +kernel
theorem dX6_passOneMinute_92 : decode cX6_passOneMinute 92 = .ok (.aload_n 0, 1) := by decide +kernel
theorem dX6_passOneMinute_93 : decode cX6_passOneMinute 93 = .ok (.invokevirtual 236, 3) := by decide +kernel
theorem dX6_passOneMinute_96 : decode cX6_passOneMinute 96 = .ok (.ifCond .eq 7, 3) := by decide +kernel
theorem dX6_passOneMinute_99 : decode cX6_passOneMinute 99 = .ok (.iconst 1, 1) := by decide +kernel
theorem dX6_passOneMinute_100 : decode cX6_passOneMinute 100 = .ok (.goto 4, 3) := by decide +kernel
theorem dX6_passOneMinute_103 : decode cX6_passOneMinute 103 = .ok (.iconst 0, 1) := by decide +kernel
theorem dX6_passOneMinute_104 : decode cX6_passOneMinute 104 = .ok (.ireturn, 1) := by decide +kernel
theorem dX6_openFirst_0 : decode cX6_openFirst 0 = .ok (.aload_n 0, 1) := by decide +kernel
theorem dX6_openFirst_1 : decode cX6_openFirst 1 = .ok (.getfield 89, 3) := by decide +kernel
theorem dX6_openFirst_4 : decode cX6_openFirst 4 = .ok (.ifCond .le 39, 3) := by decide +kernel
theorem dX6_openFirst_7 : decode cX6_openFirst 7 = .ok (.aload_n 0, 1) := by decide +kernel
theorem dX6_openFirst_8 : decode cX6_openFirst 8 = .ok (.aload_n 0, 1) := by decide +kernel
theorem dX6_openFirst_9 : decode cX6_openFirst 9 = .ok (.getfield 37, 3) := by decide +kernel
theorem dX6_openFirst_12 : decode cX6_openFirst 12 = .ok (.iconst 0, 1) := by decide +kernel
theorem dX6_openFirst_13 : decode cX6_openFirst 13 = .ok (.iaload, 1) := by decide +kernel
theorem dX6_openFirst_14 : decode cX6_openFirst 14 = .ok (.putfield 41, 3) := by decide +kernel
theorem dX6_openFirst_17 : decode cX6_openFirst 17 = .ok (.aload_n 0, 1) := by decide +kernel
theorem dX6_openFirst_18 : decode cX6_openFirst 18 = .ok (.iconst 0, 1) := by decide +kernel
theorem dX6_openFirst_19 : decode cX6_openFirst 19 = .ok (.putfield 50, 3) := by decide +kernel
theorem dX6_openFirst_22 : decode cX6_openFirst 22 = .ok (.aload_n 0, 1) := by decide +kernel
theorem dX6_openFirst_23 : decode cX6_openFirst 23 = .ok (.getfield 33, 3) := by decide +kernel
theorem dX6_openFirst_26 : decode cX6_openFirst 26 = .ok (.aload_n 0, 1) := by decide +kernel
theorem dX6_openFirst_27 : decode cX6_openFirst 27 = .ok (.getfield 41, 3) := by decide +kernel
theorem dX6_openFirst_30 : decode cX6_openFirst 30 = .ok (.aaload, 1) := by decide +kernel
theorem dX6_openFirst_31 : decode cX6_openFirst 31 = .ok (.iconst 1, 1) := by decide +kernel
theorem dX6_openFirst_32 : decode cX6_openFirst 32 = .ok (.putfield 102, 3) := by decide +kernel
theorem dX6_openFirst_35 : decode cX6_openFirst 35 = .ok (.aload_n 0, 1) := by decide +kernel
theorem dX6_openFirst_36 : decode cX6_openFirst 36 = .ok (.aload_n 0, 1) := by decide +kernel
theorem dX6_openFirst_37 : decode cX6_openFirst 37 = .ok (.getfield 41, 3) := by decide +kernel
theorem dX6_openFirst_40 : decode cX6_openFirst 40 = .ok (.invokevirtual 153, 3) := by decide +kernel
theorem dX6_openFirst_43 : decode cX6_openFirst 43 = .ok (.return_, 1) := by decide +kernel
theorem dX6_closeBarrel_0 : decode cX6_closeBarrel 0 = .ok (.aload_n 0, 1) := by decide +kernel
theorem dX6_closeBarrel_1 : decode cX6_closeBarrel 1 = .ok (.getfield 41, 3) := by decide +kernel
theorem dX6_closeBarrel_4 : decode cX6_closeBarrel 4 = .ok (.iconst (-1), 1) := by decide +kernel
theorem dX6_closeBarrel_5 : decode cX6_closeBarrel 5 = .ok (.if_icmp .ne 5, 3) := by decide +kernel
theorem dX6_closeBarrel_8 : decode cX6_closeBarrel 8 = .ok (.iconst 0, 1) := by decide +kernel
theorem dX6_closeBarrel_9 : decode cX6_closeBarrel 9 = .ok (.ireturn, 1) := by decide +kernel
theorem dX6_closeBarrel_10 : decode cX6_closeBarrel 10 = .ok (.aload_n 0, 1) := by decide +kernel
theorem dX6_closeBarrel_11 : decode cX6_closeBarrel 11 = .ok (.getfield 47, 3) := by decide +kernel
theorem dX6_closeBarrel_14 : decode cX6_closeBarrel 14 = .ok (.iconst (-1), 1) := by decide +kernel
theorem dX6_closeBarrel_15 : decode cX6_closeBarrel 15 = .ok (.if_icmp .eq 7, 3) := by decide +kernel
theorem dX6_closeBarrel_18 : decode cX6_closeBarrel 18 = .ok (.iconst 1, 1) := by decide +kernel
theorem dX6_closeBarrel_19 : decode cX6_closeBarrel 19 = .ok (.goto 4, 3) := by decide +kernel
theorem dX6_closeBarrel_22 : decode cX6_closeBarrel 22 = .ok (.iconst 0, 1) := by decide +kernel
theorem dX6_closeBarrel_23 : decode cX6_closeBarrel 23 = .ok (.istore_n 1, 1) := by decide +kernel
theorem dX6_closeBarrel_24 : decode cX6_closeBarrel 24 = .ok (.iload_n 1, 1) := by decide +kernel
theorem dX6_closeBarrel_25 : decode cX6_closeBarrel 25 = .ok (.ifCond .eq 28, 3) := by decide +kernel
theorem dX6_closeBarrel_28 : decode cX6_closeBarrel 28 = .ok (.aload_n 0, 1) := by decide +kernel
theorem dX6_closeBarrel_29 : decode cX6_closeBarrel 29 = .ok (.aload_n 0, 1) := by decide +kernel
theorem dX6_closeBarrel_30 : decode cX6_closeBarrel 30 = .ok (.getfield 33, 3) := by decide +kernel
theorem dX6_closeBarrel_33 : decode cX6_closeBarrel 33 = .ok (.aload_n 0, 1) := by decide +kernel
theorem dX6_closeBarrel_34 : decode cX6_closeBarrel 34 = .ok (.getfield 41, 3) := by decide +kernel
theorem dX6_closeBarrel_37 : decode cX6_closeBarrel 37 = .ok (.aaload, 1) := by decide +kernel
theorem dX6_closeBarrel_38 : decode cX6_closeBarrel 38 = .ok (.aload_n 0, 1) := by decide +kernel
theorem dX6_closeBarrel_39 : decode cX6_closeBarrel 39 = .ok (.getfield 27, 3) := by decide +kernel
theorem dX6_closeBarrel_42 : decode cX6_closeBarrel 42 = .ok (.aload_n 0, 1) := by decide +kernel
theorem dX6_closeBarrel_43 : decode cX6_closeBarrel 43 = .ok (.getfield 47, 3) := by decide +kernel
theorem dX6_closeBarrel_46 : decode cX6_closeBarrel 46 = .ok (.aaload, 1) := by decide +kernel
theorem dX6_closeBarrel_47 : decode cX6_closeBarrel 47 = .ok (.invokevirtual 245, 3) := by decide +kernel
theorem dX6_closeBarrel_50 : decode cX6_closeBarrel 50 = .ok (.goto 11, 3) := by decide +kernel
theorem dX6_closeBarrel_53 : decode cX6_closeBarrel 53 = .ok (.aload_n 0, 1) := by decide +kernel
theorem dX6_closeBarrel_54 : decode cX6_closeBarrel 54 = .ok (.aload_n 0, 1) := by decide +kernel
theorem dX6_closeBarrel_55 : decode cX6_closeBarrel 55 = .ok (.getfield 41, 3) := by decide +kernel
theorem dX6_closeBarrel_58 : decode cX6_closeBarrel 58 = .ok (.invokevirtual 249, 3) := by decide +kernel
theorem dX6_closeBarrel_61 : decode cX6_closeBarrel 61 = .ok (.aload_n 0, 1) := by decide +kernel
theorem dX6_closeBarrel_62 : decode cX6_closeBarrel 62 = .ok (.invokevirtual 95, 3) := by decide +kernel
theorem dX6_closeBarrel_65 : decode cX6_closeBarrel 65 = .ok (.iload_n 1, 1) := by decide +kernel
theorem dX6_closeBarrel_66 : decode cX6_closeBarrel 66 = .ok (.ireturn, 1) := by decide +kernel
theorem dX6_sell_0 : decode cX6_sell 0 = .ok (.aload_n 0, 1) := by decide +kernel
theorem dX6_sell_1 : decode cX6_sell 1 = .ok (.aload_n 0, 1) := by decide +kernel
theorem dX6_sell_2 : decode cX6_sell 2 = .ok (.getfield 44, 3) := by decide +kernel
theorem dX6_sell_5 : decode cX6_sell 5 = .ok (.invokevirtual 177, 3) := by decide +kernel
theorem dX6_sell_8 : decode cX6_sell 8 = .ok (.istore_n 3, 1) := by decide +kernel
theorem dX6_sell_9 : decode cX6_sell 9 = .ok (.aload_n 2, 1) := by decide +kernel
theorem dX6_sell_10 : decode cX6_sell 10 = .ok (.dup, 1) := by decide +kernel
theorem dX6_sell_11 : decode cX6_sell 11 = .ok (.getfield 160, 3) := by decide +kernel
theorem dX6_sell_14 : decode cX6_sell 14 = .ok (.iload_n 3, 1) := by decide +kernel
theorem dX6_sell_15 : decode cX6_sell 15 = .ok (.isub, 1) := by decide +kernel
theorem dX6_sell_16 : decode cX6_sell 16 = .ok (.putfield 160, 3) := by decide +kernel
theorem dX6_sell_19 : decode cX6_sell 19 = .ok (.aload_n 2, 1) := by decide +kernel
theorem dX6_sell_20 : decode cX6_sell 20 = .ok (.dup, 1) := by decide +kernel
theorem dX6_sell_21 : decode cX6_sell 21 = .ok (.getfield 252, 3) := by decide +kernel
theorem dX6_sell_24 : decode cX6_sell 24 = .ok (.iconst 1, 1) := by decide +kernel
theorem dX6_sell_25 : decode cX6_sell 25 = .ok (.iadd, 1) := by decide +kernel
theorem dX6_sell_26 : decode cX6_sell 26 = .ok (.putfield 252, 3) := by decide +kernel
theorem dX6_sell_29 : decode cX6_sell 29 = .ok (.aload_n 0, 1) := by decide +kernel
theorem dX6_sell_30 : decode cX6_sell 30 = .ok (.dup, 1) := by decide +kernel
theorem dX6_sell_31 : decode cX6_sell 31 = .ok (.getfield 62, 3) := by decide +kernel
theorem dX6_sell_34 : decode cX6_sell 34 = .ok (.aload_n 0, 1) := by decide +kernel
theorem dX6_sell_35 : decode cX6_sell 35 = .ok (.getfield 44, 3) := by decide +kernel
theorem dX6_sell_38 : decode cX6_sell 38 = .ok (.iadd, 1) := by decide +kernel
theorem dX6_sell_39 : decode cX6_sell 39 = .ok (.putfield 62, 3) := by decide +kernel
theorem dX6_sell_42 : decode cX6_sell 42 = .ok (.aload_n 0, 1) := by decide +kernel
theorem dX6_sell_43 : decode cX6_sell 43 = .ok (.dup, 1) := by decide +kernel
theorem dX6_sell_44 : decode cX6_sell 44 = .ok (.getfield 65, 3) := by decide +kernel
theorem dX6_sell_47 : decode cX6_sell 47 = .ok (.iload_n 3, 1) := by decide +kernel
theorem dX6_sell_48 : decode cX6_sell 48 = .ok (.aload_n 0, 1) := by decide +kernel
theorem dX6_sell_49 : decode cX6_sell 49 = .ok (.getfield 44, 3) := by decide +kernel
theorem dX6_sell_52 : decode cX6_sell 52 = .ok (.isub, 1) := by decide +kernel
theorem dX6_sell_53 : decode cX6_sell 53 = .ok (.iadd, 1) := by decide +kernel
theorem dX6_sell_54 : decode cX6_sell 54 = .ok (.putfield 65, 3) := by decide +kernel
theorem dX6_sell_57 : decode cX6_sell 57 = .ok (.aload_n 1, 1) := by decide +kernel
theorem dX6_sell_58 : decode cX6_sell 58 = .ok (.iconst 2, 1) := by decide +kernel
theorem dX6_sell_59 : decode cX6_sell 59 = .ok (.putfield 102, 3) := by decide +kernel
theorem dX6_sell_62 : decode cX6_sell 62 = .ok (.aload_n 1, 1) := by decide +kernel
theorem dX6_sell_63 : decode cX6_sell 63 = .ok (.aload_n 0, 1) := by decide +kernel
theorem dX6_sell_64 : decode cX6_sell 64 = .ok (.getfield 47, 3) := by decide +kernel
theorem dX6_sell_67 : decode cX6_sell 67 = .ok (.putfield 255, 3) := by decide +kernel
theorem dX6_sell_70 : decode cX6_sell 70 = .ok (.aload_n 1, 1) := by decide +kernel
theorem dX6_sell_71 : decode cX6_sell 71 = .ok (.aload_n 0, 1) := by decide +kernel
theorem dX6_sell_72 : decode cX6_sell 72 = .ok (.getfield 44, 3) := by decide +kernel
theorem dX6_sell_75 : decode cX6_sell 75 = .ok (.putfield 258, 3) := by decide +kernel
theorem dX6_sell_78 : decode cX6_sell 78 = .ok (.return_, 1) := by decide +kernel
theorem dX6_sendBack_0 : decode cX6_sendBack 0 = .ok (.aload_n 0, 1) := by decide +kernel
theorem dX6_sendBack_1 : decode cX6_sendBack 1 = .ok (.getfield 33, 3) := by decide +kernel
theorem dX6_sendBack_4 : decode cX6_sendBack 4 = .ok (.iload_n 1, 1) := by decide +kernel
theorem dX6_sendBack_5 : decode cX6_sendBack 5 = .ok (.aaload, 1) := by decide +kernel
theorem dX6_sendBack_6 : decode cX6_sendBack 6 = .ok (.astore_n 2, 1) := by decide +kernel
theorem dX6_sendBack_7 : decode cX6_sendBack 7 = .ok (.aload_n 2, 1) := by decide +kernel
theorem dX6_sendBack_8 : decode cX6_sendBack 8 = .ok (.dup, 1) := by decide +kernel
theorem dX6_sendBack_9 : decode cX6_sendBack 9 = .ok (.getfield 261, 3) := by decide +kernel
theorem dX6_sendBack_12 : decode cX6_sendBack 12 = .ok (.iconst 1, 1) := by decide +kernel
theorem dX6_sendBack_13 : decode cX6_sendBack 13 = .ok (.iadd, 1) := by decide +kernel
theorem dX6_sendBack_14 : decode cX6_sendBack 14 = .ok (.putfield 261, 3) := by decide +kernel
theorem dX6_sendBack_17 : decode cX6_sendBack 17 = .ok (.aload_n 2, 1) := by decide +kernel
theorem dX6_sendBack_18 : decode cX6_sendBack 18 = .ok (.getfield 261, 3) := by decide +kernel
theorem dX6_sendBack_21 : decode cX6_sendBack 21 = .ok (.iconst 3, 1) := by decide +kernel
theorem dX6_sendBack_22 : decode cX6_sendBack 22 = .ok (.if_icmp .ne 11, 3) := by decide +kernel
theorem dX6_sendBack_25 : decode cX6_sendBack 25 = .ok (.aload_n 2, 1) := by decide +kernel
theorem dX6_sendBack_26 : decode cX6_sendBack 26 = .ok (.iconst 3, 1) := by decide +kernel
theorem dX6_sendBack_27 : decode cX6_sendBack 27 = .ok (.putfield 102, 3) := by decide +kernel
theorem dX6_sendBack_30 : decode cX6_sendBack 30 = .ok (.goto 13, 3) := by decide +kernel
theorem dX6_sendBack_33 : decode cX6_sendBack 33 = .ok (.aload_n 2, 1) := by decide +kernel
theorem dX6_sendBack_34 : decode cX6_sendBack 34 = .ok (.iconst 0, 1) := by decide +kernel
theorem dX6_sendBack_35 : decode cX6_sendBack 35 = .ok (.putfield 102, 3) := by decide +kernel
theorem dX6_sendBack_38 : decode cX6_sendBack 38 = .ok (.aload_n 0, 1) := by decide +kernel
theorem dX6_sendBack_39 : decode cX6_sendBack 39 = .ok (.iload_n 1, 1) := by decide +kernel
theorem dX6_sendBack_40 : decode cX6_sendBack 40 = .ok (.invokevirtual 127, 3) := by decide +kernel
theorem dX6_sendBack_43 : decode cX6_sendBack 43 = .ok (.return_, 1) := by decide +kernel
theorem dX6_endBidding_0 : decode cX6_endBidding 0 = .ok (.aload_n 0, 1) := by decide +kernel
theorem dX6_endBidding_1 : decode cX6_endBidding 1 = .ok (.iconst (-1), 1) := by decide +kernel
theorem dX6_endBidding_2 : decode cX6_endBidding 2 = .ok (.putfield 41, 3) := by decide +kernel
theorem dX6_endBidding_5 : decode cX6_endBidding 5 = .ok (.aload_n 0, 1) := by decide +kernel
theorem dX6_endBidding_6 : decode cX6_endBidding 6 = .ok (.iconst (-1), 1) := by decide +kernel
theorem dX6_endBidding_7 : decode cX6_endBidding 7 = .ok (.putfield 44, 3) := by decide +kernel
theorem dX6_endBidding_10 : decode cX6_endBidding 10 = .ok (.aload_n 0, 1) := by decide +kernel
theorem dX6_endBidding_11 : decode cX6_endBidding 11 = .ok (.iconst (-1), 1) := by decide +kernel
theorem dX6_endBidding_12 : decode cX6_endBidding 12 = .ok (.putfield 47, 3) := by decide +kernel
theorem dX6_endBidding_15 : decode cX6_endBidding 15 = .ok (.aload_n 0, 1) := by decide +kernel
theorem dX6_endBidding_16 : decode cX6_endBidding 16 = .ok (.iconst (-1), 1) := by decide +kernel
theorem dX6_endBidding_17 : decode cX6_endBidding 17 = .ok (.putfield 50, 3) := by decide +kernel
theorem dX6_endBidding_20 : decode cX6_endBidding 20 = .ok (.return_, 1) := by decide +kernel
theorem dX6_enqueue_0 : decode cX6_enqueue 0 = .ok (.aload_n 0, 1) := by decide +kernel
theorem dX6_enqueue_1 : decode cX6_enqueue 1 = .ok (.getfield 89, 3) := by decide +kernel
theorem dX6_enqueue_4 : decode cX6_enqueue 4 = .ok (.bipush 20, 2) := by decide +kernel
theorem dX6_enqueue_6 : decode cX6_enqueue 6 = .ok (.if_icmp .ge 23, 3) := by decide +kernel
theorem dX6_enqueue_9 : decode cX6_enqueue 9 = .ok (.aload_n 0, 1) := by decide +kernel
theorem dX6_enqueue_10 : decode cX6_enqueue 10 = .ok (.getfield 37, 3) := by decide +kernel
theorem dX6_enqueue_13 : decode cX6_enqueue 13 = .ok (.aload_n 0, 1) := by decide +kernel
theorem dX6_enqueue_14 : decode cX6_enqueue 14 = .ok (.getfield 89, 3) := by decide +kernel
theorem dX6_enqueue_17 : decode cX6_enqueue 17 = .ok (.iload_n 1, 1) := by decide +kernel
theorem dX6_enqueue_18 : decode cX6_enqueue 18 = .ok (.iastore, 1) := by decide +kernel
theorem dX6_enqueue_19 : decode cX6_enqueue 19 = .ok (.aload_n 0, 1) := by decide +kernel
theorem dX6_enqueue_20 : decode cX6_enqueue 20 = .ok (.dup, 1) := by decide +kernel
theorem dX6_enqueue_21 : decode cX6_enqueue 21 = .ok (.getfield 89, 3) := by decide +kernel
theorem dX6_enqueue_24 : decode cX6_enqueue 24 = .ok (.iconst 1, 1) := by decide +kernel
theorem dX6_enqueue_25 : decode cX6_enqueue 25 = .ok (.iadd, 1) := by decide +kernel
theorem dX6_enqueue_26 : decode cX6_enqueue 26 = .ok (.putfield 89, 3) := by decide +kernel
theorem dX6_enqueue_29 : decode cX6_enqueue 29 = .ok (.return_, 1) := by decide +kernel
theorem dX6_dequeue_0 : decode cX6_dequeue 0 = .ok (.iconst 0, 1) := by decide +kernel
theorem dX6_dequeue_1 : decode cX6_dequeue 1 = .ok (.istore_n 2, 1) := by decide +kernel
theorem dX6_dequeue_2 : decode cX6_dequeue 2 = .ok (.iconst 0, 1) := by decide +kernel
theorem dX6_dequeue_3 : decode cX6_dequeue 3 = .ok (.istore_n 3, 1) := by decide +kernel
theorem dX6_dequeue_4 : decode cX6_dequeue 4 = .ok (.iload_n 3, 1) := by decide +kernel
theorem dX6_dequeue_5 : decode cX6_dequeue 5 = .ok (.aload_n 0, 1) := by decide +kernel
theorem dX6_dequeue_6 : decode cX6_dequeue 6 = .ok (.getfield 89, 3) := by decide +kernel
theorem dX6_dequeue_9 : decode cX6_dequeue 9 = .ok (.if_icmp .ge 34, 3) := by decide +kernel
theorem dX6_dequeue_12 : decode cX6_dequeue 12 = .ok (.aload_n 0, 1) := by decide +kernel
theorem dX6_dequeue_13 : decode cX6_dequeue 13 = .ok (.getfield 37, 3) := by decide +kernel
theorem dX6_dequeue_16 : decode cX6_dequeue 16 = .ok (.iload_n 3, 1) := by decide +kernel
theorem dX6_dequeue_17 : decode cX6_dequeue 17 = .ok (.iaload, 1) := by decide +kernel
theorem dX6_dequeue_18 : decode cX6_dequeue 18 = .ok (.iload_n 1, 1) := by decide +kernel
theorem dX6_dequeue_19 : decode cX6_dequeue 19 = .ok (.if_icmp .eq 18, 3) := by decide +kernel
theorem dX6_dequeue_22 : decode cX6_dequeue 22 = .ok (.aload_n 0, 1) := by decide +kernel
theorem dX6_dequeue_23 : decode cX6_dequeue 23 = .ok (.getfield 37, 3) := by decide +kernel
theorem dX6_dequeue_26 : decode cX6_dequeue 26 = .ok (.iload_n 2, 1) := by decide +kernel
theorem dX6_dequeue_27 : decode cX6_dequeue 27 = .ok (.aload_n 0, 1) := by decide +kernel
theorem dX6_dequeue_28 : decode cX6_dequeue 28 = .ok (.getfield 37, 3) := by decide +kernel
theorem dX6_dequeue_31 : decode cX6_dequeue 31 = .ok (.iload_n 3, 1) := by decide +kernel
theorem dX6_dequeue_32 : decode cX6_dequeue 32 = .ok (.iaload, 1) := by decide +kernel
theorem dX6_dequeue_33 : decode cX6_dequeue 33 = .ok (.iastore, 1) := by decide +kernel
theorem dX6_dequeue_34 : decode cX6_dequeue 34 = .ok (.iinc 2 1, 3) := by decide +kernel
theorem dX6_dequeue_37 : decode cX6_dequeue 37 = .ok (.iinc 3 1, 3) := by decide +kernel
theorem dX6_dequeue_40 : decode cX6_dequeue 40 = .ok (.goto (-36), 3) := by decide +kernel
theorem dX6_dequeue_43 : decode cX6_dequeue 43 = .ok (.aload_n 0, 1) := by decide +kernel
theorem dX6_dequeue_44 : decode cX6_dequeue 44 = .ok (.iload_n 2, 1) := by decide +kernel
theorem dX6_dequeue_45 : decode cX6_dequeue 45 = .ok (.putfield 89, 3) := by decide +kernel
theorem dX6_dequeue_48 : decode cX6_dequeue 48 = .ok (.return_, 1) := by decide +kernel
theorem dX7_init_0 : decode cX7_init 0 = .ok (.aload_n 0, 1) := by decide +kernel
theorem dX7_init_1 : decode cX7_init 1 = .ok (.invokespecial 3, 3) := by decide +kernel
theorem dX7_init_4 : decode cX7_init 4 = .ok (.aload_n 0, 1) := by decide +kernel
theorem dX7_init_5 : decode cX7_init 5 = .ok (.new 9, 3) := by decide +kernel
theorem dX7_init_8 : decode cX7_init 8 = .ok (.dup, 1) := by decide +kernel
theorem dX7_init_9 : decode cX7_init 9 = .ok (.invokespecial 11, 3) := by decide +kernel
theorem dX7_init_12 : decode cX7_init 12 = .ok (.putfield 12, 3) := by decide +kernel
theorem dX7_init_15 : decode cX7_init 15 = .ok (.aload_n 0, 1) := by decide +kernel
theorem dX7_init_16 : decode cX7_init 16 = .ok (.bipush 20, 2) := by decide +kernel
theorem dX7_init_18 : decode cX7_init 18 = .ok (.anewarray 18, 3) := by decide +kernel
theorem dX7_init_21 : decode cX7_init 21 = .ok (.putfield 20, 3) := by decide +kernel
theorem dX7_init_24 : decode cX7_init 24 = .ok (.aload_n 0, 1) := by decide +kernel
theorem dX7_init_25 : decode cX7_init 25 = .ok (.new 18, 3) := by decide +kernel
theorem dX7_init_28 : decode cX7_init 28 = .ok (.dup, 1) := by decide +kernel
theorem dX7_init_29 : decode cX7_init 29 = .ok (.invokespecial 24, 3) := by decide +kernel
theorem dX7_init_32 : decode cX7_init 32 = .ok (.putfield 25, 3) := by decide +kernel
theorem dX7_init_35 : decode cX7_init 35 = .ok (.aload_n 0, 1) := by decide +kernel
theorem dX7_init_36 : decode cX7_init 36 = .ok (.iconst (-1), 1) := by decide +kernel
theorem dX7_init_37 : decode cX7_init 37 = .ok (.putfield 29, 3) := by decide +kernel
theorem dX7_init_40 : decode cX7_init 40 = .ok (.iconst 0, 1) := by decide +kernel
theorem dX7_init_41 : decode cX7_init 41 = .ok (.istore_n 1, 1) := by decide +kernel
theorem dX7_init_42 : decode cX7_init 42 = .ok (.iload_n 1, 1) := by decide +kernel
theorem dX7_init_43 : decode cX7_init 43 = .ok (.bipush 20, 2) := by decide +kernel
theorem dX7_init_45 : decode cX7_init 45 = .ok (.if_icmp .ge 22, 3) := by decide +kernel
theorem dX7_init_48 : decode cX7_init 48 = .ok (.aload_n 0, 1) := by decide +kernel
theorem dX7_init_49 : decode cX7_init 49 = .ok (.getfield 20, 3) := by decide +kernel
theorem dX7_init_52 : decode cX7_init 52 = .ok (.iload_n 1, 1) := by decide +kernel
theorem dX7_init_53 : decode cX7_init 53 = .ok (.new 18, 3) := by decide +kernel
theorem dX7_init_56 : decode cX7_init 56 = .ok (.dup, 1) := by decide +kernel
theorem dX7_init_57 : decode cX7_init 57 = .ok (.invokespecial 24, 3) := by decide +kernel
theorem dX7_init_60 : decode cX7_init 60 = .ok (.aastore, 1) := by decide +kernel
theorem dX7_init_61 : decode cX7_init 61 = .ok (.iinc 1 1, 3) := by decide +kernel
theorem dX7_init_64 : decode cX7_init 64 = .ok (.goto (-22), 3) := by decide +kernel
theorem dX7_init_67 : decode cX7_init 67 = .ok (.return_, 1) := by decide +kernel
theorem dX7_readSetup_0 : decode cX7_readSetup 0 = .ok (.aload_n 0, 1) := by decide +kernel
theorem dX7_readSetup_1 : decode cX7_readSetup 1 = .ok (.invokevirtual 33, 3) := by decide +kernel
theorem dX7_readSetup_4 : decode cX7_readSetup 4 = .ok (.aload_n 1, 1) := by decide +kernel
theorem dX7_readSetup_5 : decode cX7_readSetup 5 = .ok (.invokevirtual 36, 3) := by decide +kernel
theorem dX7_readSetup_8 : decode cX7_readSetup 8 = .ok (.aload_n 0, 1) := by decide +kernel
theorem dX7_readSetup_9 : decode cX7_readSetup 9 = .ok (.aload_n 1, 1) := by decide +kernel
theorem dX7_readSetup_10 : decode cX7_readSetup 10 = .ok (.invokevirtual 41, 3) := by decide +kernel
theorem dX7_readSetup_13 : decode cX7_readSetup 13 = .ok (.ifCond .eq 41, 3) := by decide +kernel
theorem dX7_readSetup_16 : decode cX7_readSetup 16 = .ok (.aload_n 0, 1) := by decide +kernel
theorem dX7_readSetup_17 : decode cX7_readSetup 17 = .ok (.aload_n 1, 1) := by decide +kernel
theorem dX7_readSetup_18 : decode cX7_readSetup 18 = .ok (.invokevirtual 45, 3) := by decide +kernel
theorem dX7_readSetup_21 : decode cX7_readSetup 21 = .ok (.ifCond .eq 33, 3) := by decide +kernel
theorem dX7_readSetup_24 : decode cX7_readSetup 24 = .ok (.aload_n 0, 1) := by decide +kernel
theorem dX7_readSetup_25 : decode cX7_readSetup 25 = .ok (.aload_n 1, 1) := by decide +kernel
theorem dX7_readSetup_26 : decode cX7_readSetup 26 = .ok (.invokevirtual 48, 3) := by decide +kernel
theorem dX7_readSetup_29 : decode cX7_readSetup 29 = .ok (.ifCond .eq 25, 3) := by decide +kernel
theorem dX7_readSetup_32 : decode cX7_readSetup 32 = .ok (.aload_n 0, 1) := by decide +kernel
theorem dX7_readSetup_33 : decode cX7_readSetup 33 = .ok (.getfield 12, 3) := by decide +kernel
theorem dX7_readSetup_36 : decode cX7_readSetup 36 = .ok (.getfield 51, 3) := by decide +kernel
theorem dX7_readSetup_39 : decode cX7_readSetup 39 = .ok (.ifCond .eq 11, 3) := by decide +kernel
theorem dX7_readSetup_42 : decode cX7_readSetup 42 = .ok (.aload_n 0, 1) := by decide +kernel
theorem dX7_readSetup_43 : decode cX7_readSetup 43 = .ok (.iconst 1, 1) := by decide +kernel
theorem dX7_readSetup_44 : decode cX7_readSetup 44 = .ok (.invokevirtual 54, 3) := by decide +kernel
theorem dX7_readSetup_47 : decode cX7_readSetup 47 = .ok (.ifCond .eq 7, 3) := by decide +kernel
theorem dX7_readSetup_50 : decode cX7_readSetup 50 = .ok (.iconst 1, 1) := by decide +kernel
theorem dX7_readSetup_51 : decode cX7_readSetup 51 = .ok (.goto 4, 3) := by decide +kernel
theorem dX7_readSetup_54 : decode cX7_readSetup 54 = .ok (.iconst 0, 1) := by decide +kernel
theorem dX7_readSetup_55 : decode cX7_readSetup 55 = .ok (.ireturn, 1) := by decide +kernel
theorem dX7_begin_0 : decode cX7_begin 0 = .ok (.aload_n 0, 1) := by decide +kernel
theorem dX7_begin_1 : decode cX7_begin 1 = .ok (.iconst 0, 1) := by decide +kernel
theorem dX7_begin_2 : decode cX7_begin 2 = .ok (.putfield 80, 3) := by decide +kernel
theorem dX7_begin_5 : decode cX7_begin 5 = .ok (.aload_n 0, 1) := by decide +kernel
theorem dX7_begin_6 : decode cX7_begin 6 = .ok (.iconst (-1), 1) := by decide +kernel
theorem dX7_begin_7 : decode cX7_begin 7 = .ok (.putfield 29, 3) := by decide +kernel
theorem dX7_begin_10 : decode cX7_begin 10 = .ok (.aload_n 0, 1) := by decide +kernel
theorem dX7_begin_11 : decode cX7_begin 11 = .ok (.getfield 12, 3) := by decide +kernel
theorem dX7_begin_14 : decode cX7_begin 14 = .ok (.invokevirtual 83, 3) := by decide +kernel
theorem dX7_begin_17 : decode cX7_begin 17 = .ok (.return_, 1) := by decide +kernel
theorem dX7_readMarket_0 : decode cX7_readMarket 0 = .ok (.aload_n 0, 1) := by decide +kernel
theorem dX7_readMarket_1 : decode cX7_readMarket 1 = .ok (.ldc 86, 2) := by decide +kernel
theorem dX7_readMarket_3 : decode cX7_readMarket 3 = .ok (.invokevirtual 88, 3) := by decide +kernel
theorem dX7_readMarket_6 : decode cX7_readMarket 6 = .ok (.ifCond .eq 13, 3) := by decide +kernel
theorem dX7_readMarket_9 : decode cX7_readMarket 9 = .ok (.aload_n 0, 1) := by decide +kernel
theorem dX7_readMarket_10 : decode cX7_readMarket 10 = .ok (.iconst 5, 1) := by decide +kernel
theorem dX7_readMarket_11 : decode cX7_readMarket 11 = .ok (.bipush 60, 2) := by decide +kernel
theorem dX7_readMarket_13 : decode cX7_readMarket 13 = .ok (.invokevirtual 92, 3) := by decide +kernel
theorem dX7_readMarket_16 : decode cX7_readMarket 16 = .ok (.ifCond .ne 5, 3) := by decide +kernel
theorem dX7_readMarket_19 : decode cX7_readMarket 19 = .ok (.iconst 0, 1) := by decide +kernel
theorem dX7_readMarket_20 : decode cX7_readMarket 20 = .ok (.ireturn, 1) := by decide +kernel
theorem dX7_readMarket_21 : decode cX7_readMarket 21 = .ok (.aload_n 1, 1) := by decide +kernel
theorem dX7_readMarket_22 : decode cX7_readMarket 22 = .ok (.getfield 96, 3) := by decide +kernel
theorem dX7_readMarket_25 : decode cX7_readMarket 25 = .ok (.aload_n 0, 1) := by decide +kernel
theorem dX7_readMarket_26 : decode cX7_readMarket 26 = .ok (.getfield 100, 3) := by decide +kernel
theorem dX7_readMarket_29 : decode cX7_readMarket 29 = .ok (.putfield 103, 3) := by decide +kernel
theorem dX7_readMarket_32 : decode cX7_readMarket 32 = .ok (.aload_n 0, 1) := by decide +kernel
theorem dX7_readMarket_33 : decode cX7_readMarket 33 = .ok (.iconst 1, 1) := by decide +kernel
theorem dX7_readMarket_34 : decode cX7_readMarket 34 = .ok (.aload_n 1, 1) := by decide +kernel
theorem dX7_readMarket_35 : decode cX7_readMarket 35 = .ok (.getfield 96, 3) := by decide +kernel
theorem dX7_readMarket_38 : decode cX7_readMarket 38 = .ok (.getfield 103, 3) := by decide +kernel
theorem dX7_readMarket_41 : decode cX7_readMarket 41 = .ok (.invokevirtual 92, 3) := by decide +kernel
theorem dX7_readMarket_44 : decode cX7_readMarket 44 = .ok (.ifCond .ne 5, 3) := by decide +kernel
theorem dX7_readMarket_47 : decode cX7_readMarket 47 = .ok (.iconst 0, 1) := by decide +kernel
theorem dX7_readMarket_48 : decode cX7_readMarket 48 = .ok (.ireturn, 1) := by decide +kernel
theorem dX7_readMarket_49 : decode cX7_readMarket 49 = .ok (.aload_n 1, 1) := by decide +kernel
theorem dX7_readMarket_50 : decode cX7_readMarket 50 = .ok (.getfield 96, 3) := by decide +kernel
theorem dX7_readMarket_53 : decode cX7_readMarket 53 = .ok (.aload_n 0, 1) := by decide +kernel
theorem dX7_readMarket_54 : decode cX7_readMarket 54 = .ok (.getfield 100, 3) := by decide +kernel
theorem dX7_readMarket_57 : decode cX7_readMarket 57 = .ok (.putfield 108, 3) := by decide +kernel
theorem dX7_readMarket_60 : decode cX7_readMarket 60 = .ok (.aload_n 0, 1) := by decide +kernel
theorem dX7_readMarket_61 : decode cX7_readMarket 61 = .ok (.iconst 1, 1) := by decide +kernel
theorem dX7_readMarket_62 : decode cX7_readMarket 62 = .ok (.bipush 9, 2) := by decide +kernel
theorem dX7_readMarket_64 : decode cX7_readMarket 64 = .ok (.invokevirtual 92, 3) := by decide +kernel
theorem dX7_readMarket_67 : decode cX7_readMarket 67 = .ok (.ifCond .ne 5, 3) := by decide +kernel
theorem dX7_readMarket_70 : decode cX7_readMarket 70 = .ok (.iconst 0, 1) := by decide +kernel
theorem dX7_readMarket_71 : decode cX7_readMarket 71 = .ok (.ireturn, 1) := by decide +kernel
theorem dX7_readMarket_72 : decode cX7_readMarket 72 = .ok (.aload_n 1, 1) := by decide +kernel
theorem dX7_readMarket_73 : decode cX7_readMarket 73 = .ok (.aload_n 0, 1) := by decide +kernel
theorem dX7_readMarket_74 : decode cX7_readMarket 74 = .ok (.getfield 100, 3) := by decide +kernel
theorem dX7_readMarket_77 : decode cX7_readMarket 77 = .ok (.putfield 111, 3) := by decide +kernel
theorem dX7_readMarket_80 : decode cX7_readMarket 80 = .ok (.aload_n 0, 1) := by decide +kernel
theorem dX7_readMarket_81 : decode cX7_readMarket 81 = .ok (.iconst 1, 1) := by decide +kernel
theorem dX7_readMarket_82 : decode cX7_readMarket 82 = .ok (.bipush 50, 2) := by decide +kernel
theorem dX7_readMarket_84 : decode cX7_readMarket 84 = .ok (.invokevirtual 92, 3) := by decide +kernel
theorem dX7_readMarket_87 : decode cX7_readMarket 87 = .ok (.ifCond .ne 5, 3) := by decide +kernel
theorem dX7_readMarket_90 : decode cX7_readMarket 90 = .ok (.iconst 0, 1) := by decide +kernel
theorem dX7_readMarket_91 : decode cX7_readMarket 91 = .ok (.ireturn, 1) := by decide +kernel
theorem dX7_readMarket_92 : decode cX7_readMarket 92 = .ok (.aload_n 1, 1) := by decide +kernel
theorem dX7_readMarket_93 : decode cX7_readMarket 93 = .ok (.aload_n 0, 1) := by decide +kernel
theorem dX7_readMarket_94 : decode cX7_readMarket 94 = .ok (.getfield 100, 3) := by decide +kernel
theorem dX7_readMarket_97 : decode cX7_readMarket 97 = .ok (.putfield 114, 3) := by decide +kernel
theorem dX7_readMarket_100 : decode cX7_readMarket 100 = .ok (.aload_n 0, 1) := by decide +kernel
theorem dX7_readMarket_101 : decode cX7_readMarket 101 = .ok (.iconst 0, 1) := by decide +kernel
theorem dX7_readMarket_102 : decode cX7_readMarket 102 = .ok (.bipush 50, 2) := by decide +kernel
theorem dX7_readMarket_104 : decode cX7_readMarket 104 = .ok (.invokevirtual 92, 3) := by decide +kernel
theorem dX7_readMarket_107 : decode cX7_readMarket 107 = .ok (.ifCond .ne 5, 3) := by decide +kernel
theorem dX7_readMarket_110 : decode cX7_readMarket 110 = .ok (.iconst 0, 1) := by decide +kernel
theorem dX7_readMarket_111 : decode cX7_readMarket 111 = .ok (.ireturn, 1) := by decide +kernel
theorem dX7_readMarket_112 : decode cX7_readMarket 112 = .ok (.aload_n 1, 1) := by decide +kernel
theorem dX7_readMarket_113 : decode cX7_readMarket 113 = .ok (.aload_n 0, 1) := by decide +kernel
theorem dX7_readMarket_114 : decode cX7_readMarket 114 = .ok (.getfield 100, 3) := by decide +kernel
theorem dX7_readMarket_117 : decode cX7_readMarket 117 = .ok (.putfield 117, 3) := by decide +kernel
theorem dX7_readMarket_120 : decode cX7_readMarket 120 = .ok (.aload_n 0, 1) := by decide +kernel
theorem dX7_readMarket_121 : decode cX7_readMarket 121 = .ok (.invokevirtual 76, 3) := by decide +kernel
theorem dX7_readMarket_124 : decode cX7_readMarket 124 = .ok (.ireturn, 1) := by decide +kernel
theorem dX7_readBuyers_0 : decode cX7_readBuyers 0 = .ok (.aload_n 0, 1) := by decide +kernel
theorem dX7_readBuyers_1 : decode cX7_readBuyers 1 = .ok (.aload_n 1, 1) := by decide +kernel
theorem dX7_readBuyers_2 : decode cX7_readBuyers 2 = .ok (.invokevirtual 120, 3) := by decide +kernel
theorem dX7_readBuyers_5 : decode cX7_readBuyers 5 = .ok (.ifCond .ne 5, 3) := by decide +kernel
theorem dX7_readBuyers_8 : decode cX7_readBuyers 8 = .ok (.iconst 0, 1) := by decide +kernel
theorem dX7_readBuyers_9 : decode cX7_readBuyers 9 = .ok (.ireturn, 1) := by decide +kernel
theorem dX7_readBuyers_10 : decode cX7_readBuyers 10 = .ok (.iconst 1, 1) := by decide +kernel
theorem dX7_readBuyers_11 : decode cX7_readBuyers 11 = .ok (.istore_n 2, 1) := by decide +kernel
theorem dX7_readBuyers_12 : decode cX7_readBuyers 12 = .ok (.iload_n 2, 1) := by decide +kernel
theorem dX7_readBuyers_13 : decode cX7_readBuyers 13 = .ok (.bipush 6, 2) := by decide +kernel
theorem dX7_readBuyers_15 : decode cX7_readBuyers 15 = .ok (.if_icmp .gt 43, 3) := by decide +kernel
theorem dX7_readBuyers_18 : decode cX7_readBuyers 18 = .ok (.aload_n 0, 1) := by decide +kernel
theorem dX7_readBuyers_19 : decode cX7_readBuyers 19 = .ok (.getfield 12, 3) := by decide +kernel
theorem dX7_readBuyers_22 : decode cX7_readBuyers 22 = .ok (.ldc 123, 2) := by decide +kernel
theorem dX7_readBuyers_24 : decode cX7_readBuyers 24 = .ok (.invokevirtual 125, 3) := by decide +kernel
theorem dX7_readBuyers_27 : decode cX7_readBuyers 27 = .ok (.ifCond .eq 31, 3) := by decide +kernel
theorem dX7_readBuyers_30 : decode cX7_readBuyers 30 = .ok (.iload_n 2, 1) := by decide +kernel
theorem dX7_readBuyers_31 : decode cX7_readBuyers 31 = .ok (.bipush 6, 2) := by decide +kernel
theorem dX7_readBuyers_33 : decode cX7_readBuyers 33 = .ok (.if_icmp .ne 9, 3) := by decide +kernel
theorem dX7_readBuyers_36 : decode cX7_readBuyers 36 = .ok (.aload_n 0, 1) := by decide +kernel
theorem dX7_readBuyers_37 : decode cX7_readBuyers 37 = .ok (.iconst 3, 1) := by decide +kernel
theorem dX7_readBuyers_38 : decode cX7_readBuyers 38 = .ok (.invokevirtual 54, 3) := by decide +kernel
theorem dX7_readBuyers_41 : decode cX7_readBuyers 41 = .ok (.ireturn, 1) := by decide +kernel
theorem dX7_readBuyers_42 : decode cX7_readBuyers 42 = .ok (.aload_n 0, 1) := by decide +kernel
theorem dX7_readBuyers_43 : decode cX7_readBuyers 43 = .ok (.aload_n 1, 1) := by decide +kernel
theorem dX7_readBuyers_44 : decode cX7_readBuyers 44 = .ok (.invokevirtual 120, 3) := by decide +kernel
theorem dX7_readBuyers_47 : decode cX7_readBuyers 47 = .ok (.ifCond .ne 5, 3) := by decide +kernel
theorem dX7_readBuyers_50 : decode cX7_readBuyers 50 = .ok (.iconst 0, 1) := by decide +kernel
theorem dX7_readBuyers_51 : decode cX7_readBuyers 51 = .ok (.ireturn, 1) := by decide +kernel
theorem dX7_readBuyers_52 : decode cX7_readBuyers 52 = .ok (.iinc 2 1, 3) := by decide +kernel
theorem dX7_readBuyers_55 : decode cX7_readBuyers 55 = .ok (.goto (-43), 3) := by decide +kernel
theorem dX7_readBuyers_58 : decode cX7_readBuyers 58 = .ok (.iconst 1, 1) := by decide +kernel
theorem dX7_readBuyers_59 : decode cX7_readBuyers 59 = .ok (.ireturn, 1) := by decide +kernel
theorem dX7_readBuyer_0 : decode cX7_readBuyer 0 = .ok (.aload_n 0, 1) := by decide +kernel
theorem dX7_readBuyer_1 : decode cX7_readBuyer 1 = .ok (.ldc 123, 2) := by decide +kernel
theorem dX7_readBuyer_3 : decode cX7_readBuyer 3 = .ok (.invokevirtual 88, 3) := by decide +kernel
theorem dX7_readBuyer_6 : decode cX7_readBuyer 6 = .ok (.ifCond .eq 14, 3) := by decide +kernel
theorem dX7_readBuyer_9 : decode cX7_readBuyer 9 = .ok (.aload_n 0, 1) := by decide +kernel
theorem dX7_readBuyer_10 : decode cX7_readBuyer 10 = .ok (.iconst 0, 1) := by decide +kernel
theorem dX7_readBuyer_11 : decode cX7_readBuyer 11 = .ok (.sipush 9999, 3) := by decide +kernel
theorem dX7_readBuyer_14 : decode cX7_readBuyer 14 = .ok (.invokevirtual 92, 3) := by decide +kernel
theorem dX7_readBuyer_17 : decode cX7_readBuyer 17 = .ok (.ifCond .ne 5, 3) := by decide +kernel
theorem dX7_readBuyer_20 : decode cX7_readBuyer 20 = .ok (.iconst 0, 1) := by decide +kernel
theorem dX7_readBuyer_21 : decode cX7_readBuyer 21 = .ok (.ireturn, 1) := by decide +kernel
theorem dX7_readBuyer_22 : decode cX7_readBuyer 22 = .ok (.aload_n 0, 1) := by decide +kernel
theorem dX7_readBuyer_23 : decode cX7_readBuyer 23 = .ok (.getfield 100, 3) := by decide +kernel
theorem dX7_readBuyer_26 : decode cX7_readBuyer 26 = .ok (.istore_n 2, 1) := by decide +kernel
theorem dX7_readBuyer_27 : decode cX7_readBuyer 27 = .ok (.aload_n 0, 1) := by decide +kernel
theorem dX7_readBuyer_28 : decode cX7_readBuyer 28 = .ok (.iconst 0, 1) := by decide +kernel
theorem dX7_readBuyer_29 : decode cX7_readBuyer 29 = .ok (.iconst 4, 1) := by decide +kernel
theorem dX7_readBuyer_30 : decode cX7_readBuyer 30 = .ok (.invokevirtual 92, 3) := by decide +kernel
theorem dX7_readBuyer_33 : decode cX7_readBuyer 33 = .ok (.ifCond .ne 5, 3) := by decide +kernel
theorem dX7_readBuyer_36 : decode cX7_readBuyer 36 = .ok (.iconst 0, 1) := by decide +kernel
theorem dX7_readBuyer_37 : decode cX7_readBuyer 37 = .ok (.ireturn, 1) := by decide +kernel
theorem dX7_readBuyer_38 : decode cX7_readBuyer 38 = .ok (.aload_n 0, 1) := by decide +kernel
theorem dX7_readBuyer_39 : decode cX7_readBuyer 39 = .ok (.getfield 100, 3) := by decide +kernel
theorem dX7_readBuyer_42 : decode cX7_readBuyer 42 = .ok (.istore_n 3, 1) := by decide +kernel
theorem dX7_readBuyer_43 : decode cX7_readBuyer 43 = .ok (.aload_n 0, 1) := by decide +kernel
theorem dX7_readBuyer_44 : decode cX7_readBuyer 44 = .ok (.iconst 1, 1) := by decide +kernel
theorem dX7_readBuyer_45 : decode cX7_readBuyer 45 = .ok (.sipush 999, 3) := by decide +kernel
theorem dX7_readBuyer_48 : decode cX7_readBuyer 48 = .ok (.invokevirtual 92, 3) := by decide +kernel
theorem dX7_readBuyer_51 : decode cX7_readBuyer 51 = .ok (.ifCond .ne 5, 3) := by decide +kernel
theorem dX7_readBuyer_54 : decode cX7_readBuyer 54 = .ok (.iconst 0, 1) := by decide +kernel
theorem dX7_readBuyer_55 : decode cX7_readBuyer 55 = .ok (.ireturn, 1) := by decide +kernel
theorem dX7_readBuyer_56 : decode cX7_readBuyer 56 = .ok (.aload_n 1, 1) := by decide +kernel
theorem dX7_readBuyer_57 : decode cX7_readBuyer 57 = .ok (.iload_n 2, 1) := by decide +kernel
theorem dX7_readBuyer_58 : decode cX7_readBuyer 58 = .ok (.iload_n 3, 1) := by decide +kernel
theorem dX7_readBuyer_59 : decode cX7_readBuyer 59 = .ok (.aload_n 0, 1) := by decide +kernel
theorem dX7_readBuyer_60 : decode cX7_readBuyer 60 = .ok (.getfield 100, 3) := by decide +kernel
theorem dX7_readBuyer_63 : decode cX7_readBuyer 63 = .ok (.invokevirtual 128, 3) := by decide +kernel
theorem dX7_readBuyer_66 : decode cX7_readBuyer 66 = .ok (.aload_n 0, 1) := by decide +kernel
theorem dX7_readBuyer_67 : decode cX7_readBuyer 67 = .ok (.invokevirtual 76, 3) := by decide +kernel
theorem dX7_readBuyer_70 : decode cX7_readBuyer 70 = .ok (.ireturn, 1) := by decide +kernel
theorem dX7_readBarrels_0 : decode cX7_readBarrels 0 = .ok (.iconst 0, 1) := by decide +kernel
theorem dX7_readBarrels_1 : decode cX7_readBarrels 1 = .ok (.istore_n 2, 1) := by decide +kernel
theorem dX7_readBarrels_2 : decode cX7_readBarrels 2 = .ok (.iload_n 2, 1) := by decide +kernel
theorem dX7_readBarrels_3 : decode cX7_readBarrels 3 = .ok (.bipush 20, 2) := by decide +kernel
theorem dX7_readBarrels_5 : decode cX7_readBarrels 5 = .ok (.if_icmp .gt 87, 3) := by decide +kernel
theorem dX7_readBarrels_8 : decode cX7_readBarrels 8 = .ok (.aload_n 0, 1) := by decide +kernel
theorem dX7_readBarrels_9 : decode cX7_readBarrels 9 = .ok (.getfield 12, 3) := by decide +kernel
theorem dX7_readBarrels_12 : decode cX7_readBarrels 12 = .ok (.ldc 132, 2) := by decide +kernel
theorem dX7_readBarrels_14 : decode cX7_readBarrels 14 = .ok (.invokevirtual 125, 3) := by decide +kernel
theorem dX7_readBarrels_17 : decode cX7_readBarrels 17 = .ok (.ifCond .eq 75, 3) := by decide +kernel
theorem dX7_readBarrels_20 : decode cX7_readBarrels 20 = .ok (.iload_n 2, 1) := by decide +kernel
theorem dX7_readBarrels_21 : decode cX7_readBarrels 21 = .ok (.bipush 20, 2) := by decide +kernel
theorem dX7_readBarrels_23 : decode cX7_readBarrels 23 = .ok (.if_icmp .ne 9, 3) := by decide +kernel
theorem dX7_readBarrels_26 : decode cX7_readBarrels 26 = .ok (.aload_n 0, 1) := by decide +kernel
theorem dX7_readBarrels_27 : decode cX7_readBarrels 27 = .ok (.iconst 3, 1) := by decide +kernel
theorem dX7_readBarrels_28 : decode cX7_readBarrels 28 = .ok (.invokevirtual 54, 3) := by decide +kernel
theorem dX7_readBarrels_31 : decode cX7_readBarrels 31 = .ok (.ireturn, 1) := by decide +kernel
theorem dX7_readBarrels_32 : decode cX7_readBarrels 32 = .ok (.aload_n 0, 1) := by decide +kernel
theorem dX7_readBarrels_33 : decode cX7_readBarrels 33 = .ok (.getfield 12, 3) := by decide +kernel
theorem dX7_readBarrels_36 : decode cX7_readBarrels 36 = .ok (.invokevirtual 65, 3) := by decide +kernel
theorem dX7_readBarrels_39 : decode cX7_readBarrels 39 = .ok (.aload_n 0, 1) := by decide +kernel
theorem dX7_readBarrels_40 : decode cX7_readBarrels 40 = .ok (.aload_n 0, 1) := by decide +kernel
theorem dX7_readBarrels_41 : decode cX7_readBarrels 41 = .ok (.getfield 25, 3) := by decide +kernel
theorem dX7_readBarrels_44 : decode cX7_readBarrels 44 = .ok (.invokevirtual 134, 3) := by decide +kernel
theorem dX7_readBarrels_47 : decode cX7_readBarrels 47 = .ok (.ifCond .eq 10, 3) := by decide +kernel
theorem dX7_readBarrels_50 : decode cX7_readBarrels 50 = .ok (.aload_n 0, 1) := by decide +kernel
theorem dX7_readBarrels_51 : decode cX7_readBarrels 51 = .ok (.invokevirtual 76, 3) := by decide +kernel
theorem dX7_readBarrels_54 : decode cX7_readBarrels 54 = .ok (.ifCond .ne 5, 3) := by decide +kernel
theorem dX7_readBarrels_57 : decode cX7_readBarrels 57 = .ok (.iconst 0, 1) := by decide +kernel
theorem dX7_readBarrels_58 : decode cX7_readBarrels 58 = .ok (.ireturn, 1) := by decide +kernel
theorem dX7_readBarrels_59 : decode cX7_readBarrels 59 = .ok (.aload_n 1, 1) := by decide +kernel
theorem dX7_readBarrels_60 : decode cX7_readBarrels 60 = .ok (.aload_n 0, 1) := by decide +kernel
theorem dX7_readBarrels_61 : decode cX7_readBarrels 61 = .ok (.getfield 25, 3) := by decide +kernel
theorem dX7_readBarrels_64 : decode cX7_readBarrels 64 = .ok (.getfield 138, 3) := by decide +kernel
theorem dX7_readBarrels_67 : decode cX7_readBarrels 67 = .ok (.aload_n 0, 1) := by decide +kernel
theorem dX7_readBarrels_68 : decode cX7_readBarrels 68 = .ok (.getfield 25, 3) := by decide +kernel
theorem dX7_readBarrels_71 : decode cX7_readBarrels 71 = .ok (.getfield 141, 3) := by decide +kernel
theorem dX7_readBarrels_74 : decode cX7_readBarrels 74 = .ok (.iconst 0, 1) := by decide +kernel
theorem dX7_readBarrels_75 : decode cX7_readBarrels 75 = .ok (.aload_n 0, 1) := by decide +kernel
theorem dX7_readBarrels_76 : decode cX7_readBarrels 76 = .ok (.getfield 25, 3) := by decide +kernel
theorem dX7_readBarrels_79 : decode cX7_readBarrels 79 = .ok (.getfield 145, 3) := by decide +kernel
theorem dX7_readBarrels_82 : decode cX7_readBarrels 82 = .ok (.invokevirtual 148, 3) := by decide +kernel
theorem dX7_readBarrels_85 : decode cX7_readBarrels 85 = .ok (.pop, 1) := by decide +kernel
theorem dX7_readBarrels_86 : decode cX7_readBarrels 86 = .ok (.iinc 2 1, 3) := by decide +kernel
theorem dX7_readBarrels_89 : decode cX7_readBarrels 89 = .ok (.goto (-87), 3) := by decide +kernel
theorem dX7_readBarrels_92 : decode cX7_readBarrels 92 = .ok (.iconst 1, 1) := by decide +kernel
theorem dX7_readBarrels_93 : decode cX7_readBarrels 93 = .ok (.ireturn, 1) := by decide +kernel
theorem dX7_readBarrel_0 : decode cX7_readBarrel 0 = .ok (.aload_n 0, 1) := by decide +kernel
theorem dX7_readBarrel_1 : decode cX7_readBarrel 1 = .ok (.iconst 1, 1) := by decide +kernel
theorem dX7_readBarrel_2 : decode cX7_readBarrel 2 = .ok (.sipush 999, 3) := by decide +kernel
theorem dX7_readBarrel_5 : decode cX7_readBarrel 5 = .ok (.invokevirtual 92, 3) := by decide +kernel
theorem dX7_readBarrel_8 : decode cX7_readBarrel 8 = .ok (.ifCond .ne 5, 3) := by decide +kernel
theorem dX7_readBarrel_11 : decode cX7_readBarrel 11 = .ok (.iconst 0, 1) := by decide +kernel
theorem dX7_readBarrel_12 : decode cX7_readBarrel 12 = .ok (.ireturn, 1) := by decide +kernel
theorem dX7_readBarrel_13 : decode cX7_readBarrel 13 = .ok (.aload_n 1, 1) := by decide +kernel
theorem dX7_readBarrel_14 : decode cX7_readBarrel 14 = .ok (.aload_n 0, 1) := by decide +kernel
theorem dX7_readBarrel_15 : decode cX7_readBarrel 15 = .ok (.getfield 100, 3) := by decide +kernel
theorem dX7_readBarrel_18 : decode cX7_readBarrel 18 = .ok (.putfield 138, 3) := by decide +kernel
theorem dX7_readBarrel_21 : decode cX7_readBarrel 21 = .ok (.iconst 0, 1) := by decide +kernel
theorem dX7_readBarrel_22 : decode cX7_readBarrel 22 = .ok (.istore_n 2, 1) := by decide +kernel
theorem dX7_readBarrel_23 : decode cX7_readBarrel 23 = .ok (.iload_n 2, 1) := by decide +kernel
theorem dX7_readBarrel_24 : decode cX7_readBarrel 24 = .ok (.bipush 9, 2) := by decide +kernel
theorem dX7_readBarrel_26 : decode cX7_readBarrel 26 = .ok (.if_icmp .gt 83, 3) := by decide +kernel
theorem dX7_readBarrel_29 : decode cX7_readBarrel 29 = .ok (.iload_n 2, 1) := by decide +kernel
theorem dX7_readBarrel_30 : decode cX7_readBarrel 30 = .ok (.ifCond .eq 14, 3) := by decide +kernel
theorem dX7_readBarrel_33 : decode cX7_readBarrel 33 = .ok (.aload_n 0, 1) := by decide +kernel
theorem dX7_readBarrel_34 : decode cX7_readBarrel 34 = .ok (.getfield 12, 3) := by decide +kernel
theorem dX7_readBarrel_37 : decode cX7_readBarrel 37 = .ok (.getfield 51, 3) := by decide +kernel
theorem dX7_readBarrel_40 : decode cX7_readBarrel 40 = .ok (.iconst 2, 1) := by decide +kernel
theorem dX7_readBarrel_41 : decode cX7_readBarrel 41 = .ok (.if_icmp .ne 68, 3) := by decide +kernel
theorem dX7_readBarrel_44 : decode cX7_readBarrel 44 = .ok (.iload_n 2, 1) := by decide +kernel
theorem dX7_readBarrel_45 : decode cX7_readBarrel 45 = .ok (.bipush 9, 2) := by decide +kernel
theorem dX7_readBarrel_47 : decode cX7_readBarrel 47 = .ok (.if_icmp .ne 25, 3) := by decide +kernel
theorem dX7_readBarrel_50 : decode cX7_readBarrel 50 = .ok (.aload_n 0, 1) := by decide +kernel
theorem dX7_readBarrel_51 : decode cX7_readBarrel 51 = .ok (.aload_n 0, 1) := by decide +kernel
theorem dX7_readBarrel_52 : decode cX7_readBarrel 52 = .ok (.bipush 10, 2) := by decide +kernel
theorem dX7_readBarrel_54 : decode cX7_readBarrel 54 = .ok (.sipush 150, 3) := by decide +kernel
theorem dX7_readBarrel_57 : decode cX7_readBarrel 57 = .ok (.invokevirtual 152, 3) := by decide +kernel
theorem dX7_readBarrel_60 : decode cX7_readBarrel 60 = .ok (.ifCond .eq 7, 3) := by decide +kernel
theorem dX7_readBarrel_63 : decode cX7_readBarrel 63 = .ok (.iconst 3, 1) := by decide +kernel
theorem dX7_readBarrel_64 : decode cX7_readBarrel 64 = .ok (.goto 4, 3) := by decide +kernel
theorem dX7_readBarrel_67 : decode cX7_readBarrel 67 = .ok (.iconst 2, 1) := by decide +kernel
theorem dX7_readBarrel_68 : decode cX7_readBarrel 68 = .ok (.invokevirtual 54, 3) := by decide +kernel
theorem dX7_readBarrel_71 : decode cX7_readBarrel 71 = .ok (.ireturn, 1) := by decide +kernel
theorem dX7_readBarrel_72 : decode cX7_readBarrel 72 = .ok (.aload_n 0, 1) := by decide +kernel
theorem dX7_readBarrel_73 : decode cX7_readBarrel 73 = .ok (.bipush 10, 2) := by decide +kernel
theorem dX7_readBarrel_75 : decode cX7_readBarrel 75 = .ok (.sipush 150, 3) := by decide +kernel
theorem dX7_readBarrel_78 : decode cX7_readBarrel 78 = .ok (.invokevirtual 92, 3) := by decide +kernel
theorem dX7_readBarrel_81 : decode cX7_readBarrel 81 = .ok (.ifCond .ne 5, 3) := by decide +kernel
theorem dX7_readBarrel_84 : decode cX7_readBarrel 84 = .ok (.iconst 0, 1) := by decide +kernel
theorem dX7_readBarrel_85 : decode cX7_readBarrel 85 = .ok (.ireturn, 1) := by decide +kernel
theorem dX7_readBarrel_86 : decode cX7_readBarrel 86 = .ok (.aload_n 1, 1) := by decide +kernel
theorem dX7_readBarrel_87 : decode cX7_readBarrel 87 = .ok (.getfield 141, 3) := by decide +kernel
theorem dX7_readBarrel_90 : decode cX7_readBarrel 90 = .ok (.iload_n 2, 1) := by decide +kernel
theorem dX7_readBarrel_91 : decode cX7_readBarrel 91 = .ok (.aload_n 0, 1) := by decide +kernel
theorem dX7_readBarrel_92 : decode cX7_readBarrel 92 = .ok (.getfield 100, 3) := by decide +kernel
theorem dX7_readBarrel_95 : decode cX7_readBarrel 95 = .ok (.iastore, 1) := by decide +kernel
theorem dX7_readBarrel_96 : decode cX7_readBarrel 96 = .ok (.aload_n 1, 1) := by decide +kernel
theorem dX7_readBarrel_97 : decode cX7_readBarrel 97 = .ok (.iload_n 2, 1) := by decide +kernel
theorem dX7_readBarrel_98 : decode cX7_readBarrel 98 = .ok (.iconst 1, 1) := by decide +kernel
theorem dX7_readBarrel_99 : decode cX7_readBarrel 99 = .ok (.iadd, 1) := by decide +kernel
theorem dX7_readBarrel_100 : decode cX7_readBarrel 100 = .ok (.putfield 145, 3) := by decide +kernel
theorem dX7_readBarrel_103 : decode cX7_readBarrel 103 = .ok (.iinc 2 1, 3) := by decide +kernel
theorem dX7_readBarrel_106 : decode cX7_readBarrel 106 = .ok (.goto (-83), 3) := by decide +kernel
theorem dX7_readBarrel_109 : decode cX7_readBarrel 109 = .ok (.iconst 1, 1) := by decide +kernel
theorem dX7_readBarrel_110 : decode cX7_readBarrel 110 = .ok (.ireturn, 1) := by decide +kernel
theorem dX7_takeWord_0 : decode cX7_takeWord 0 = .ok (.aload_n 0, 1) := by decide +kernel
theorem dX7_takeWord_1 : decode cX7_takeWord 1 = .ok (.getfield 12, 3) := by decide +kernel
theorem dX7_takeWord_4 : decode cX7_takeWord 4 = .ok (.aload_n 1, 1) := by decide +kernel
theorem dX7_takeWord_5 : decode cX7_takeWord 5 = .ok (.invokevirtual 125, 3) := by decide +kernel
theorem dX7_takeWord_8 : decode cX7_takeWord 8 = .ok (.ifCond .ne 9, 3) := by decide +kernel
theorem dX7_takeWord_11 : decode cX7_takeWord 11 = .ok (.aload_n 0, 1) := by decide +kernel
theorem dX7_takeWord_12 : decode cX7_takeWord 12 = .ok (.iconst 1, 1) := by decide +kernel
theorem dX7_takeWord_13 : decode cX7_takeWord 13 = .ok (.invokevirtual 54, 3) := by decide +kernel
theorem dX7_takeWord_16 : decode cX7_takeWord 16 = .ok (.ireturn, 1) := by decide +kernel
theorem dX7_takeWord_17 : decode cX7_takeWord 17 = .ok (.aload_n 0, 1) := by decide +kernel
theorem dX7_takeWord_18 : decode cX7_takeWord 18 = .ok (.getfield 12, 3) := by decide +kernel
theorem dX7_takeWord_21 : decode cX7_takeWord 21 = .ok (.invokevirtual 65, 3) := by decide +kernel
theorem dX7_takeWord_24 : decode cX7_takeWord 24 = .ok (.iconst 1, 1) := by decide +kernel
theorem dX7_takeWord_25 : decode cX7_takeWord 25 = .ok (.ireturn, 1) := by decide +kernel
theorem dX7_takeSemicolon_0 : decode cX7_takeSemicolon 0 = .ok (.aload_n 0, 1) := by decide +kernel
theorem dX7_takeSemicolon_1 : decode cX7_takeSemicolon 1 = .ok (.getfield 12, 3) := by decide +kernel
theorem dX7_takeSemicolon_4 : decode cX7_takeSemicolon 4 = .ok (.getfield 51, 3) := by decide +kernel
theorem dX7_takeSemicolon_7 : decode cX7_takeSemicolon 7 = .ok (.iconst 3, 1) := by decide +kernel
theorem dX7_takeSemicolon_8 : decode cX7_takeSemicolon 8 = .ok (.if_icmp .eq 9, 3) := by decide +kernel
theorem dX7_takeSemicolon_11 : decode cX7_takeSemicolon 11 = .ok (.aload_n 0, 1) := by decide +kernel
theorem dX7_takeSemicolon_12 : decode cX7_takeSemicolon 12 = .ok (.iconst 1, 1) := by decide +kernel
theorem dX7_takeSemicolon_13 : decode cX7_takeSemicolon 13 = .ok (.invokevirtual 54, 3) := by decide +kernel
theorem dX7_takeSemicolon_16 : decode cX7_takeSemicolon 16 = .ok (.ireturn, 1) := by decide +kernel
theorem dX7_takeSemicolon_17 : decode cX7_takeSemicolon 17 = .ok (.aload_n 0, 1) := by decide +kernel
theorem dX7_takeSemicolon_18 : decode cX7_takeSemicolon 18 = .ok (.getfield 12, 3) := by decide +kernel
theorem dX7_takeSemicolon_21 : decode cX7_takeSemicolon 21 = .ok (.invokevirtual 65, 3) := by decide +kernel
theorem dX7_takeSemicolon_24 : decode cX7_takeSemicolon 24 = .ok (.iconst 1, 1) := by decide +kernel
theorem dX7_takeSemicolon_25 : decode cX7_takeSemicolon 25 = .ok (.ireturn, 1) := by decide +kernel
theorem dX7_takeNumber_0 : decode cX7_takeNumber 0 = .ok (.aload_n 0, 1) := by decide +kernel
theorem dX7_takeNumber_1 : decode cX7_takeNumber 1 = .ok (.getfield 12, 3) := by decide +kernel
theorem dX7_takeNumber_4 : decode cX7_takeNumber 4 = .ok (.getfield 51, 3) := by decide +kernel
theorem dX7_takeNumber_7 : decode cX7_takeNumber 7 = .ok (.iconst 2, 1) := by decide +kernel
theorem dX7_takeNumber_8 : decode cX7_takeNumber 8 = .ok (.if_icmp .eq 9, 3) := by decide +kernel
theorem dX7_takeNumber_11 : decode cX7_takeNumber 11 = .ok (.aload_n 0, 1) := by decide +kernel
theorem dX7_takeNumber_12 : decode cX7_takeNumber 12 = .ok (.iconst 1, 1) := by decide +kernel
theorem dX7_takeNumber_13 : decode cX7_takeNumber 13 = .ok (.invokevirtual 54, 3) := by decide +kernel
theorem dX7_takeNumber_16 : decode cX7_takeNumber 16 = .ok (.ireturn, 1) := by decide +kernel
theorem dX7_takeNumber_17 : decode cX7_takeNumber 17 = .ok (.aload_n 0, 1) := by decide +kernel
theorem dX7_takeNumber_18 : decode cX7_takeNumber 18 = .ok (.iload_n 1, 1) := by decide +kernel
theorem dX7_takeNumber_19 : decode cX7_takeNumber 19 = .ok (.iload_n 2, 1) := by decide +kernel
theorem dX7_takeNumber_20 : decode cX7_takeNumber 20 = .ok (.invokevirtual 152, 3) := by decide +kernel
theorem dX7_takeNumber_23 : decode cX7_takeNumber 23 = .ok (.ifCond .ne 9, 3) := by decide +kernel
theorem dX7_takeNumber_26 : decode cX7_takeNumber 26 = .ok (.aload_n 0, 1) := by decide +kernel
theorem dX7_takeNumber_27 : decode cX7_takeNumber 27 = .ok (.iconst 2, 1) := by decide +kernel
theorem dX7_takeNumber_28 : decode cX7_takeNumber 28 = .ok (.invokevirtual 54, 3) := by decide +kernel
theorem dX7_takeNumber_31 : decode cX7_takeNumber 31 = .ok (.ireturn, 1) := by decide +kernel
theorem dX7_takeNumber_32 : decode cX7_takeNumber 32 = .ok (.aload_n 0, 1) := by decide +kernel
theorem dX7_takeNumber_33 : decode cX7_takeNumber 33 = .ok (.aload_n 0, 1) := by decide +kernel
theorem dX7_takeNumber_34 : decode cX7_takeNumber 34 = .ok (.getfield 12, 3) := by decide +kernel
theorem dX7_takeNumber_37 : decode cX7_takeNumber 37 = .ok (.getfield 184, 3) := by decide +kernel
theorem dX7_takeNumber_40 : decode cX7_takeNumber 40 = .ok (.putfield 100, 3) := by decide +kernel
theorem dX7_takeNumber_43 : decode cX7_takeNumber 43 = .ok (.aload_n 0, 1) := by decide +kernel
theorem dX7_takeNumber_44 : decode cX7_takeNumber 44 = .ok (.getfield 12, 3) := by decide +kernel
theorem dX7_takeNumber_47 : decode cX7_takeNumber 47 = .ok (.invokevirtual 65, 3) := by decide +kernel
theorem dX7_takeNumber_50 : decode cX7_takeNumber 50 = .ok (.iconst 1, 1) := by decide +kernel
theorem dX7_takeNumber_51 : decode cX7_takeNumber 51 = .ok (.ireturn, 1) := by decide +kernel
theorem dX7_isInRange_0 : decode cX7_isInRange 0 = .ok (.aload_n 0, 1) := by decide +kernel
theorem dX7_isInRange_1 : decode cX7_isInRange 1 = .ok (.getfield 12, 3) := by decide +kernel
theorem dX7_isInRange_4 : decode cX7_isInRange 4 = .ok (.getfield 184, 3) := by decide +kernel
theorem dX7_isInRange_7 : decode cX7_isInRange 7 = .ok (.iload_n 1, 1) := by decide +kernel
theorem dX7_isInRange_8 : decode cX7_isInRange 8 = .ok (.if_icmp .lt 18, 3) := by decide +kernel
theorem dX7_isInRange_11 : decode cX7_isInRange 11 = .ok (.aload_n 0, 1) := by decide +kernel
theorem dX7_isInRange_12 : decode cX7_isInRange 12 = .ok (.getfield 12, 3) := by decide +kernel
theorem dX7_isInRange_15 : decode cX7_isInRange 15 = .ok (.getfield 184, 3) := by decide +kernel
theorem dX7_isInRange_18 : decode cX7_isInRange 18 = .ok (.iload_n 2, 1) := by decide +kernel
theorem dX7_isInRange_19 : decode cX7_isInRange 19 = .ok (.if_icmp .gt 7, 3) := by decide +kernel
theorem dX7_isInRange_22 : decode cX7_isInRange 22 = .ok (.iconst 1, 1) := by decide +kernel
theorem dX7_isInRange_23 : decode cX7_isInRange 23 = .ok (.goto 4, 3) := by decide +kernel
theorem dX7_isInRange_26 : decode cX7_isInRange 26 = .ok (.iconst 0, 1) := by decide +kernel
theorem dX7_isInRange_27 : decode cX7_isInRange 27 = .ok (.ireturn, 1) := by decide +kernel
theorem dX7_fail_0 : decode cX7_fail 0 = .ok (.aload_n 0, 1) := by decide +kernel
theorem dX7_fail_1 : decode cX7_fail 1 = .ok (.iload_n 1, 1) := by decide +kernel
theorem dX7_fail_2 : decode cX7_fail 2 = .ok (.putfield 80, 3) := by decide +kernel
theorem dX7_fail_5 : decode cX7_fail 5 = .ok (.aload_n 0, 1) := by decide +kernel
theorem dX7_fail_6 : decode cX7_fail 6 = .ok (.aload_n 0, 1) := by decide +kernel
theorem dX7_fail_7 : decode cX7_fail 7 = .ok (.getfield 12, 3) := by decide +kernel
theorem dX7_fail_10 : decode cX7_fail 10 = .ok (.getfield 187, 3) := by decide +kernel
theorem dX7_fail_13 : decode cX7_fail 13 = .ok (.putfield 29, 3) := by decide +kernel
theorem dX7_fail_16 : decode cX7_fail 16 = .ok (.iconst 0, 1) := by decide +kernel
theorem dX7_fail_17 : decode cX7_fail 17 = .ok (.ireturn, 1) := by decide +kernel
theorem dX8_init_0 : decode cX8_init 0 = .ok (.aload_n 0, 1) := by decide +kernel
theorem dX8_init_1 : decode cX8_init 1 = .ok (.invokespecial 3, 3) := by decide +kernel
theorem dX8_init_4 : decode cX8_init 4 = .ok (.aload_n 0, 1) := by decide +kernel
theorem dX8_init_5 : decode cX8_init 5 = .ok (.iconst 5, 1) := by decide +kernel
theorem dX8_init_6 : decode cX8_init 6 = .ok (.putfield 9, 3) := by decide +kernel
theorem dX8_init_9 : decode cX8_init 9 = .ok (.aload_n 0, 1) := by decide +kernel
theorem dX8_init_10 : decode cX8_init 10 = .ok (.iconst 1, 1) := by decide +kernel
theorem dX8_init_11 : decode cX8_init 11 = .ok (.putfield 15, 3) := by decide +kernel
theorem dX8_init_14 : decode cX8_init 14 = .ok (.return_, 1) := by decide +kernel
theorem dX8_isLow_0 : decode cX8_isLow 0 = .ok (.aload_n 0, 1) := by decide +kernel
theorem dX8_isLow_1 : decode cX8_isLow 1 = .ok (.getfield 9, 3) := by decide +kernel
theorem dX8_isLow_4 : decode cX8_isLow 4 = .ok (.ifCond .le 23, 3) := by decide +kernel
theorem dX8_isLow_7 : decode cX8_isLow 7 = .ok (.aload_n 0, 1) := by decide +kernel
theorem dX8_isLow_8 : decode cX8_isLow 8 = .ok (.getfield 18, 3) := by decide +kernel
theorem dX8_isLow_11 : decode cX8_isLow 11 = .ok (.aload_n 0, 1) := by decide +kernel
theorem dX8_isLow_12 : decode cX8_isLow 12 = .ok (.getfield 9, 3) := by decide +kernel
theorem dX8_isLow_15 : decode cX8_isLow 15 = .ok (.irem, 1) := by decide +kernel
theorem dX8_isLow_16 : decode cX8_isLow 16 = .ok (.aload_n 0, 1) := by decide +kernel
theorem dX8_isLow_17 : decode cX8_isLow 17 = .ok (.getfield 15, 3) := by decide +kernel
theorem dX8_isLow_20 : decode cX8_isLow 20 = .ok (.if_icmp .ge 7, 3) := by decide +kernel
theorem dX8_isLow_23 : decode cX8_isLow 23 = .ok (.iconst 1, 1) := by decide +kernel
theorem dX8_isLow_24 : decode cX8_isLow 24 = .ok (.goto 4, 3) := by decide +kernel
theorem dX8_isLow_27 : decode cX8_isLow 27 = .ok (.iconst 0, 1) := by decide +kernel
theorem dX8_isLow_28 : decode cX8_isLow 28 = .ok (.ireturn, 1) := by decide +kernel
theorem dX8_hornBlows_0 : decode cX8_hornBlows 0 = .ok (.aload_n 0, 1) := by decide +kernel
theorem dX8_hornBlows_1 : decode cX8_hornBlows 1 = .ok (.getfield 9, 3) := by decide +kernel
theorem dX8_hornBlows_4 : decode cX8_hornBlows 4 = .ok (.ifCond .le 23, 3) := by decide +kernel
theorem dX8_hornBlows_7 : decode cX8_hornBlows 7 = .ok (.aload_n 0, 1) := by decide +kernel
theorem dX8_hornBlows_8 : decode cX8_hornBlows 8 = .ok (.getfield 18, 3) := by decide +kernel
theorem dX8_hornBlows_11 : decode cX8_hornBlows 11 = .ok (.aload_n 0, 1) := by decide +kernel
theorem dX8_hornBlows_12 : decode cX8_hornBlows 12 = .ok (.getfield 9, 3) := by decide +kernel
theorem dX8_hornBlows_15 : decode cX8_hornBlows 15 = .ok (.irem, 1) := by decide +kernel
theorem dX8_hornBlows_16 : decode cX8_hornBlows 16 = .ok (.aload_n 0, 1) := by decide +kernel
theorem dX8_hornBlows_17 : decode cX8_hornBlows 17 = .ok (.getfield 15, 3) := by decide +kernel
theorem dX8_hornBlows_20 : decode cX8_hornBlows 20 = .ok (.if_icmp .ne 7, 3) := by decide +kernel
theorem dX8_hornBlows_23 : decode cX8_hornBlows 23 = .ok (.iconst 1, 1) := by decide +kernel
theorem dX8_hornBlows_24 : decode cX8_hornBlows 24 = .ok (.goto 4, 3) := by decide +kernel
theorem dX8_hornBlows_27 : decode cX8_hornBlows 27 = .ok (.iconst 0, 1) := by decide +kernel
theorem dX8_hornBlows_28 : decode cX8_hornBlows 28 = .ok (.ireturn, 1) := by decide +kernel
theorem dX8_untilHorn_0 : decode cX8_untilHorn 0 = .ok (.aload_n 0, 1) := by decide +kernel
theorem dX8_untilHorn_1 : decode cX8_untilHorn 1 = .ok (.getfield 9, 3) := by decide +kernel
theorem dX8_untilHorn_4 : decode cX8_untilHorn 4 = .ok (.ifCond .le 14, 3) := by decide +kernel
theorem dX8_untilHorn_7 : decode cX8_untilHorn 7 = .ok (.aload_n 0, 1) := by decide +kernel
theorem dX8_untilHorn_8 : decode cX8_untilHorn 8 = .ok (.getfield 15, 3) := by decide +kernel
theorem dX8_untilHorn_11 : decode cX8_untilHorn 11 = .ok (.aload_n 0, 1) := by decide +kernel
theorem dX8_untilHorn_12 : decode cX8_untilHorn 12 = .ok (.getfield 9, 3) := by decide +kernel
theorem dX8_untilHorn_15 : decode cX8_untilHorn 15 = .ok (.if_icmp .lt 5, 3) := by decide +kernel
theorem dX8_untilHorn_18 : decode cX8_untilHorn 18 = .ok (.iconst (-1), 1) := by decide +kernel
theorem dX8_untilHorn_19 : decode cX8_untilHorn 19 = .ok (.ireturn, 1) := by decide +kernel
theorem dX8_untilHorn_20 : decode cX8_untilHorn 20 = .ok (.aload_n 0, 1) := by decide +kernel
theorem dX8_untilHorn_21 : decode cX8_untilHorn 21 = .ok (.getfield 15, 3) := by decide +kernel
theorem dX8_untilHorn_24 : decode cX8_untilHorn 24 = .ok (.aload_n 0, 1) := by decide +kernel
theorem dX8_untilHorn_25 : decode cX8_untilHorn 25 = .ok (.getfield 18, 3) := by decide +kernel
theorem dX8_untilHorn_28 : decode cX8_untilHorn 28 = .ok (.aload_n 0, 1) := by decide +kernel
theorem dX8_untilHorn_29 : decode cX8_untilHorn 29 = .ok (.getfield 9, 3) := by decide +kernel
theorem dX8_untilHorn_32 : decode cX8_untilHorn 32 = .ok (.irem, 1) := by decide +kernel
theorem dX8_untilHorn_33 : decode cX8_untilHorn 33 = .ok (.isub, 1) := by decide +kernel
theorem dX8_untilHorn_34 : decode cX8_untilHorn 34 = .ok (.istore_n 1, 1) := by decide +kernel
theorem dX8_untilHorn_35 : decode cX8_untilHorn 35 = .ok (.iload_n 1, 1) := by decide +kernel
theorem dX8_untilHorn_36 : decode cX8_untilHorn 36 = .ok (.ifCond .le 7, 3) := by decide +kernel
theorem dX8_untilHorn_39 : decode cX8_untilHorn 39 = .ok (.iload_n 1, 1) := by decide +kernel
theorem dX8_untilHorn_40 : decode cX8_untilHorn 40 = .ok (.goto 9, 3) := by decide +kernel
theorem dX8_untilHorn_43 : decode cX8_untilHorn 43 = .ok (.iload_n 1, 1) := by decide +kernel
theorem dX8_untilHorn_44 : decode cX8_untilHorn 44 = .ok (.aload_n 0, 1) := by decide +kernel
theorem dX8_untilHorn_45 : decode cX8_untilHorn 45 = .ok (.getfield 9, 3) := by decide +kernel
theorem dX8_untilHorn_48 : decode cX8_untilHorn 48 = .ok (.iadd, 1) := by decide +kernel
theorem dX8_untilHorn_49 : decode cX8_untilHorn 49 = .ok (.ireturn, 1) := by decide +kernel
theorem dX8_copyFrom_0 : decode cX8_copyFrom 0 = .ok (.aload_n 0, 1) := by decide +kernel
theorem dX8_copyFrom_1 : decode cX8_copyFrom 1 = .ok (.aload_n 1, 1) := by decide +kernel
theorem dX8_copyFrom_2 : decode cX8_copyFrom 2 = .ok (.getfield 9, 3) := by decide +kernel
theorem dX8_copyFrom_5 : decode cX8_copyFrom 5 = .ok (.putfield 9, 3) := by decide +kernel
theorem dX8_copyFrom_8 : decode cX8_copyFrom 8 = .ok (.aload_n 0, 1) := by decide +kernel
theorem dX8_copyFrom_9 : decode cX8_copyFrom 9 = .ok (.aload_n 1, 1) := by decide +kernel
theorem dX8_copyFrom_10 : decode cX8_copyFrom 10 = .ok (.getfield 15, 3) := by decide +kernel
theorem dX8_copyFrom_13 : decode cX8_copyFrom 13 = .ok (.putfield 15, 3) := by decide +kernel
theorem dX8_copyFrom_16 : decode cX8_copyFrom 16 = .ok (.aload_n 0, 1) := by decide +kernel
theorem dX8_copyFrom_17 : decode cX8_copyFrom 17 = .ok (.aload_n 1, 1) := by decide +kernel
theorem dX8_copyFrom_18 : decode cX8_copyFrom 18 = .ok (.getfield 18, 3) := by decide +kernel
theorem dX8_copyFrom_21 : decode cX8_copyFrom 21 = .ok (.putfield 18, 3) := by decide +kernel
theorem dX8_copyFrom_24 : decode cX8_copyFrom 24 = .ok (.return_, 1) := by decide +kernel
theorem dX10_init_0 : decode cX10_init 0 = .ok (.aload_n 0, 1) := by decide +kernel
theorem dX10_init_1 : decode cX10_init 1 = .ok (.invokespecial 1, 3) := by decide +kernel
theorem dX10_init_4 : decode cX10_init 4 = .ok (.aload_n 0, 1) := by decide +kernel
theorem dX10_init_5 : decode cX10_init 5 = .ok (.new 7, 3) := by decide +kernel
theorem dX10_init_8 : decode cX10_init 8 = .ok (.dup, 1) := by decide +kernel
theorem dX10_init_9 : decode cX10_init 9 = .ok (.invokespecial 9, 3) := by decide +kernel
theorem dX10_init_12 : decode cX10_init 12 = .ok (.putfield 10, 3) := by decide +kernel
theorem dX10_init_15 : decode cX10_init 15 = .ok (.aload_n 0, 1) := by decide +kernel
theorem dX10_init_16 : decode cX10_init 16 = .ok (.new 7, 3) := by decide +kernel
theorem dX10_init_19 : decode cX10_init 19 = .ok (.dup, 1) := by decide +kernel
theorem dX10_init_20 : decode cX10_init 20 = .ok (.invokespecial 9, 3) := by decide +kernel
theorem dX10_init_23 : decode cX10_init 23 = .ok (.putfield 16, 3) := by decide +kernel
theorem dX10_init_26 : decode cX10_init 26 = .ok (.aload_n 0, 1) := by decide +kernel
theorem dX10_init_27 : decode cX10_init 27 = .ok (.new 19, 3) := by decide +kernel
theorem dX10_init_30 : decode cX10_init 30 = .ok (.dup, 1) := by decide +kernel
theorem dX10_init_31 : decode cX10_init 31 = .ok (.invokespecial 21, 3) := by decide +kernel
theorem dX10_init_34 : decode cX10_init 34 = .ok (.putfield 22, 3) := by decide +kernel
theorem dX10_init_37 : decode cX10_init 37 = .ok (.aload_n 0, 1) := by decide +kernel
theorem dX10_init_38 : decode cX10_init 38 = .ok (.iconst 2, 1) := by decide +kernel
theorem dX10_init_39 : decode cX10_init 39 = .ok (.anewarray 7, 3) := by decide +kernel
theorem dX10_init_42 : decode cX10_init 42 = .ok (.putfield 26, 3) := by decide +kernel
theorem dX10_init_45 : decode cX10_init 45 = .ok (.aload_n 0, 1) := by decide +kernel
theorem dX10_init_46 : decode cX10_init 46 = .ok (.iconst 2, 1) := by decide +kernel
theorem dX10_init_47 : decode cX10_init 47 = .ok (.newarray .boolean, 2) := by decide +kernel
theorem dX10_init_49 : decode cX10_init 49 = .ok (.putfield 30, 3) := by decide +kernel
theorem dX10_init_52 : decode cX10_init 52 = .ok (.aload_n 0, 1) := by decide +kernel
theorem dX10_init_53 : decode cX10_init 53 = .ok (.new 34, 3) := by decide +kernel
theorem dX10_init_56 : decode cX10_init 56 = .ok (.dup, 1) := by decide +kernel
theorem dX10_init_57 : decode cX10_init 57 = .ok (.invokespecial 36, 3) := by decide +kernel
theorem dX10_init_60 : decode cX10_init 60 = .ok (.putfield 37, 3) := by decide +kernel
theorem dX10_init_63 : decode cX10_init 63 = .ok (.aload_n 0, 1) := by decide +kernel
theorem dX10_init_64 : decode cX10_init 64 = .ok (.bipush 9, 2) := by decide +kernel
theorem dX10_init_66 : decode cX10_init 66 = .ok (.newarray .int, 2) := by decide +kernel
theorem dX10_init_68 : decode cX10_init 68 = .ok (.putfield 41, 3) := by decide +kernel
theorem dX10_init_71 : decode cX10_init 71 = .ok (.aload_n 0, 1) := by decide +kernel
theorem dX10_init_72 : decode cX10_init 72 = .ok (.new 45, 3) := by decide +kernel
theorem dX10_init_75 : decode cX10_init 75 = .ok (.dup, 1) := by decide +kernel
theorem dX10_init_76 : decode cX10_init 76 = .ok (.invokespecial 47, 3) := by decide +kernel
theorem dX10_init_79 : decode cX10_init 79 = .ok (.putfield 48, 3) := by decide +kernel
theorem dX10_init_82 : decode cX10_init 82 = .ok (.iconst 0, 1) := by decide +kernel
theorem dX10_init_83 : decode cX10_init 83 = .ok (.istore_n 1, 1) := by decide +kernel
theorem dX10_init_84 : decode cX10_init 84 = .ok (.iload_n 1, 1) := by decide +kernel
theorem dX10_init_85 : decode cX10_init 85 = .ok (.iconst 2, 1) := by decide +kernel
theorem dX10_init_86 : decode cX10_init 86 = .ok (.if_icmp .ge 22, 3) := by decide +kernel
theorem dX10_init_89 : decode cX10_init 89 = .ok (.aload_n 0, 1) := by decide +kernel
theorem dX10_init_90 : decode cX10_init 90 = .ok (.getfield 26, 3) := by decide +kernel
theorem dX10_init_93 : decode cX10_init 93 = .ok (.iload_n 1, 1) := by decide +kernel
theorem dX10_init_94 : decode cX10_init 94 = .ok (.new 7, 3) := by decide +kernel
theorem dX10_init_97 : decode cX10_init 97 = .ok (.dup, 1) := by decide +kernel
theorem dX10_init_98 : decode cX10_init 98 = .ok (.invokespecial 9, 3) := by decide +kernel
theorem dX10_init_101 : decode cX10_init 101 = .ok (.aastore, 1) := by decide +kernel
theorem dX10_init_102 : decode cX10_init 102 = .ok (.iinc 1 1, 3) := by decide +kernel
theorem dX10_init_105 : decode cX10_init 105 = .ok (.goto (-21), 3) := by decide +kernel
theorem dX10_init_108 : decode cX10_init 108 = .ok (.aload_n 0, 1) := by decide +kernel
theorem dX10_init_109 : decode cX10_init 109 = .ok (.getfield 37, 3) := by decide +kernel
theorem dX10_init_112 : decode cX10_init 112 = .ok (.getfield 52, 3) := by decide +kernel
theorem dX10_init_115 : decode cX10_init 115 = .ok (.ldc 56, 2) := by decide +kernel
theorem dX10_init_117 : decode cX10_init 117 = .ok (.invokevirtual 58, 3) := by decide +kernel
theorem dX10_init_120 : decode cX10_init 120 = .ok (.aload_n 0, 1) := by decide +kernel
theorem dX10_init_121 : decode cX10_init 121 = .ok (.getfield 37, 3) := by decide +kernel
theorem dX10_init_124 : decode cX10_init 124 = .ok (.aload_n 0, 1) := by decide +kernel
theorem dX10_init_125 : decode cX10_init 125 = .ok (.getfield 10, 3) := by decide +kernel
theorem dX10_init_128 : decode cX10_init 128 = .ok (.invokevirtual 64, 3) := by decide +kernel
theorem dX10_init_131 : decode cX10_init 131 = .ok (.pop, 1) := by decide +kernel
theorem dX10_init_132 : decode cX10_init 132 = .ok (.aload_n 0, 1) := by decide +kernel
theorem dX10_init_133 : decode cX10_init 133 = .ok (.getfield 37, 3) := by decide +kernel
theorem dX10_init_136 : decode cX10_init 136 = .ok (.getfield 52, 3) := by decide +kernel
theorem dX10_init_139 : decode cX10_init 139 = .ok (.iconst 0, 1) := by decide +kernel
theorem dX10_init_140 : decode cX10_init 140 = .ok (.putfield 68, 3) := by decide +kernel
theorem dX10_init_143 : decode cX10_init 143 = .ok (.return_, 1) := by decide +kernel
theorem dX10_append_0 : decode cX10_append 0 = .ok (.aload_n 0, 1) := by decide +kernel
theorem dX10_append_1 : decode cX10_append 1 = .ok (.getfield 37, 3) := by decide +kernel
theorem dX10_append_4 : decode cX10_append 4 = .ok (.getfield 52, 3) := by decide +kernel
theorem dX10_append_7 : decode cX10_append 7 = .ok (.astore 6, 2) := by decide +kernel
theorem dX10_append_9 : decode cX10_append 9 = .ok (.aload 6, 2) := by decide +kernel
theorem dX10_append_11 : decode cX10_append 11 = .ok (.getfield 68, 3) := by decide +kernel
theorem dX10_append_14 : decode cX10_append 14 = .ok (.bipush 20, 2) := by decide +kernel
theorem dX10_append_16 : decode cX10_append 16 = .ok (.iadd, 1) := by decide +kernel
theorem dX10_append_17 : decode cX10_append 17 = .ok (.sipush 500, 3) := by decide +kernel
theorem dX10_append_20 : decode cX10_append 20 = .ok (.if_icmp .le 13, 3) := by decide +kernel
theorem dX10_append_23 : decode cX10_append 23 = .ok (.new 72, 3) := by decide +kernel
theorem dX10_append_26 : decode cX10_append 26 = .ok (.dup, 1) := by decide +kernel
theorem dX10_append_27 : decode cX10_append 27 = .ok (.ldc 74, 2) := by decide +kernel
theorem dX10_append_29 : decode cX10_append 29 = .ok (.invokespecial 76, 3) := by decide +kernel
theorem dX10_append_32 : decode cX10_append 32 = .ok (.athrow, 1) := by decide +kernel
theorem dX10_append_33 : decode cX10_append 33 = .ok (.aload 6, 2) := by decide +kernel
theorem dX10_append_35 : decode cX10_append 35 = .ok (.iload_n 1, 1) := by decide +kernel
theorem dX10_append_36 : decode cX10_append 36 = .ok (.invokevirtual 78, 3) := by decide +kernel
theorem dX10_append_39 : decode cX10_append 39 = .ok (.aload 6, 2) := by decide +kernel
theorem dX10_append_41 : decode cX10_append 41 = .ok (.iload_n 2, 1) := by decide +kernel
theorem dX10_append_42 : decode cX10_append 42 = .ok (.invokevirtual 78, 3) := by decide +kernel
theorem dX10_append_45 : decode cX10_append 45 = .ok (.aload 6, 2) := by decide +kernel
theorem dX10_append_47 : decode cX10_append 47 = .ok (.iload_n 3, 1) := by decide +kernel
theorem dX10_append_48 : decode cX10_append 48 = .ok (.invokevirtual 78, 3) := by decide +kernel
theorem dX10_append_51 : decode cX10_append 51 = .ok (.aload 6, 2) := by decide +kernel
theorem dX10_append_53 : decode cX10_append 53 = .ok (.iload 4, 2) := by decide +kernel
theorem dX10_append_55 : decode cX10_append 55 = .ok (.invokevirtual 78, 3) := by decide +kernel
theorem dX10_append_58 : decode cX10_append 58 = .ok (.aload 6, 2) := by decide +kernel
theorem dX10_append_60 : decode cX10_append 60 = .ok (.iload 5, 2) := by decide +kernel
theorem dX10_append_62 : decode cX10_append 62 = .ok (.invokevirtual 78, 3) := by decide +kernel
theorem dX10_append_65 : decode cX10_append 65 = .ok (.aload 6, 2) := by decide +kernel
theorem dX10_append_67 : decode cX10_append 67 = .ok (.getfield 68, 3) := by decide +kernel
theorem dX10_append_70 : decode cX10_append 70 = .ok (.ireturn, 1) := by decide +kernel
theorem dX10_truncate_0 : decode cX10_truncate 0 = .ok (.iload_n 1, 1) := by decide +kernel
theorem dX10_truncate_1 : decode cX10_truncate 1 = .ok (.iconst 0, 1) := by decide +kernel
theorem dX10_truncate_2 : decode cX10_truncate 2 = .ok (.aload_n 0, 1) := by decide +kernel
theorem dX10_truncate_3 : decode cX10_truncate 3 = .ok (.getfield 37, 3) := by decide +kernel
theorem dX10_truncate_6 : decode cX10_truncate 6 = .ok (.getfield 52, 3) := by decide +kernel
theorem dX10_truncate_9 : decode cX10_truncate 9 = .ok (.getfield 68, 3) := by decide +kernel
theorem dX10_truncate_12 : decode cX10_truncate 12 = .ok (.invokestatic 82, 3) := by decide +kernel
theorem dX10_truncate_15 : decode cX10_truncate 15 = .ok (.aload_n 0, 1) := by decide +kernel
theorem dX10_truncate_16 : decode cX10_truncate 16 = .ok (.getfield 37, 3) := by decide +kernel
theorem dX10_truncate_19 : decode cX10_truncate 19 = .ok (.getfield 52, 3) := by decide +kernel
theorem dX10_truncate_22 : decode cX10_truncate 22 = .ok (.iload_n 1, 1) := by decide +kernel
theorem dX10_truncate_23 : decode cX10_truncate 23 = .ok (.putfield 68, 3) := by decide +kernel
theorem dX10_truncate_26 : decode cX10_truncate 26 = .ok (.iload_n 1, 1) := by decide +kernel
theorem dX10_truncate_27 : decode cX10_truncate 27 = .ok (.ireturn, 1) := by decide +kernel
theorem dX10_loadSetup_0 : decode cX10_loadSetup 0 = .ok (.aload_n 0, 1) := by decide +kernel
theorem dX10_loadSetup_1 : decode cX10_loadSetup 1 = .ok (.getfield 37, 3) := by decide +kernel
theorem dX10_loadSetup_4 : decode cX10_loadSetup 4 = .ok (.aload_n 0, 1) := by decide +kernel
theorem dX10_loadSetup_5 : decode cX10_loadSetup 5 = .ok (.getfield 16, 3) := by decide +kernel
theorem dX10_loadSetup_8 : decode cX10_loadSetup 8 = .ok (.invokevirtual 64, 3) := by decide +kernel
theorem dX10_loadSetup_11 : decode cX10_loadSetup 11 = .ok (.istore_n 1, 1) := by decide +kernel
theorem dX10_loadSetup_12 : decode cX10_loadSetup 12 = .ok (.aload_n 0, 1) := by decide +kernel
theorem dX10_loadSetup_13 : decode cX10_loadSetup 13 = .ok (.getfield 37, 3) := by decide +kernel
theorem dX10_loadSetup_16 : decode cX10_loadSetup 16 = .ok (.getfield 52, 3) := by decide +kernel
theorem dX10_loadSetup_19 : decode cX10_loadSetup 19 = .ok (.iconst 0, 1) := by decide +kernel
theorem dX10_loadSetup_20 : decode cX10_loadSetup 20 = .ok (.putfield 68, 3) := by decide +kernel
theorem dX10_loadSetup_23 : decode cX10_loadSetup 23 = .ok (.iload_n 1, 1) := by decide +kernel
theorem dX10_loadSetup_24 : decode cX10_loadSetup 24 = .ok (.ifCond .ne 13, 3) := by decide +kernel
theorem dX10_loadSetup_27 : decode cX10_loadSetup 27 = .ok (.new 92, 3) := by decide +kernel
theorem dX10_loadSetup_30 : decode cX10_loadSetup 30 = .ok (.dup, 1) := by decide +kernel
theorem dX10_loadSetup_31 : decode cX10_loadSetup 31 = .ok (.ldc 94, 2) := by decide +kernel
theorem dX10_loadSetup_33 : decode cX10_loadSetup 33 = .ok (.invokespecial 96, 3) := by decide +kernel
theorem dX10_loadSetup_36 : decode cX10_loadSetup 36 = .ok (.athrow, 1) := by decide +kernel
theorem dX10_loadSetup_37 : decode cX10_loadSetup 37 = .ok (.aload_n 0, 1) := by decide +kernel
theorem dX10_loadSetup_38 : decode cX10_loadSetup 38 = .ok (.getfield 22, 3) := by decide +kernel
theorem dX10_loadSetup_41 : decode cX10_loadSetup 41 = .ok (.aload_n 0, 1) := by decide +kernel
theorem dX10_loadSetup_42 : decode cX10_loadSetup 42 = .ok (.getfield 10, 3) := by decide +kernel
theorem dX10_loadSetup_45 : decode cX10_loadSetup 45 = .ok (.invokevirtual 97, 3) := by decide +kernel
theorem dX10_loadSetup_48 : decode cX10_loadSetup 48 = .ok (.aload_n 0, 1) := by decide +kernel
theorem dX10_loadSetup_49 : decode cX10_loadSetup 49 = .ok (.getfield 10, 3) := by decide +kernel
theorem dX10_loadSetup_52 : decode cX10_loadSetup 52 = .ok (.aload_n 0, 1) := by decide +kernel
theorem dX10_loadSetup_53 : decode cX10_loadSetup 53 = .ok (.getfield 16, 3) := by decide +kernel
theorem dX10_loadSetup_56 : decode cX10_loadSetup 56 = .ok (.invokevirtual 101, 3) := by decide +kernel
theorem dX10_loadSetup_59 : decode cX10_loadSetup 59 = .ok (.aload_n 0, 1) := by decide +kernel
theorem dX10_loadSetup_60 : decode cX10_loadSetup 60 = .ok (.getfield 10, 3) := by decide +kernel
theorem dX10_loadSetup_63 : decode cX10_loadSetup 63 = .ok (.getfield 104, 3) := by decide +kernel
theorem dX10_loadSetup_66 : decode cX10_loadSetup 66 = .ok (.ireturn, 1) := by decide +kernel
theorem dX10_nod_0 : decode cX10_nod 0 = .ok (.aload_n 0, 1) := by decide +kernel
theorem dX10_nod_1 : decode cX10_nod 1 = .ok (.iload_n 1, 1) := by decide +kernel
theorem dX10_nod_2 : decode cX10_nod 2 = .ok (.invokevirtual 127, 3) := by decide +kernel
theorem dX10_nod_5 : decode cX10_nod 5 = .ok (.aload_n 0, 1) := by decide +kernel
theorem dX10_nod_6 : decode cX10_nod 6 = .ok (.getfield 10, 3) := by decide +kernel
theorem dX10_nod_9 : decode cX10_nod 9 = .ok (.iload_n 1, 1) := by decide +kernel
theorem dX10_nod_10 : decode cX10_nod 10 = .ok (.invokevirtual 130, 3) := by decide +kernel
theorem dX10_nod_13 : decode cX10_nod 13 = .ok (.ifCond .ne 7, 3) := by decide +kernel
theorem dX10_nod_16 : decode cX10_nod 16 = .ok (.iconst 1, 1) := by decide +kernel
theorem dX10_nod_17 : decode cX10_nod 17 = .ok (.goto 4, 3) := by decide +kernel
theorem dX10_nod_20 : decode cX10_nod 20 = .ok (.iconst 0, 1) := by decide +kernel
theorem dX10_nod_21 : decode cX10_nod 21 = .ok (.invokestatic 134, 3) := by decide +kernel
theorem dX10_nod_24 : decode cX10_nod 24 = .ok (.aload_n 0, 1) := by decide +kernel
theorem dX10_nod_25 : decode cX10_nod 25 = .ok (.getfield 22, 3) := by decide +kernel
theorem dX10_nod_28 : decode cX10_nod 28 = .ok (.aload_n 0, 1) := by decide +kernel
theorem dX10_nod_29 : decode cX10_nod 29 = .ok (.getfield 10, 3) := by decide +kernel
theorem dX10_nod_32 : decode cX10_nod 32 = .ok (.invokevirtual 97, 3) := by decide +kernel
theorem dX10_nod_35 : decode cX10_nod 35 = .ok (.aload_n 0, 1) := by decide +kernel
theorem dX10_nod_36 : decode cX10_nod 36 = .ok (.getfield 10, 3) := by decide +kernel
theorem dX10_nod_39 : decode cX10_nod 39 = .ok (.iload_n 1, 1) := by decide +kernel
theorem dX10_nod_40 : decode cX10_nod 40 = .ok (.invokevirtual 138, 3) := by decide +kernel
theorem dX10_nod_43 : decode cX10_nod 43 = .ok (.aload_n 0, 1) := by decide +kernel
theorem dX10_nod_44 : decode cX10_nod 44 = .ok (.getfield 10, 3) := by decide +kernel
theorem dX10_nod_47 : decode cX10_nod 47 = .ok (.getfield 141, 3) := by decide +kernel
theorem dX10_nod_50 : decode cX10_nod 50 = .ok (.ireturn, 1) := by decide +kernel
theorem dX10_passMinutes_0 : decode cX10_passMinutes 0 = .ok (.iload_n 1, 1) := by decide +kernel
theorem dX10_passMinutes_1 : decode cX10_passMinutes 1 = .ok (.iconst 1, 1) := by decide +kernel
theorem dX10_passMinutes_2 : decode cX10_passMinutes 2 = .ok (.sipush 200, 3) := by decide +kernel
theorem dX10_passMinutes_5 : decode cX10_passMinutes 5 = .ok (.invokestatic 82, 3) := by decide +kernel
theorem dX10_passMinutes_8 : decode cX10_passMinutes 8 = .ok (.aload_n 0, 1) := by decide +kernel
theorem dX10_passMinutes_9 : decode cX10_passMinutes 9 = .ok (.getfield 22, 3) := by decide +kernel
theorem dX10_passMinutes_12 : decode cX10_passMinutes 12 = .ok (.aload_n 0, 1) := by decide +kernel
theorem dX10_passMinutes_13 : decode cX10_passMinutes 13 = .ok (.getfield 10, 3) := by decide +kernel
theorem dX10_passMinutes_16 : decode cX10_passMinutes 16 = .ok (.invokevirtual 97, 3) := by decide +kernel
theorem dX10_passMinutes_19 : decode cX10_passMinutes 19 = .ok (.aload_n 0, 1) := by decide +kernel
theorem dX10_passMinutes_20 : decode cX10_passMinutes 20 = .ok (.getfield 10, 3) := by decide +kernel
theorem dX10_passMinutes_23 : decode cX10_passMinutes 23 = .ok (.iload_n 1, 1) := by decide +kernel
theorem dX10_passMinutes_24 : decode cX10_passMinutes 24 = .ok (.invokevirtual 144, 3) := by decide +kernel
theorem dX10_passMinutes_27 : decode cX10_passMinutes 27 = .ok (.ireturn, 1) := by decide +kernel
theorem dX10_addBarrel_0 : decode cX10_addBarrel 0 = .ok (.iload_n 1, 1) := by decide +kernel
theorem dX10_addBarrel_1 : decode cX10_addBarrel 1 = .ok (.iconst 1, 1) := by decide +kernel
theorem dX10_addBarrel_2 : decode cX10_addBarrel 2 = .ok (.sipush 999, 3) := by decide +kernel
theorem dX10_addBarrel_5 : decode cX10_addBarrel 5 = .ok (.invokestatic 82, 3) := by decide +kernel
theorem dX10_addBarrel_8 : decode cX10_addBarrel 8 = .ok (.iload_n 2, 1) := by decide +kernel
theorem dX10_addBarrel_9 : decode cX10_addBarrel 9 = .ok (.iconst 1, 1) := by decide +kernel
theorem dX10_addBarrel_10 : decode cX10_addBarrel 10 = .ok (.bipush 9, 2) := by decide +kernel
theorem dX10_addBarrel_12 : decode cX10_addBarrel 12 = .ok (.invokestatic 82, 3) := by decide +kernel
theorem dX10_addBarrel_15 : decode cX10_addBarrel 15 = .ok (.iload_n 3, 1) := by decide +kernel
theorem dX10_addBarrel_16 : decode cX10_addBarrel 16 = .ok (.bipush 10, 2) := by decide +kernel
theorem dX10_addBarrel_18 : decode cX10_addBarrel 18 = .ok (.sipush 150, 3) := by decide +kernel
theorem dX10_addBarrel_21 : decode cX10_addBarrel 21 = .ok (.invokestatic 82, 3) := by decide +kernel
theorem dX10_addBarrel_24 : decode cX10_addBarrel 24 = .ok (.aload_n 0, 1) := by decide +kernel
theorem dX10_addBarrel_25 : decode cX10_addBarrel 25 = .ok (.getfield 10, 3) := by decide +kernel
theorem dX10_addBarrel_28 : decode cX10_addBarrel 28 = .ok (.invokevirtual 147, 3) := by decide +kernel
theorem dX10_addBarrel_31 : decode cX10_addBarrel 31 = .ok (.invokestatic 134, 3) := by decide +kernel
theorem dX10_addBarrel_34 : decode cX10_addBarrel 34 = .ok (.aload_n 0, 1) := by decide +kernel
theorem dX10_addBarrel_35 : decode cX10_addBarrel 35 = .ok (.getfield 22, 3) := by decide +kernel
theorem dX10_addBarrel_38 : decode cX10_addBarrel 38 = .ok (.aload_n 0, 1) := by decide +kernel
theorem dX10_addBarrel_39 : decode cX10_addBarrel 39 = .ok (.getfield 10, 3) := by decide +kernel
theorem dX10_addBarrel_42 : decode cX10_addBarrel 42 = .ok (.invokevirtual 97, 3) := by decide +kernel
theorem dX10_addBarrel_45 : decode cX10_addBarrel 45 = .ok (.aload_n 0, 1) := by decide +kernel
theorem dX10_addBarrel_46 : decode cX10_addBarrel 46 = .ok (.getfield 41, 3) := by decide +kernel
theorem dX10_addBarrel_49 : decode cX10_addBarrel 49 = .ok (.iload_n 3, 1) := by decide +kernel
theorem dX10_addBarrel_50 : decode cX10_addBarrel 50 = .ok (.invokestatic 151, 3) := by decide +kernel
theorem dX10_addBarrel_53 : decode cX10_addBarrel 53 = .ok (.aload_n 0, 1) := by decide +kernel
theorem dX10_addBarrel_54 : decode cX10_addBarrel 54 = .ok (.getfield 10, 3) := by decide +kernel
theorem dX10_addBarrel_57 : decode cX10_addBarrel 57 = .ok (.iload_n 1, 1) := by decide +kernel
theorem dX10_addBarrel_58 : decode cX10_addBarrel 58 = .ok (.aload_n 0, 1) := by decide +kernel
theorem dX10_addBarrel_59 : decode cX10_addBarrel 59 = .ok (.getfield 41, 3) := by decide +kernel
theorem dX10_addBarrel_62 : decode cX10_addBarrel 62 = .ok (.iconst 0, 1) := by decide +kernel
theorem dX10_addBarrel_63 : decode cX10_addBarrel 63 = .ok (.iload_n 2, 1) := by decide +kernel
theorem dX10_addBarrel_64 : decode cX10_addBarrel 64 = .ok (.invokevirtual 157, 3) := by decide +kernel
theorem dX10_addBarrel_67 : decode cX10_addBarrel 67 = .ok (.ireturn, 1) := by decide +kernel
theorem dX10_split_0 : decode cX10_split 0 = .ok (.aload_n 0, 1) := by decide +kernel
theorem dX10_split_1 : decode cX10_split 1 = .ok (.iload_n 1, 1) := by decide +kernel
theorem dX10_split_2 : decode cX10_split 2 = .ok (.invokevirtual 161, 3) := by decide +kernel
theorem dX10_split_5 : decode cX10_split 5 = .ok (.iload_n 2, 1) := by decide +kernel
theorem dX10_split_6 : decode cX10_split 6 = .ok (.iconst 1, 1) := by decide +kernel
theorem dX10_split_7 : decode cX10_split 7 = .ok (.bipush 8, 2) := by decide +kernel
theorem dX10_split_9 : decode cX10_split 9 = .ok (.invokestatic 82, 3) := by decide +kernel
theorem dX10_split_12 : decode cX10_split 12 = .ok (.aload_n 0, 1) := by decide +kernel
theorem dX10_split_13 : decode cX10_split 13 = .ok (.getfield 10, 3) := by decide +kernel
theorem dX10_split_16 : decode cX10_split 16 = .ok (.iload_n 1, 1) := by decide +kernel
theorem dX10_split_17 : decode cX10_split 17 = .ok (.iload_n 2, 1) := by decide +kernel
theorem dX10_split_18 : decode cX10_split 18 = .ok (.invokevirtual 164, 3) := by decide +kernel
theorem dX10_split_21 : decode cX10_split 21 = .ok (.invokestatic 134, 3) := by decide +kernel
theorem dX10_split_24 : decode cX10_split 24 = .ok (.aload_n 0, 1) := by decide +kernel
theorem dX10_split_25 : decode cX10_split 25 = .ok (.getfield 22, 3) := by decide +kernel
theorem dX10_split_28 : decode cX10_split 28 = .ok (.aload_n 0, 1) := by decide +kernel
theorem dX10_split_29 : decode cX10_split 29 = .ok (.getfield 10, 3) := by decide +kernel
theorem dX10_split_32 : decode cX10_split 32 = .ok (.invokevirtual 97, 3) := by decide +kernel
theorem dX10_split_35 : decode cX10_split 35 = .ok (.aload_n 0, 1) := by decide +kernel
theorem dX10_split_36 : decode cX10_split 36 = .ok (.getfield 10, 3) := by decide +kernel
theorem dX10_split_39 : decode cX10_split 39 = .ok (.iload_n 1, 1) := by decide +kernel
theorem dX10_split_40 : decode cX10_split 40 = .ok (.iload_n 2, 1) := by decide +kernel
theorem dX10_split_41 : decode cX10_split 41 = .ok (.invokevirtual 168, 3) := by decide +kernel
theorem dX10_split_44 : decode cX10_split 44 = .ok (.ireturn, 1) := by decide +kernel
theorem dX10_withdraw_0 : decode cX10_withdraw 0 = .ok (.aload_n 0, 1) := by decide +kernel
theorem dX10_withdraw_1 : decode cX10_withdraw 1 = .ok (.iload_n 1, 1) := by decide +kernel
theorem dX10_withdraw_2 : decode cX10_withdraw 2 = .ok (.invokevirtual 161, 3) := by decide +kernel
theorem dX10_withdraw_5 : decode cX10_withdraw 5 = .ok (.aload_n 0, 1) := by decide +kernel
theorem dX10_withdraw_6 : decode cX10_withdraw 6 = .ok (.getfield 10, 3) := by decide +kernel
theorem dX10_withdraw_9 : decode cX10_withdraw 9 = .ok (.iload_n 1, 1) := by decide +kernel
theorem dX10_withdraw_10 : decode cX10_withdraw 10 = .ok (.invokevirtual 172, 3) := by decide +kernel
theorem dX10_withdraw_13 : decode cX10_withdraw 13 = .ok (.invokestatic 134, 3) := by decide +kernel
theorem dX10_withdraw_16 : decode cX10_withdraw 16 = .ok (.aload_n 0, 1) := by decide +kernel
theorem dX10_withdraw_17 : decode cX10_withdraw 17 = .ok (.getfield 22, 3) := by decide +kernel
theorem dX10_withdraw_20 : decode cX10_withdraw 20 = .ok (.aload_n 0, 1) := by decide +kernel
theorem dX10_withdraw_21 : decode cX10_withdraw 21 = .ok (.getfield 10, 3) := by decide +kernel
theorem dX10_withdraw_24 : decode cX10_withdraw 24 = .ok (.invokevirtual 97, 3) := by decide +kernel
theorem dX10_withdraw_27 : decode cX10_withdraw 27 = .ok (.aload_n 0, 1) := by decide +kernel
theorem dX10_withdraw_28 : decode cX10_withdraw 28 = .ok (.getfield 10, 3) := by decide +kernel
theorem dX10_withdraw_31 : decode cX10_withdraw 31 = .ok (.iload_n 1, 1) := by decide +kernel
theorem dX10_withdraw_32 : decode cX10_withdraw 32 = .ok (.invokevirtual 175, 3) := by decide +kernel
theorem dX10_withdraw_35 : decode cX10_withdraw 35 = .ok (.aload_n 0, 1) := by decide +kernel
theorem dX10_withdraw_36 : decode cX10_withdraw 36 = .ok (.getfield 10, 3) := by decide +kernel
theorem dX10_withdraw_39 : decode cX10_withdraw 39 = .ok (.getfield 178, 3) := by decide +kernel
theorem dX10_withdraw_42 : decode cX10_withdraw 42 = .ok (.ireturn, 1) := by decide +kernel
theorem dX10_fund_0 : decode cX10_fund 0 = .ok (.aload_n 0, 1) := by decide +kernel
theorem dX10_fund_1 : decode cX10_fund 1 = .ok (.iload_n 1, 1) := by decide +kernel
theorem dX10_fund_2 : decode cX10_fund 2 = .ok (.invokevirtual 127, 3) := by decide +kernel
theorem dX10_fund_5 : decode cX10_fund 5 = .ok (.iload_n 2, 1) := by decide +kernel
theorem dX10_fund_6 : decode cX10_fund 6 = .ok (.iconst 1, 1) := by decide +kernel
theorem dX10_fund_7 : decode cX10_fund 7 = .ok (.sipush 9999, 3) := by decide +kernel
theorem dX10_fund_10 : decode cX10_fund 10 = .ok (.invokestatic 82, 3) := by decide +kernel
theorem dX10_fund_13 : decode cX10_fund 13 = .ok (.aload_n 0, 1) := by decide +kernel
theorem dX10_fund_14 : decode cX10_fund 14 = .ok (.getfield 22, 3) := by decide +kernel
theorem dX10_fund_17 : decode cX10_fund 17 = .ok (.aload_n 0, 1) := by decide +kernel
theorem dX10_fund_18 : decode cX10_fund 18 = .ok (.getfield 10, 3) := by decide +kernel
theorem dX10_fund_21 : decode cX10_fund 21 = .ok (.invokevirtual 97, 3) := by decide +kernel
theorem dX10_fund_24 : decode cX10_fund 24 = .ok (.aload_n 0, 1) := by decide +kernel
theorem dX10_fund_25 : decode cX10_fund 25 = .ok (.getfield 10, 3) := by decide +kernel
theorem dX10_fund_28 : decode cX10_fund 28 = .ok (.iload_n 1, 1) := by decide +kernel
theorem dX10_fund_29 : decode cX10_fund 29 = .ok (.iload_n 2, 1) := by decide +kernel
theorem dX10_fund_30 : decode cX10_fund 30 = .ok (.invokevirtual 181, 3) := by decide +kernel
theorem dX10_fund_33 : decode cX10_fund 33 = .ok (.aload_n 0, 1) := by decide +kernel
theorem dX10_fund_34 : decode cX10_fund 34 = .ok (.getfield 10, 3) := by decide +kernel
theorem dX10_fund_37 : decode cX10_fund 37 = .ok (.getfield 185, 3) := by decide +kernel
theorem dX10_fund_40 : decode cX10_fund 40 = .ok (.iload_n 1, 1) := by decide +kernel
theorem dX10_fund_41 : decode cX10_fund 41 = .ok (.aaload, 1) := by decide +kernel
theorem dX10_fund_42 : decode cX10_fund 42 = .ok (.getfield 189, 3) := by decide +kernel
theorem dX10_fund_45 : decode cX10_fund 45 = .ok (.ireturn, 1) := by decide +kernel
theorem dX10_setStep_0 : decode cX10_setStep 0 = .ok (.iload_n 1, 1) := by decide +kernel
theorem dX10_setStep_1 : decode cX10_setStep 1 = .ok (.iconst 1, 1) := by decide +kernel
theorem dX10_setStep_2 : decode cX10_setStep 2 = .ok (.bipush 50, 2) := by decide +kernel
theorem dX10_setStep_4 : decode cX10_setStep 4 = .ok (.invokestatic 82, 3) := by decide +kernel
theorem dX10_setStep_7 : decode cX10_setStep 7 = .ok (.aload_n 0, 1) := by decide +kernel
theorem dX10_setStep_8 : decode cX10_setStep 8 = .ok (.getfield 22, 3) := by decide +kernel
theorem dX10_setStep_11 : decode cX10_setStep 11 = .ok (.aload_n 0, 1) := by decide +kernel
theorem dX10_setStep_12 : decode cX10_setStep 12 = .ok (.getfield 10, 3) := by decide +kernel
theorem dX10_setStep_15 : decode cX10_setStep 15 = .ok (.invokevirtual 97, 3) := by decide +kernel
theorem dX10_setStep_18 : decode cX10_setStep 18 = .ok (.aload_n 0, 1) := by decide +kernel
theorem dX10_setStep_19 : decode cX10_setStep 19 = .ok (.getfield 10, 3) := by decide +kernel
theorem dX10_setStep_22 : decode cX10_setStep 22 = .ok (.getfield 203, 3) := by decide +kernel
theorem dX10_setStep_25 : decode cX10_setStep 25 = .ok (.istore_n 2, 1) := by decide +kernel
theorem dX10_setStep_26 : decode cX10_setStep 26 = .ok (.aload_n 0, 1) := by decide +kernel
theorem dX10_setStep_27 : decode cX10_setStep 27 = .ok (.getfield 10, 3) := by decide +kernel
theorem dX10_setStep_30 : decode cX10_setStep 30 = .ok (.iload_n 1, 1) := by decide +kernel
theorem dX10_setStep_31 : decode cX10_setStep 31 = .ok (.putfield 203, 3) := by decide +kernel
theorem dX10_setStep_34 : decode cX10_setStep 34 = .ok (.iload_n 2, 1) := by decide +kernel
theorem dX10_setStep_35 : decode cX10_setStep 35 = .ok (.ireturn, 1) := by decide +kernel
theorem dX10_setTaste_0 : decode cX10_setTaste 0 = .ok (.aload_n 0, 1) := by decide +kernel
theorem dX10_setTaste_1 : decode cX10_setTaste 1 = .ok (.iload_n 1, 1) := by decide +kernel
theorem dX10_setTaste_2 : decode cX10_setTaste 2 = .ok (.invokevirtual 127, 3) := by decide +kernel
theorem dX10_setTaste_5 : decode cX10_setTaste 5 = .ok (.iload_n 2, 1) := by decide +kernel
theorem dX10_setTaste_6 : decode cX10_setTaste 6 = .ok (.iconst 0, 1) := by decide +kernel
theorem dX10_setTaste_7 : decode cX10_setTaste 7 = .ok (.iconst 4, 1) := by decide +kernel
theorem dX10_setTaste_8 : decode cX10_setTaste 8 = .ok (.invokestatic 82, 3) := by decide +kernel
theorem dX10_setTaste_11 : decode cX10_setTaste 11 = .ok (.iload_n 3, 1) := by decide +kernel
theorem dX10_setTaste_12 : decode cX10_setTaste 12 = .ok (.iconst 1, 1) := by decide +kernel
theorem dX10_setTaste_13 : decode cX10_setTaste 13 = .ok (.sipush 999, 3) := by decide +kernel
theorem dX10_setTaste_16 : decode cX10_setTaste 16 = .ok (.invokestatic 82, 3) := by decide +kernel
theorem dX10_setTaste_19 : decode cX10_setTaste 19 = .ok (.aload_n 0, 1) := by decide +kernel
theorem dX10_setTaste_20 : decode cX10_setTaste 20 = .ok (.getfield 22, 3) := by decide +kernel
theorem dX10_setTaste_23 : decode cX10_setTaste 23 = .ok (.aload_n 0, 1) := by decide +kernel
theorem dX10_setTaste_24 : decode cX10_setTaste 24 = .ok (.getfield 10, 3) := by decide +kernel
theorem dX10_setTaste_27 : decode cX10_setTaste 27 = .ok (.invokevirtual 97, 3) := by decide +kernel
theorem dX10_setTaste_30 : decode cX10_setTaste 30 = .ok (.aload_n 0, 1) := by decide +kernel
theorem dX10_setTaste_31 : decode cX10_setTaste 31 = .ok (.getfield 10, 3) := by decide +kernel
theorem dX10_setTaste_34 : decode cX10_setTaste 34 = .ok (.getfield 185, 3) := by decide +kernel
theorem dX10_setTaste_37 : decode cX10_setTaste 37 = .ok (.iload_n 1, 1) := by decide +kernel
theorem dX10_setTaste_38 : decode cX10_setTaste 38 = .ok (.aaload, 1) := by decide +kernel
theorem dX10_setTaste_39 : decode cX10_setTaste 39 = .ok (.astore 4, 2) := by decide +kernel
theorem dX10_setTaste_41 : decode cX10_setTaste 41 = .ok (.aload 4, 2) := by decide +kernel
theorem dX10_setTaste_43 : decode cX10_setTaste 43 = .ok (.getfield 206, 3) := by decide +kernel
theorem dX10_setTaste_46 : decode cX10_setTaste 46 = .ok (.istore 5, 2) := by decide +kernel
theorem dX10_setTaste_48 : decode cX10_setTaste 48 = .ok (.aload 4, 2) := by decide +kernel
theorem dX10_setTaste_50 : decode cX10_setTaste 50 = .ok (.iload_n 2, 1) := by decide +kernel
theorem dX10_setTaste_51 : decode cX10_setTaste 51 = .ok (.putfield 206, 3) := by decide +kernel
theorem dX10_setTaste_54 : decode cX10_setTaste 54 = .ok (.aload 4, 2) := by decide +kernel
theorem dX10_setTaste_56 : decode cX10_setTaste 56 = .ok (.iload_n 3, 1) := by decide +kernel
theorem dX10_setTaste_57 : decode cX10_setTaste 57 = .ok (.putfield 209, 3) := by decide +kernel
theorem dX10_setTaste_60 : decode cX10_setTaste 60 = .ok (.iload 5, 2) := by decide +kernel
theorem dX10_setTaste_62 : decode cX10_setTaste 62 = .ok (.ireturn, 1) := by decide +kernel
theorem dX10_minute_0 : decode cX10_minute 0 = .ok (.aload_n 0, 1) := by decide +kernel
theorem dX10_minute_1 : decode cX10_minute 1 = .ok (.getfield 10, 3) := by decide +kernel
theorem dX10_minute_4 : decode cX10_minute 4 = .ok (.getfield 225, 3) := by decide +kernel
theorem dX10_minute_7 : decode cX10_minute 7 = .ok (.getfield 229, 3) := by decide +kernel
theorem dX10_minute_10 : decode cX10_minute 10 = .ok (.ireturn, 1) := by decide +kernel
theorem dX10_isOpen_0 : decode cX10_isOpen 0 = .ok (.aload_n 0, 1) := by decide +kernel
theorem dX10_isOpen_1 : decode cX10_isOpen 1 = .ok (.getfield 10, 3) := by decide +kernel
theorem dX10_isOpen_4 : decode cX10_isOpen 4 = .ok (.getfield 225, 3) := by decide +kernel
theorem dX10_isOpen_7 : decode cX10_isOpen 7 = .ok (.invokevirtual 234, 3) := by decide +kernel
theorem dX10_isOpen_10 : decode cX10_isOpen 10 = .ok (.ireturn, 1) := by decide +kernel
theorem dX10_minutesToHorn_0 : decode cX10_minutesToHorn 0 = .ok (.aload_n 0, 1) := by decide +kernel
theorem dX10_minutesToHorn_1 : decode cX10_minutesToHorn 1 = .ok (.getfield 10, 3) := by decide +kernel
theorem dX10_minutesToHorn_4 : decode cX10_minutesToHorn 4 = .ok (.getfield 225, 3) := by decide +kernel
theorem dX10_minutesToHorn_7 : decode cX10_minutesToHorn 7 = .ok (.invokevirtual 237, 3) := by decide +kernel
theorem dX10_minutesToHorn_10 : decode cX10_minutesToHorn 10 = .ok (.ireturn, 1) := by decide +kernel
theorem dX10_step_0 : decode cX10_step 0 = .ok (.aload_n 0, 1) := by decide +kernel
theorem dX10_step_1 : decode cX10_step 1 = .ok (.getfield 10, 3) := by decide +kernel
theorem dX10_step_4 : decode cX10_step 4 = .ok (.getfield 203, 3) := by decide +kernel
theorem dX10_step_7 : decode cX10_step 7 = .ok (.ireturn, 1) := by decide +kernel
theorem dX10_sellerCoins_0 : decode cX10_sellerCoins 0 = .ok (.aload_n 0, 1) := by decide +kernel
theorem dX10_sellerCoins_1 : decode cX10_sellerCoins 1 = .ok (.getfield 10, 3) := by decide +kernel
theorem dX10_sellerCoins_4 : decode cX10_sellerCoins 4 = .ok (.getfield 241, 3) := by decide +kernel
theorem dX10_sellerCoins_7 : decode cX10_sellerCoins 7 = .ok (.ireturn, 1) := by decide +kernel
theorem dX10_houseCoins_0 : decode cX10_houseCoins 0 = .ok (.aload_n 0, 1) := by decide +kernel
theorem dX10_houseCoins_1 : decode cX10_houseCoins 1 = .ok (.getfield 10, 3) := by decide +kernel
theorem dX10_houseCoins_4 : decode cX10_houseCoins 4 = .ok (.getfield 244, 3) := by decide +kernel
theorem dX10_houseCoins_7 : decode cX10_houseCoins 7 = .ok (.ireturn, 1) := by decide +kernel
theorem dX10_openBarrel_0 : decode cX10_openBarrel 0 = .ok (.aload_n 0, 1) := by decide +kernel
theorem dX10_openBarrel_1 : decode cX10_openBarrel 1 = .ok (.getfield 10, 3) := by decide +kernel
theorem dX10_openBarrel_4 : decode cX10_openBarrel 4 = .ok (.getfield 247, 3) := by decide +kernel
theorem dX10_openBarrel_7 : decode cX10_openBarrel 7 = .ok (.ireturn, 1) := by decide +kernel
theorem dX10_bid_0 : decode cX10_bid 0 = .ok (.aload_n 0, 1) := by decide +kernel
theorem dX10_bid_1 : decode cX10_bid 1 = .ok (.getfield 10, 3) := by decide +kernel
theorem dX10_bid_4 : decode cX10_bid 4 = .ok (.getfield 141, 3) := by decide +kernel
theorem dX10_bid_7 : decode cX10_bid 7 = .ok (.ireturn, 1) := by decide +kernel
theorem dX10_leader_0 : decode cX10_leader 0 = .ok (.aload_n 0, 1) := by decide +kernel
theorem dX10_leader_1 : decode cX10_leader 1 = .ok (.getfield 10, 3) := by decide +kernel
theorem dX10_leader_4 : decode cX10_leader 4 = .ok (.getfield 250, 3) := by decide +kernel
theorem dX10_leader_7 : decode cX10_leader 7 = .ok (.ireturn, 1) := by decide +kernel
theorem dX10_nextBid_0 : decode cX10_nextBid 0 = .ok (.aload_n 0, 1) := by decide +kernel
theorem dX10_nextBid_1 : decode cX10_nextBid 1 = .ok (.getfield 10, 3) := by decide +kernel
theorem dX10_nextBid_4 : decode cX10_nextBid 4 = .ok (.invokevirtual 253, 3) := by decide +kernel
theorem dX10_nextBid_7 : decode cX10_nextBid 7 = .ok (.ireturn, 1) := by decide +kernel
theorem dX10_quiet_0 : decode cX10_quiet 0 = .ok (.aload_n 0, 1) := by decide +kernel
theorem dX10_quiet_1 : decode cX10_quiet 1 = .ok (.getfield 10, 3) := by decide +kernel
theorem dX10_quiet_4 : decode cX10_quiet 4 = .ok (.getfield 256, 3) := by decide +kernel
theorem dX10_quiet_7 : decode cX10_quiet 7 = .ok (.ireturn, 1) := by decide +kernel
theorem dX10_queueLength_0 : decode cX10_queueLength 0 = .ok (.aload_n 0, 1) := by decide +kernel
theorem dX10_queueLength_1 : decode cX10_queueLength 1 = .ok (.getfield 10, 3) := by decide +kernel
theorem dX10_queueLength_4 : decode cX10_queueLength 4 = .ok (.getfield 178, 3) := by decide +kernel
theorem dX10_queueLength_7 : decode cX10_queueLength 7 = .ok (.ireturn, 1) := by decide +kernel
theorem dX10_queuedBarrel_0 : decode cX10_queuedBarrel 0 = .ok (.iload_n 1, 1) := by decide +kernel
theorem dX10_queuedBarrel_1 : decode cX10_queuedBarrel 1 = .ok (.ifCond .lt 14, 3) := by decide +kernel
theorem dX10_queuedBarrel_4 : decode cX10_queuedBarrel 4 = .ok (.iload_n 1, 1) := by decide +kernel
theorem dX10_queuedBarrel_5 : decode cX10_queuedBarrel 5 = .ok (.aload_n 0, 1) := by decide +kernel
theorem dX10_queuedBarrel_6 : decode cX10_queuedBarrel 6 = .ok (.getfield 10, 3) := by decide +kernel
theorem dX10_queuedBarrel_9 : decode cX10_queuedBarrel 9 = .ok (.getfield 178, 3) := by decide +kernel
theorem dX10_queuedBarrel_12 : decode cX10_queuedBarrel 12 = .ok (.if_icmp .lt 5, 3) := by decide +kernel
theorem dX10_queuedBarrel_15 : decode cX10_queuedBarrel 15 = .ok (.iconst (-1), 1) := by decide +kernel
theorem dX10_queuedBarrel_16 : decode cX10_queuedBarrel 16 = .ok (.ireturn, 1) := by decide +kernel
theorem dX10_queuedBarrel_17 : decode cX10_queuedBarrel 17 = .ok (.aload_n 0, 1) := by decide +kernel
theorem dX10_queuedBarrel_18 : decode cX10_queuedBarrel 18 = .ok (.getfield 10, 3) := by decide +kernel
theorem dX10_queuedBarrel_21 : decode cX10_queuedBarrel 21 = .ok (.getfield 259, 3) := by decide +kernel
theorem dX10_queuedBarrel_24 : decode cX10_queuedBarrel 24 = .ok (.iload_n 1, 1) := by decide +kernel
theorem dX10_queuedBarrel_25 : decode cX10_queuedBarrel 25 = .ok (.iaload, 1) := by decide +kernel
theorem dX10_queuedBarrel_26 : decode cX10_queuedBarrel 26 = .ok (.ireturn, 1) := by decide +kernel
theorem dX10_barrelCount_0 : decode cX10_barrelCount 0 = .ok (.aload_n 0, 1) := by decide +kernel
theorem dX10_barrelCount_1 : decode cX10_barrelCount 1 = .ok (.getfield 10, 3) := by decide +kernel
theorem dX10_barrelCount_4 : decode cX10_barrelCount 4 = .ok (.getfield 104, 3) := by decide +kernel
theorem dX10_barrelCount_7 : decode cX10_barrelCount 7 = .ok (.ireturn, 1) := by decide +kernel
theorem dX10_eels_0 : decode cX10_eels 0 = .ok (.aload_n 0, 1) := by decide +kernel
theorem dX10_eels_1 : decode cX10_eels 1 = .ok (.iload_n 1, 1) := by decide +kernel
theorem dX10_eels_2 : decode cX10_eels 2 = .ok (.invokevirtual 262, 3) := by decide +kernel
theorem dX10_eels_5 : decode cX10_eels 5 = .ok (.getfield 266, 3) := by decide +kernel
theorem dX10_eels_8 : decode cX10_eels 8 = .ok (.ireturn, 1) := by decide +kernel
theorem dX10_length_0 : decode cX10_length 0 = .ok (.aload_n 0, 1) := by decide +kernel
theorem dX10_length_1 : decode cX10_length 1 = .ok (.iload_n 1, 1) := by decide +kernel
theorem dX10_length_2 : decode cX10_length 2 = .ok (.invokevirtual 262, 3) := by decide +kernel
theorem dX10_length_5 : decode cX10_length 5 = .ok (.astore_n 3, 1) := by decide +kernel
theorem dX10_length_6 : decode cX10_length 6 = .ok (.iload_n 2, 1) := by decide +kernel
theorem dX10_length_7 : decode cX10_length 7 = .ok (.ifCond .lt 11, 3) := by decide +kernel
theorem dX10_length_10 : decode cX10_length 10 = .ok (.iload_n 2, 1) := by decide +kernel
theorem dX10_length_11 : decode cX10_length 11 = .ok (.aload_n 3, 1) := by decide +kernel
theorem dX10_length_12 : decode cX10_length 12 = .ok (.getfield 266, 3) := by decide +kernel
theorem dX10_length_15 : decode cX10_length 15 = .ok (.if_icmp .lt 14, 3) := by decide +kernel
theorem dX10_length_18 : decode cX10_length 18 = .ok (.new 269, 3) := by decide +kernel
theorem dX10_length_21 : decode cX10_length 21 = .ok (.dup, 1) := by decide +kernel
theorem dX10_length_22 : decode cX10_length 22 = .ok (.ldc_w 271, 3) := by decide +kernel
theorem dX10_length_25 : decode cX10_length 25 = .ok (.invokespecial 273, 3) := by decide +kernel
theorem dX10_length_28 : decode cX10_length 28 = .ok (.athrow, 1) := by decide +kernel
theorem dX10_length_29 : decode cX10_length 29 = .ok (.aload_n 3, 1) := by decide +kernel
theorem dX10_length_30 : decode cX10_length 30 = .ok (.getfield 274, 3) := by decide +kernel
theorem dX10_length_33 : decode cX10_length 33 = .ok (.iload_n 2, 1) := by decide +kernel
theorem dX10_length_34 : decode cX10_length 34 = .ok (.iaload, 1) := by decide +kernel
theorem dX10_length_35 : decode cX10_length 35 = .ok (.ireturn, 1) := by decide +kernel
theorem dX10_totalLength_0 : decode cX10_totalLength 0 = .ok (.aload_n 0, 1) := by decide +kernel
theorem dX10_totalLength_1 : decode cX10_totalLength 1 = .ok (.iload_n 1, 1) := by decide +kernel
theorem dX10_totalLength_2 : decode cX10_totalLength 2 = .ok (.invokevirtual 262, 3) := by decide +kernel
theorem dX10_totalLength_5 : decode cX10_totalLength 5 = .ok (.getfield 277, 3) := by decide +kernel
theorem dX10_totalLength_8 : decode cX10_totalLength 8 = .ok (.ireturn, 1) := by decide +kernel
theorem dX10_greatestLength_0 : decode cX10_greatestLength 0 = .ok (.aload_n 0, 1) := by decide +kernel
theorem dX10_greatestLength_1 : decode cX10_greatestLength 1 = .ok (.iload_n 1, 1) := by decide +kernel
theorem dX10_greatestLength_2 : decode cX10_greatestLength 2 = .ok (.invokevirtual 262, 3) := by decide +kernel
theorem dX10_greatestLength_5 : decode cX10_greatestLength 5 = .ok (.getfield 280, 3) := by decide +kernel
theorem dX10_greatestLength_8 : decode cX10_greatestLength 8 = .ok (.ireturn, 1) := by decide +kernel
theorem dX10_middleLength_0 : decode cX10_middleLength 0 = .ok (.aload_n 0, 1) := by decide +kernel
theorem dX10_middleLength_1 : decode cX10_middleLength 1 = .ok (.iload_n 1, 1) := by decide +kernel
theorem dX10_middleLength_2 : decode cX10_middleLength 2 = .ok (.invokevirtual 262, 3) := by decide +kernel
theorem dX10_middleLength_5 : decode cX10_middleLength 5 = .ok (.aload_n 0, 1) := by decide +kernel
theorem dX10_middleLength_6 : decode cX10_middleLength 6 = .ok (.iload_n 1, 1) := by decide +kernel
theorem dX10_middleLength_7 : decode cX10_middleLength 7 = .ok (.invokevirtual 262, 3) := by decide +kernel
theorem dX10_middleLength_10 : decode cX10_middleLength 10 = .ok (.getfield 266, 3) := by decide +kernel
theorem dX10_middleLength_13 : decode cX10_middleLength 13 = .ok (.iconst 1, 1) := by decide +kernel
theorem dX10_middleLength_14 : decode cX10_middleLength 14 = .ok (.isub, 1) := by decide +kernel
theorem dX10_middleLength_15 : decode cX10_middleLength 15 = .ok (.iconst 2, 1) := by decide +kernel
theorem dX10_middleLength_16 : decode cX10_middleLength 16 = .ok (.idiv, 1) := by decide +kernel
theorem dX10_middleLength_17 : decode cX10_middleLength 17 = .ok (.invokevirtual 283, 3) := by decide +kernel
theorem dX10_middleLength_20 : decode cX10_middleLength 20 = .ok (.ireturn, 1) := by decide +kernel
theorem dX10_reserve_0 : decode cX10_reserve 0 = .ok (.aload_n 0, 1) := by decide +kernel
theorem dX10_reserve_1 : decode cX10_reserve 1 = .ok (.iload_n 1, 1) := by decide +kernel
theorem dX10_reserve_2 : decode cX10_reserve 2 = .ok (.invokevirtual 262, 3) := by decide +kernel
theorem dX10_reserve_5 : decode cX10_reserve 5 = .ok (.getfield 198, 3) := by decide +kernel
theorem dX10_reserve_8 : decode cX10_reserve 8 = .ok (.ireturn, 1) := by decide +kernel
theorem dX10_stateOf_0 : decode cX10_stateOf 0 = .ok (.aload_n 0, 1) := by decide +kernel
theorem dX10_stateOf_1 : decode cX10_stateOf 1 = .ok (.iload_n 1, 1) := by decide +kernel
theorem dX10_stateOf_2 : decode cX10_stateOf 2 = .ok (.invokevirtual 262, 3) := by decide +kernel
theorem dX10_stateOf_5 : decode cX10_stateOf 5 = .ok (.getfield 286, 3) := by decide +kernel
theorem dX10_stateOf_8 : decode cX10_stateOf 8 = .ok (.ireturn, 1) := by decide +kernel
theorem dX10_returns_0 : decode cX10_returns 0 = .ok (.aload_n 0, 1) := by decide +kernel
theorem dX10_returns_1 : decode cX10_returns 1 = .ok (.iload_n 1, 1) := by decide +kernel
theorem dX10_returns_2 : decode cX10_returns 2 = .ok (.invokevirtual 262, 3) := by decide +kernel
theorem dX10_returns_5 : decode cX10_returns 5 = .ok (.getfield 289, 3) := by decide +kernel
theorem dX10_returns_8 : decode cX10_returns 8 = .ok (.ireturn, 1) := by decide +kernel
theorem dX10_buyerOf_0 : decode cX10_buyerOf 0 = .ok (.aload_n 0, 1) := by decide +kernel
theorem dX10_buyerOf_1 : decode cX10_buyerOf 1 = .ok (.iload_n 1, 1) := by decide +kernel
theorem dX10_buyerOf_2 : decode cX10_buyerOf 2 = .ok (.invokevirtual 262, 3) := by decide +kernel
theorem dX10_buyerOf_5 : decode cX10_buyerOf 5 = .ok (.getfield 292, 3) := by decide +kernel
theorem dX10_buyerOf_8 : decode cX10_buyerOf 8 = .ok (.ireturn, 1) := by decide +kernel
theorem dX10_priceOf_0 : decode cX10_priceOf 0 = .ok (.aload_n 0, 1) := by decide +kernel
theorem dX10_priceOf_1 : decode cX10_priceOf 1 = .ok (.iload_n 1, 1) := by decide +kernel
theorem dX10_priceOf_2 : decode cX10_priceOf 2 = .ok (.invokevirtual 262, 3) := by decide +kernel
theorem dX10_priceOf_5 : decode cX10_priceOf 5 = .ok (.getfield 295, 3) := by decide +kernel
theorem dX10_priceOf_8 : decode cX10_priceOf 8 = .ok (.ireturn, 1) := by decide +kernel
theorem dX10_pricePerLength_0 : decode cX10_pricePerLength 0 = .ok (.aload_n 0, 1) := by decide +kernel
theorem dX10_pricePerLength_1 : decode cX10_pricePerLength 1 = .ok (.iload_n 1, 1) := by decide +kernel
theorem dX10_pricePerLength_2 : decode cX10_pricePerLength 2 = .ok (.invokevirtual 262, 3) := by decide +kernel
theorem dX10_pricePerLength_5 : decode cX10_pricePerLength 5 = .ok (.astore_n 2, 1) := by decide +kernel
theorem dX10_pricePerLength_6 : decode cX10_pricePerLength 6 = .ok (.aload_n 2, 1) := by decide +kernel
theorem dX10_pricePerLength_7 : decode cX10_pricePerLength 7 = .ok (.getfield 286, 3) := by decide +kernel
theorem dX10_pricePerLength_10 : decode cX10_pricePerLength 10 = .ok (.iconst 2, 1) := by decide +kernel
theorem dX10_pricePerLength_11 : decode cX10_pricePerLength 11 = .ok (.if_icmp .ne 10, 3) := by decide +kernel
theorem dX10_pricePerLength_14 : decode cX10_pricePerLength 14 = .ok (.aload_n 2, 1) := by decide +kernel
theorem dX10_pricePerLength_15 : decode cX10_pricePerLength 15 = .ok (.getfield 277, 3) := by decide +kernel
theorem dX10_pricePerLength_18 : decode cX10_pricePerLength 18 = .ok (.ifCond .ne 5, 3) := by decide +kernel
theorem dX10_pricePerLength_21 : decode cX10_pricePerLength 21 = .ok (.fconst 0, 1) := by decide +kernel
theorem dX10_pricePerLength_22 : decode cX10_pricePerLength 22 = .ok (.freturn, 1) := by decide +kernel
theorem dX10_pricePerLength_23 : decode cX10_pricePerLength 23 = .ok (.aload_n 2, 1) := by decide +kernel
theorem dX10_pricePerLength_24 : decode cX10_pricePerLength 24 = .ok (.getfield 295, 3) := by decide +kernel
theorem dX10_pricePerLength_27 : decode cX10_pricePerLength 27 = .ok (.i2f, 1) := by decide +kernel
theorem dX10_pricePerLength_28 : decode cX10_pricePerLength 28 = .ok (.aload_n 2, 1) := by decide +kernel
theorem dX10_pricePerLength_29 : decode cX10_pricePerLength 29 = .ok (.getfield 277, 3) := by decide +kernel
theorem dX10_pricePerLength_32 : decode cX10_pricePerLength 32 = .ok (.i2f, 1) := by decide +kernel
theorem dX10_pricePerLength_33 : decode cX10_pricePerLength 33 = .ok (.fdiv, 1) := by decide +kernel
theorem dX10_pricePerLength_34 : decode cX10_pricePerLength 34 = .ok (.freturn, 1) := by decide +kernel
theorem dX10_buyerCount_0 : decode cX10_buyerCount 0 = .ok (.aload_n 0, 1) := by decide +kernel
theorem dX10_buyerCount_1 : decode cX10_buyerCount 1 = .ok (.getfield 10, 3) := by decide +kernel
theorem dX10_buyerCount_4 : decode cX10_buyerCount 4 = .ok (.getfield 107, 3) := by decide +kernel
theorem dX10_buyerCount_7 : decode cX10_buyerCount 7 = .ok (.ireturn, 1) := by decide +kernel
theorem dX10_purse_0 : decode cX10_purse 0 = .ok (.aload_n 0, 1) := by decide +kernel
theorem dX10_purse_1 : decode cX10_purse 1 = .ok (.iload_n 1, 1) := by decide +kernel
theorem dX10_purse_2 : decode cX10_purse 2 = .ok (.invokevirtual 298, 3) := by decide +kernel
theorem dX10_purse_5 : decode cX10_purse 5 = .ok (.getfield 189, 3) := by decide +kernel
theorem dX10_purse_8 : decode cX10_purse 8 = .ok (.ireturn, 1) := by decide +kernel
theorem dX10_style_0 : decode cX10_style 0 = .ok (.aload_n 0, 1) := by decide +kernel
theorem dX10_style_1 : decode cX10_style 1 = .ok (.iload_n 1, 1) := by decide +kernel
theorem dX10_style_2 : decode cX10_style 2 = .ok (.invokevirtual 298, 3) := by decide +kernel
theorem dX10_style_5 : decode cX10_style 5 = .ok (.getfield 206, 3) := by decide +kernel
theorem dX10_style_8 : decode cX10_style 8 = .ok (.ireturn, 1) := by decide +kernel
theorem dX10_factor_0 : decode cX10_factor 0 = .ok (.aload_n 0, 1) := by decide +kernel
theorem dX10_factor_1 : decode cX10_factor 1 = .ok (.iload_n 1, 1) := by decide +kernel
theorem dX10_factor_2 : decode cX10_factor 2 = .ok (.invokevirtual 298, 3) := by decide +kernel
theorem dX10_factor_5 : decode cX10_factor 5 = .ok (.getfield 209, 3) := by decide +kernel
theorem dX10_factor_8 : decode cX10_factor 8 = .ok (.ireturn, 1) := by decide +kernel
theorem dX10_bought_0 : decode cX10_bought 0 = .ok (.aload_n 0, 1) := by decide +kernel
theorem dX10_bought_1 : decode cX10_bought 1 = .ok (.iload_n 1, 1) := by decide +kernel
theorem dX10_bought_2 : decode cX10_bought 2 = .ok (.invokevirtual 298, 3) := by decide +kernel
theorem dX10_bought_5 : decode cX10_bought 5 = .ok (.getfield 302, 3) := by decide +kernel
theorem dX10_bought_8 : decode cX10_bought 8 = .ok (.ireturn, 1) := by decide +kernel
theorem dX10_nods_0 : decode cX10_nods 0 = .ok (.aload_n 0, 1) := by decide +kernel
theorem dX10_nods_1 : decode cX10_nods 1 = .ok (.iload_n 1, 1) := by decide +kernel
theorem dX10_nods_2 : decode cX10_nods 2 = .ok (.invokevirtual 298, 3) := by decide +kernel
theorem dX10_nods_5 : decode cX10_nods 5 = .ok (.getfield 305, 3) := by decide +kernel
theorem dX10_nods_8 : decode cX10_nods 8 = .ok (.ireturn, 1) := by decide +kernel
theorem dX10_worth_0 : decode cX10_worth 0 = .ok (.aload_n 0, 1) := by decide +kernel
theorem dX10_worth_1 : decode cX10_worth 1 = .ok (.iload_n 1, 1) := by decide +kernel
theorem dX10_worth_2 : decode cX10_worth 2 = .ok (.invokevirtual 298, 3) := by decide +kernel
theorem dX10_worth_5 : decode cX10_worth 5 = .ok (.aload_n 0, 1) := by decide +kernel
theorem dX10_worth_6 : decode cX10_worth 6 = .ok (.iload_n 2, 1) := by decide +kernel
theorem dX10_worth_7 : decode cX10_worth 7 = .ok (.invokevirtual 262, 3) := by decide +kernel
theorem dX10_worth_10 : decode cX10_worth 10 = .ok (.invokevirtual 308, 3) := by decide +kernel
theorem dX10_worth_13 : decode cX10_worth 13 = .ok (.dreturn, 1) := by decide +kernel
theorem dX10_whyNotNod_0 : decode cX10_whyNotNod 0 = .ok (.aload_n 0, 1) := by decide +kernel
theorem dX10_whyNotNod_1 : decode cX10_whyNotNod 1 = .ok (.iload_n 1, 1) := by decide +kernel
theorem dX10_whyNotNod_2 : decode cX10_whyNotNod 2 = .ok (.invokevirtual 127, 3) := by decide +kernel
theorem dX10_whyNotNod_5 : decode cX10_whyNotNod 5 = .ok (.aload_n 0, 1) := by decide +kernel
theorem dX10_whyNotNod_6 : decode cX10_whyNotNod 6 = .ok (.getfield 10, 3) := by decide +kernel
theorem dX10_whyNotNod_9 : decode cX10_whyNotNod 9 = .ok (.iload_n 1, 1) := by decide +kernel
theorem dX10_whyNotNod_10 : decode cX10_whyNotNod 10 = .ok (.invokevirtual 130, 3) := by decide +kernel
theorem dX10_whyNotNod_13 : decode cX10_whyNotNod 13 = .ok (.ireturn, 1) := by decide +kernel
theorem dX10_nextNodder_0 : decode cX10_nextNodder 0 = .ok (.aload_n 0, 1) := by decide +kernel
theorem dX10_nextNodder_1 : decode cX10_nextNodder 1 = .ok (.getfield 10, 3) := by decide +kernel
theorem dX10_nextNodder_4 : decode cX10_nextNodder 4 = .ok (.invokevirtual 315, 3) := by decide +kernel
theorem dX10_nextNodder_7 : decode cX10_nextNodder 7 = .ok (.ireturn, 1) := by decide +kernel
theorem dX10_keenestBuyer_0 : decode cX10_keenestBuyer 0 = .ok (.aload_n 0, 1) := by decide +kernel
theorem dX10_keenestBuyer_1 : decode cX10_keenestBuyer 1 = .ok (.getfield 10, 3) := by decide +kernel
theorem dX10_keenestBuyer_4 : decode cX10_keenestBuyer 4 = .ok (.aload_n 0, 1) := by decide +kernel
theorem dX10_keenestBuyer_5 : decode cX10_keenestBuyer 5 = .ok (.iload_n 1, 1) := by decide +kernel
theorem dX10_keenestBuyer_6 : decode cX10_keenestBuyer 6 = .ok (.invokevirtual 262, 3) := by decide +kernel
theorem dX10_keenestBuyer_9 : decode cX10_keenestBuyer 9 = .ok (.invokevirtual 318, 3) := by decide +kernel
theorem dX10_keenestBuyer_12 : decode cX10_keenestBuyer 12 = .ok (.ireturn, 1) := by decide +kernel
theorem dX10_minutesToSale_0 : decode cX10_minutesToSale 0 = .ok (.aload_n 0, 1) := by decide +kernel
theorem dX10_minutesToSale_1 : decode cX10_minutesToSale 1 = .ok (.iload_n 1, 1) := by decide +kernel
theorem dX10_minutesToSale_2 : decode cX10_minutesToSale 2 = .ok (.invokevirtual 262, 3) := by decide +kernel
theorem dX10_minutesToSale_5 : decode cX10_minutesToSale 5 = .ok (.getfield 286, 3) := by decide +kernel
theorem dX10_minutesToSale_8 : decode cX10_minutesToSale 8 = .ok (.iconst 2, 1) := by decide +kernel
theorem dX10_minutesToSale_9 : decode cX10_minutesToSale 9 = .ok (.if_icmp .ne 5, 3) := by decide +kernel
theorem dX10_minutesToSale_12 : decode cX10_minutesToSale 12 = .ok (.iconst 0, 1) := by decide +kernel
theorem dX10_minutesToSale_13 : decode cX10_minutesToSale 13 = .ok (.ireturn, 1) := by decide +kernel
theorem dX10_minutesToSale_14 : decode cX10_minutesToSale 14 = .ok (.aload_n 0, 1) := by decide +kernel
theorem dX10_minutesToSale_15 : decode cX10_minutesToSale 15 = .ok (.getfield 16, 3) := by decide +kernel
theorem dX10_minutesToSale_18 : decode cX10_minutesToSale 18 = .ok (.aload_n 0, 1) := by decide +kernel
theorem dX10_minutesToSale_19 : decode cX10_minutesToSale 19 = .ok (.getfield 10, 3) := by decide +kernel
theorem dX10_minutesToSale_22 : decode cX10_minutesToSale 22 = .ok (.invokevirtual 101, 3) := by decide +kernel
theorem dX10_minutesToSale_25 : decode cX10_minutesToSale 25 = .ok (.aload_n 0, 1) := by decide +kernel
theorem dX10_minutesToSale_26 : decode cX10_minutesToSale 26 = .ok (.getfield 16, 3) := by decide +kernel
theorem dX10_minutesToSale_29 : decode cX10_minutesToSale 29 = .ok (.getfield 194, 3) := by decide +kernel
theorem dX10_minutesToSale_32 : decode cX10_minutesToSale 32 = .ok (.iload_n 1, 1) := by decide +kernel
theorem dX10_minutesToSale_33 : decode cX10_minutesToSale 33 = .ok (.aaload, 1) := by decide +kernel
theorem dX10_minutesToSale_34 : decode cX10_minutesToSale 34 = .ok (.astore_n 2, 1) := by decide +kernel
theorem dX10_minutesToSale_35 : decode cX10_minutesToSale 35 = .ok (.iconst 1, 1) := by decide +kernel
theorem dX10_minutesToSale_36 : decode cX10_minutesToSale 36 = .ok (.istore_n 3, 1) := by decide +kernel
theorem dX10_minutesToSale_37 : decode cX10_minutesToSale 37 = .ok (.iload_n 3, 1) := by decide +kernel
theorem dX10_minutesToSale_38 : decode cX10_minutesToSale 38 = .ok (.sipush 500, 3) := by decide +kernel
theorem dX10_minutesToSale_41 : decode cX10_minutesToSale 41 = .ok (.if_icmp .gt 28, 3) := by decide +kernel
theorem dX10_minutesToSale_44 : decode cX10_minutesToSale 44 = .ok (.aload_n 0, 1) := by decide +kernel
theorem dX10_minutesToSale_45 : decode cX10_minutesToSale 45 = .ok (.getfield 16, 3) := by decide +kernel
theorem dX10_minutesToSale_48 : decode cX10_minutesToSale 48 = .ok (.iconst 1, 1) := by decide +kernel
theorem dX10_minutesToSale_49 : decode cX10_minutesToSale 49 = .ok (.invokevirtual 144, 3) := by decide +kernel
theorem dX10_minutesToSale_52 : decode cX10_minutesToSale 52 = .ok (.pop, 1) := by decide +kernel
theorem dX10_minutesToSale_53 : decode cX10_minutesToSale 53 = .ok (.aload_n 2, 1) := by decide +kernel
theorem dX10_minutesToSale_54 : decode cX10_minutesToSale 54 = .ok (.getfield 286, 3) := by decide +kernel
theorem dX10_minutesToSale_57 : decode cX10_minutesToSale 57 = .ok (.iconst 2, 1) := by decide +kernel
theorem dX10_minutesToSale_58 : decode cX10_minutesToSale 58 = .ok (.if_icmp .ne 5, 3) := by decide +kernel
theorem dX10_minutesToSale_61 : decode cX10_minutesToSale 61 = .ok (.iload_n 3, 1) := by decide +kernel
theorem dX10_minutesToSale_62 : decode cX10_minutesToSale 62 = .ok (.ireturn, 1) := by decide +kernel
theorem dX10_minutesToSale_63 : decode cX10_minutesToSale 63 = .ok (.iinc 3 1, 3) := by decide +kernel
theorem dX10_minutesToSale_66 : decode cX10_minutesToSale 66 = .ok (.goto (-29), 3) := by decide +kernel
theorem dX10_minutesToSale_69 : decode cX10_minutesToSale 69 = .ok (.iconst (-1), 1) := by decide +kernel
theorem dX10_minutesToSale_70 : decode cX10_minutesToSale 70 = .ok (.ireturn, 1) := by decide +kernel
theorem dX10_buyerAfter_0 : decode cX10_buyerAfter 0 = .ok (.aload_n 0, 1) := by decide +kernel
theorem dX10_buyerAfter_1 : decode cX10_buyerAfter 1 = .ok (.iload_n 1, 1) := by decide +kernel
theorem dX10_buyerAfter_2 : decode cX10_buyerAfter 2 = .ok (.invokevirtual 161, 3) := by decide +kernel
theorem dX10_buyerAfter_5 : decode cX10_buyerAfter 5 = .ok (.iload_n 2, 1) := by decide +kernel
theorem dX10_buyerAfter_6 : decode cX10_buyerAfter 6 = .ok (.iconst 0, 1) := by decide +kernel
theorem dX10_buyerAfter_7 : decode cX10_buyerAfter 7 = .ok (.sipush 500, 3) := by decide +kernel
theorem dX10_buyerAfter_10 : decode cX10_buyerAfter 10 = .ok (.invokestatic 82, 3) := by decide +kernel
theorem dX10_buyerAfter_13 : decode cX10_buyerAfter 13 = .ok (.aload_n 0, 1) := by decide +kernel
theorem dX10_buyerAfter_14 : decode cX10_buyerAfter 14 = .ok (.aload_n 0, 1) := by decide +kernel
theorem dX10_buyerAfter_15 : decode cX10_buyerAfter 15 = .ok (.getfield 10, 3) := by decide +kernel
theorem dX10_buyerAfter_18 : decode cX10_buyerAfter 18 = .ok (.getfield 203, 3) := by decide +kernel
theorem dX10_buyerAfter_21 : decode cX10_buyerAfter 21 = .ok (.iload_n 2, 1) := by decide +kernel
theorem dX10_buyerAfter_22 : decode cX10_buyerAfter 22 = .ok (.invokevirtual 322, 3) := by decide +kernel
theorem dX10_buyerAfter_25 : decode cX10_buyerAfter 25 = .ok (.aload_n 0, 1) := by decide +kernel
theorem dX10_buyerAfter_26 : decode cX10_buyerAfter 26 = .ok (.getfield 16, 3) := by decide +kernel
theorem dX10_buyerAfter_29 : decode cX10_buyerAfter 29 = .ok (.getfield 194, 3) := by decide +kernel
theorem dX10_buyerAfter_32 : decode cX10_buyerAfter 32 = .ok (.iload_n 1, 1) := by decide +kernel
theorem dX10_buyerAfter_33 : decode cX10_buyerAfter 33 = .ok (.aaload, 1) := by decide +kernel
theorem dX10_buyerAfter_34 : decode cX10_buyerAfter 34 = .ok (.getfield 292, 3) := by decide +kernel
theorem dX10_buyerAfter_37 : decode cX10_buyerAfter 37 = .ok (.ireturn, 1) := by decide +kernel
theorem dX10_sellerCoinsAfter_0 : decode cX10_sellerCoinsAfter 0 = .ok (.iload_n 1, 1) := by decide +kernel
theorem dX10_sellerCoinsAfter_1 : decode cX10_sellerCoinsAfter 1 = .ok (.iconst 0, 1) := by decide +kernel
theorem dX10_sellerCoinsAfter_2 : decode cX10_sellerCoinsAfter 2 = .ok (.sipush 500, 3) := by decide +kernel
theorem dX10_sellerCoinsAfter_5 : decode cX10_sellerCoinsAfter 5 = .ok (.invokestatic 82, 3) := by decide +kernel
theorem dX10_sellerCoinsAfter_8 : decode cX10_sellerCoinsAfter 8 = .ok (.aload_n 0, 1) := by decide +kernel
theorem dX10_sellerCoinsAfter_9 : decode cX10_sellerCoinsAfter 9 = .ok (.aload_n 0, 1) := by decide +kernel
theorem dX10_sellerCoinsAfter_10 : decode cX10_sellerCoinsAfter 10 = .ok (.getfield 10, 3) := by decide +kernel
theorem dX10_sellerCoinsAfter_13 : decode cX10_sellerCoinsAfter 13 = .ok (.getfield 203, 3) := by decide +kernel
theorem dX10_sellerCoinsAfter_16 : decode cX10_sellerCoinsAfter 16 = .ok (.iload_n 1, 1) := by decide +kernel
theorem dX10_sellerCoinsAfter_17 : decode cX10_sellerCoinsAfter 17 = .ok (.invokevirtual 322, 3) := by decide +kernel
theorem dX10_sellerCoinsAfter_20 : decode cX10_sellerCoinsAfter 20 = .ok (.aload_n 0, 1) := by decide +kernel
theorem dX10_sellerCoinsAfter_21 : decode cX10_sellerCoinsAfter 21 = .ok (.getfield 16, 3) := by decide +kernel
theorem dX10_sellerCoinsAfter_24 : decode cX10_sellerCoinsAfter 24 = .ok (.getfield 241, 3) := by decide +kernel
theorem dX10_sellerCoinsAfter_27 : decode cX10_sellerCoinsAfter 27 = .ok (.ireturn, 1) := by decide +kernel
theorem dX10_coinError_0 : decode cX10_coinError 0 = .ok (.aload_n 0, 1) := by decide +kernel
theorem dX10_coinError_1 : decode cX10_coinError 1 = .ok (.getfield 10, 3) := by decide +kernel
theorem dX10_coinError_4 : decode cX10_coinError 4 = .ok (.getfield 325, 3) := by decide +kernel
theorem dX10_coinError_7 : decode cX10_coinError 7 = .ok (.aload_n 0, 1) := by decide +kernel
theorem dX10_coinError_8 : decode cX10_coinError 8 = .ok (.getfield 10, 3) := by decide +kernel
theorem dX10_coinError_11 : decode cX10_coinError 11 = .ok (.invokevirtual 328, 3) := by decide +kernel
theorem dX10_coinError_14 : decode cX10_coinError 14 = .ok (.isub, 1) := by decide +kernel
theorem dX10_coinError_15 : decode cX10_coinError 15 = .ok (.aload_n 0, 1) := by decide +kernel
theorem dX10_coinError_16 : decode cX10_coinError 16 = .ok (.getfield 10, 3) := by decide +kernel
theorem dX10_coinError_19 : decode cX10_coinError 19 = .ok (.getfield 241, 3) := by decide +kernel
theorem dX10_coinError_22 : decode cX10_coinError 22 = .ok (.isub, 1) := by decide +kernel
theorem dX10_coinError_23 : decode cX10_coinError 23 = .ok (.aload_n 0, 1) := by decide +kernel
theorem dX10_coinError_24 : decode cX10_coinError 24 = .ok (.getfield 10, 3) := by decide +kernel
theorem dX10_coinError_27 : decode cX10_coinError 27 = .ok (.getfield 244, 3) := by decide +kernel
theorem dX10_coinError_30 : decode cX10_coinError 30 = .ok (.isub, 1) := by decide +kernel
theorem dX10_coinError_31 : decode cX10_coinError 31 = .ok (.ireturn, 1) := by decide +kernel
theorem dX10_meanLength_0 : decode cX10_meanLength 0 = .ok (.iconst 0, 1) := by decide +kernel
theorem dX10_meanLength_1 : decode cX10_meanLength 1 = .ok (.istore_n 1, 1) := by decide +kernel
theorem dX10_meanLength_2 : decode cX10_meanLength 2 = .ok (.iconst 0, 1) := by decide +kernel
theorem dX10_meanLength_3 : decode cX10_meanLength 3 = .ok (.istore_n 2, 1) := by decide +kernel
theorem dX10_meanLength_4 : decode cX10_meanLength 4 = .ok (.iconst 0, 1) := by decide +kernel
theorem dX10_meanLength_5 : decode cX10_meanLength 5 = .ok (.istore_n 3, 1) := by decide +kernel
theorem dX10_meanLength_6 : decode cX10_meanLength 6 = .ok (.iload_n 3, 1) := by decide +kernel
theorem dX10_meanLength_7 : decode cX10_meanLength 7 = .ok (.aload_n 0, 1) := by decide +kernel
theorem dX10_meanLength_8 : decode cX10_meanLength 8 = .ok (.getfield 10, 3) := by decide +kernel
theorem dX10_meanLength_11 : decode cX10_meanLength 11 = .ok (.getfield 104, 3) := by decide +kernel
theorem dX10_meanLength_14 : decode cX10_meanLength 14 = .ok (.if_icmp .ge 39, 3) := by decide +kernel
theorem dX10_meanLength_17 : decode cX10_meanLength 17 = .ok (.iload_n 1, 1) := by decide +kernel
theorem dX10_meanLength_18 : decode cX10_meanLength 18 = .ok (.aload_n 0, 1) := by decide +kernel
theorem dX10_meanLength_19 : decode cX10_meanLength 19 = .ok (.getfield 10, 3) := by decide +kernel
theorem dX10_meanLength_22 : decode cX10_meanLength 22 = .ok (.getfield 194, 3) := by decide +kernel
theorem dX10_meanLength_25 : decode cX10_meanLength 25 = .ok (.iload_n 3, 1) := by decide +kernel
theorem dX10_meanLength_26 : decode cX10_meanLength 26 = .ok (.aaload, 1) := by decide +kernel
theorem dX10_meanLength_27 : decode cX10_meanLength 27 = .ok (.getfield 277, 3) := by decide +kernel
theorem dX10_meanLength_30 : decode cX10_meanLength 30 = .ok (.iadd, 1) := by decide +kernel
theorem dX10_meanLength_31 : decode cX10_meanLength 31 = .ok (.istore_n 1, 1) := by decide +kernel
theorem dX10_meanLength_32 : decode cX10_meanLength 32 = .ok (.iload_n 2, 1) := by decide +kernel
theorem dX10_meanLength_33 : decode cX10_meanLength 33 = .ok (.aload_n 0, 1) := by decide +kernel
theorem dX10_meanLength_34 : decode cX10_meanLength 34 = .ok (.getfield 10, 3) := by decide +kernel
theorem dX10_meanLength_37 : decode cX10_meanLength 37 = .ok (.getfield 194, 3) := by decide +kernel
theorem dX10_meanLength_40 : decode cX10_meanLength 40 = .ok (.iload_n 3, 1) := by decide +kernel
theorem dX10_meanLength_41 : decode cX10_meanLength 41 = .ok (.aaload, 1) := by decide +kernel
theorem dX10_meanLength_42 : decode cX10_meanLength 42 = .ok (.getfield 266, 3) := by decide +kernel
theorem dX10_meanLength_45 : decode cX10_meanLength 45 = .ok (.iadd, 1) := by decide +kernel
theorem dX10_meanLength_46 : decode cX10_meanLength 46 = .ok (.istore_n 2, 1) := by decide +kernel
theorem dX10_meanLength_47 : decode cX10_meanLength 47 = .ok (.iinc 3 1, 3) := by decide +kernel
theorem dX10_meanLength_50 : decode cX10_meanLength 50 = .ok (.goto (-44), 3) := by decide +kernel
theorem dX10_meanLength_53 : decode cX10_meanLength 53 = .ok (.iload_n 2, 1) := by decide +kernel
theorem dX10_meanLength_54 : decode cX10_meanLength 54 = .ok (.ifCond .ne 7, 3) := by decide +kernel
theorem dX10_meanLength_57 : decode cX10_meanLength 57 = .ok (.dconst 0, 1) := by decide +kernel
theorem dX10_meanLength_58 : decode cX10_meanLength 58 = .ok (.goto 8, 3) := by decide +kernel
theorem dX10_meanLength_61 : decode cX10_meanLength 61 = .ok (.iload_n 1, 1) := by decide +kernel
theorem dX10_meanLength_62 : decode cX10_meanLength 62 = .ok (.i2d, 1) := by decide +kernel
theorem dX10_meanLength_63 : decode cX10_meanLength 63 = .ok (.iload_n 2, 1) := by decide +kernel
theorem dX10_meanLength_64 : decode cX10_meanLength 64 = .ok (.i2d, 1) := by decide +kernel
theorem dX10_meanLength_65 : decode cX10_meanLength 65 = .ok (.ddiv, 1) := by decide +kernel
theorem dX10_meanLength_66 : decode cX10_meanLength 66 = .ok (.dreturn, 1) := by decide +kernel
theorem dX10_soldShare_0 : decode cX10_soldShare 0 = .ok (.iconst 0, 1) := by decide +kernel
theorem dX10_soldShare_1 : decode cX10_soldShare 1 = .ok (.istore_n 1, 1) := by decide +kernel
theorem dX10_soldShare_2 : decode cX10_soldShare 2 = .ok (.iconst 0, 1) := by decide +kernel
theorem dX10_soldShare_3 : decode cX10_soldShare 3 = .ok (.istore_n 2, 1) := by decide +kernel
theorem dX10_soldShare_4 : decode cX10_soldShare 4 = .ok (.iload_n 2, 1) := by decide +kernel
theorem dX10_soldShare_5 : decode cX10_soldShare 5 = .ok (.aload_n 0, 1) := by decide +kernel
theorem dX10_soldShare_6 : decode cX10_soldShare 6 = .ok (.getfield 10, 3) := by decide +kernel
theorem dX10_soldShare_9 : decode cX10_soldShare 9 = .ok (.getfield 104, 3) := by decide +kernel
theorem dX10_soldShare_12 : decode cX10_soldShare 12 = .ok (.if_icmp .ge 28, 3) := by decide +kernel
theorem dX10_soldShare_15 : decode cX10_soldShare 15 = .ok (.aload_n 0, 1) := by decide +kernel
theorem dX10_soldShare_16 : decode cX10_soldShare 16 = .ok (.getfield 10, 3) := by decide +kernel
theorem dX10_soldShare_19 : decode cX10_soldShare 19 = .ok (.getfield 194, 3) := by decide +kernel
theorem dX10_soldShare_22 : decode cX10_soldShare 22 = .ok (.iload_n 2, 1) := by decide +kernel
theorem dX10_soldShare_23 : decode cX10_soldShare 23 = .ok (.aaload, 1) := by decide +kernel
theorem dX10_soldShare_24 : decode cX10_soldShare 24 = .ok (.getfield 286, 3) := by decide +kernel
theorem dX10_soldShare_27 : decode cX10_soldShare 27 = .ok (.iconst 2, 1) := by decide +kernel
theorem dX10_soldShare_28 : decode cX10_soldShare 28 = .ok (.if_icmp .ne 6, 3) := by decide +kernel
theorem dX10_soldShare_31 : decode cX10_soldShare 31 = .ok (.iinc 1 1, 3) := by decide +kernel
theorem dX10_soldShare_34 : decode cX10_soldShare 34 = .ok (.iinc 2 1, 3) := by decide +kernel
theorem dX10_soldShare_37 : decode cX10_soldShare 37 = .ok (.goto (-33), 3) := by decide +kernel
theorem dX10_soldShare_40 : decode cX10_soldShare 40 = .ok (.aload_n 0, 1) := by decide +kernel
theorem dX10_soldShare_41 : decode cX10_soldShare 41 = .ok (.getfield 10, 3) := by decide +kernel
theorem dX10_soldShare_44 : decode cX10_soldShare 44 = .ok (.getfield 104, 3) := by decide +kernel
theorem dX10_soldShare_47 : decode cX10_soldShare 47 = .ok (.ifCond .ne 7, 3) := by decide +kernel
theorem dX10_soldShare_50 : decode cX10_soldShare 50 = .ok (.fconst 0, 1) := by decide +kernel
theorem dX10_soldShare_51 : decode cX10_soldShare 51 = .ok (.goto 14, 3) := by decide +kernel
theorem dX10_soldShare_54 : decode cX10_soldShare 54 = .ok (.iload_n 1, 1) := by decide +kernel
theorem dX10_soldShare_55 : decode cX10_soldShare 55 = .ok (.i2f, 1) := by decide +kernel
theorem dX10_soldShare_56 : decode cX10_soldShare 56 = .ok (.aload_n 0, 1) := by decide +kernel
theorem dX10_soldShare_57 : decode cX10_soldShare 57 = .ok (.getfield 10, 3) := by decide +kernel
theorem dX10_soldShare_60 : decode cX10_soldShare 60 = .ok (.getfield 104, 3) := by decide +kernel
theorem dX10_soldShare_63 : decode cX10_soldShare 63 = .ok (.i2f, 1) := by decide +kernel
theorem dX10_soldShare_64 : decode cX10_soldShare 64 = .ok (.fdiv, 1) := by decide +kernel
theorem dX10_soldShare_65 : decode cX10_soldShare 65 = .ok (.freturn, 1) := by decide +kernel
theorem dX10_foresee_0 : decode cX10_foresee 0 = .ok (.aload_n 0, 1) := by decide +kernel
theorem dX10_foresee_1 : decode cX10_foresee 1 = .ok (.getfield 16, 3) := by decide +kernel
theorem dX10_foresee_4 : decode cX10_foresee 4 = .ok (.aload_n 0, 1) := by decide +kernel
theorem dX10_foresee_5 : decode cX10_foresee 5 = .ok (.getfield 10, 3) := by decide +kernel
theorem dX10_foresee_8 : decode cX10_foresee 8 = .ok (.invokevirtual 101, 3) := by decide +kernel
theorem dX10_foresee_11 : decode cX10_foresee 11 = .ok (.aload_n 0, 1) := by decide +kernel
theorem dX10_foresee_12 : decode cX10_foresee 12 = .ok (.getfield 16, 3) := by decide +kernel
theorem dX10_foresee_15 : decode cX10_foresee 15 = .ok (.iload_n 1, 1) := by decide +kernel
theorem dX10_foresee_16 : decode cX10_foresee 16 = .ok (.putfield 203, 3) := by decide +kernel
theorem dX10_foresee_19 : decode cX10_foresee 19 = .ok (.aload_n 0, 1) := by decide +kernel
theorem dX10_foresee_20 : decode cX10_foresee 20 = .ok (.getfield 16, 3) := by decide +kernel
theorem dX10_foresee_23 : decode cX10_foresee 23 = .ok (.iload_n 2, 1) := by decide +kernel
theorem dX10_foresee_24 : decode cX10_foresee 24 = .ok (.invokevirtual 144, 3) := by decide +kernel
theorem dX10_foresee_27 : decode cX10_foresee 27 = .ok (.pop, 1) := by decide +kernel
theorem dX10_foresee_28 : decode cX10_foresee 28 = .ok (.return_, 1) := by decide +kernel
theorem dX10_barrelAt_0 : decode cX10_barrelAt 0 = .ok (.aload_n 0, 1) := by decide +kernel
theorem dX10_barrelAt_1 : decode cX10_barrelAt 1 = .ok (.iload_n 1, 1) := by decide +kernel
theorem dX10_barrelAt_2 : decode cX10_barrelAt 2 = .ok (.invokevirtual 161, 3) := by decide +kernel
theorem dX10_barrelAt_5 : decode cX10_barrelAt 5 = .ok (.aload_n 0, 1) := by decide +kernel
theorem dX10_barrelAt_6 : decode cX10_barrelAt 6 = .ok (.getfield 10, 3) := by decide +kernel
theorem dX10_barrelAt_9 : decode cX10_barrelAt 9 = .ok (.getfield 194, 3) := by decide +kernel
theorem dX10_barrelAt_12 : decode cX10_barrelAt 12 = .ok (.iload_n 1, 1) := by decide +kernel
theorem dX10_barrelAt_13 : decode cX10_barrelAt 13 = .ok (.aaload, 1) := by decide +kernel
theorem dX10_barrelAt_14 : decode cX10_barrelAt 14 = .ok (.areturn, 1) := by decide +kernel
theorem dX10_buyerAt_0 : decode cX10_buyerAt 0 = .ok (.aload_n 0, 1) := by decide +kernel
theorem dX10_buyerAt_1 : decode cX10_buyerAt 1 = .ok (.iload_n 1, 1) := by decide +kernel
theorem dX10_buyerAt_2 : decode cX10_buyerAt 2 = .ok (.invokevirtual 127, 3) := by decide +kernel
theorem dX10_buyerAt_5 : decode cX10_buyerAt 5 = .ok (.aload_n 0, 1) := by decide +kernel
theorem dX10_buyerAt_6 : decode cX10_buyerAt 6 = .ok (.getfield 10, 3) := by decide +kernel
theorem dX10_buyerAt_9 : decode cX10_buyerAt 9 = .ok (.getfield 185, 3) := by decide +kernel
theorem dX10_buyerAt_12 : decode cX10_buyerAt 12 = .ok (.iload_n 1, 1) := by decide +kernel
theorem dX10_buyerAt_13 : decode cX10_buyerAt 13 = .ok (.aaload, 1) := by decide +kernel
theorem dX10_buyerAt_14 : decode cX10_buyerAt 14 = .ok (.areturn, 1) := by decide +kernel
theorem dX10_requireBarrel_0 : decode cX10_requireBarrel 0 = .ok (.aload_n 0, 1) := by decide +kernel
theorem dX10_requireBarrel_1 : decode cX10_requireBarrel 1 = .ok (.getfield 10, 3) := by decide +kernel
theorem dX10_requireBarrel_4 : decode cX10_requireBarrel 4 = .ok (.iload_n 1, 1) := by decide +kernel
theorem dX10_requireBarrel_5 : decode cX10_requireBarrel 5 = .ok (.invokevirtual 351, 3) := by decide +kernel
theorem dX10_requireBarrel_8 : decode cX10_requireBarrel 8 = .ok (.ifCond .ne 14, 3) := by decide +kernel
theorem dX10_requireBarrel_11 : decode cX10_requireBarrel 11 = .ok (.new 269, 3) := by decide +kernel
theorem dX10_requireBarrel_14 : decode cX10_requireBarrel 14 = .ok (.dup, 1) := by decide +kernel
theorem dX10_requireBarrel_15 : decode cX10_requireBarrel 15 = .ok (.ldc_w 354, 3) := by decide +kernel
theorem dX10_requireBarrel_18 : decode cX10_requireBarrel 18 = .ok (.invokespecial 273, 3) := by decide +kernel
theorem dX10_requireBarrel_21 : decode cX10_requireBarrel 21 = .ok (.athrow, 1) := by decide +kernel
theorem dX10_requireBarrel_22 : decode cX10_requireBarrel 22 = .ok (.return_, 1) := by decide +kernel
theorem dX10_requireBuyer_0 : decode cX10_requireBuyer 0 = .ok (.aload_n 0, 1) := by decide +kernel
theorem dX10_requireBuyer_1 : decode cX10_requireBuyer 1 = .ok (.getfield 10, 3) := by decide +kernel
theorem dX10_requireBuyer_4 : decode cX10_requireBuyer 4 = .ok (.iload_n 1, 1) := by decide +kernel
theorem dX10_requireBuyer_5 : decode cX10_requireBuyer 5 = .ok (.invokevirtual 356, 3) := by decide +kernel
theorem dX10_requireBuyer_8 : decode cX10_requireBuyer 8 = .ok (.ifCond .ne 14, 3) := by decide +kernel
theorem dX10_requireBuyer_11 : decode cX10_requireBuyer 11 = .ok (.new 269, 3) := by decide +kernel
theorem dX10_requireBuyer_14 : decode cX10_requireBuyer 14 = .ok (.dup, 1) := by decide +kernel
theorem dX10_requireBuyer_15 : decode cX10_requireBuyer 15 = .ok (.ldc_w 359, 3) := by decide +kernel
theorem dX10_requireBuyer_18 : decode cX10_requireBuyer 18 = .ok (.invokespecial 273, 3) := by decide +kernel
theorem dX10_requireBuyer_21 : decode cX10_requireBuyer 21 = .ok (.athrow, 1) := by decide +kernel
theorem dX10_requireBuyer_22 : decode cX10_requireBuyer 22 = .ok (.return_, 1) := by decide +kernel
theorem dX10_requireRange_0 : decode cX10_requireRange 0 = .ok (.iload_n 0, 1) := by decide +kernel
theorem dX10_requireRange_1 : decode cX10_requireRange 1 = .ok (.iload_n 1, 1) := by decide +kernel
theorem dX10_requireRange_2 : decode cX10_requireRange 2 = .ok (.if_icmp .lt 8, 3) := by decide +kernel
theorem dX10_requireRange_5 : decode cX10_requireRange 5 = .ok (.iload_n 0, 1) := by decide +kernel
theorem dX10_requireRange_6 : decode cX10_requireRange 6 = .ok (.iload_n 2, 1) := by decide +kernel
theorem dX10_requireRange_7 : decode cX10_requireRange 7 = .ok (.if_icmp .le 14, 3) := by decide +kernel
theorem dX10_requireRange_10 : decode cX10_requireRange 10 = .ok (.new 92, 3) := by decide +kernel
theorem dX10_requireRange_13 : decode cX10_requireRange 13 = .ok (.dup, 1) := by decide +kernel
theorem dX10_requireRange_14 : decode cX10_requireRange 14 = .ok (.ldc_w 361, 3) := by decide +kernel
theorem dX10_requireRange_17 : decode cX10_requireRange 17 = .ok (.invokespecial 96, 3) := by decide +kernel
theorem dX10_requireRange_20 : decode cX10_requireRange 20 = .ok (.athrow, 1) := by decide +kernel
theorem dX10_requireRange_21 : decode cX10_requireRange 21 = .ok (.return_, 1) := by decide +kernel
theorem dX10_requireState_0 : decode cX10_requireState 0 = .ok (.iload_n 0, 1) := by decide +kernel
theorem dX10_requireState_1 : decode cX10_requireState 1 = .ok (.ifCond .ne 14, 3) := by decide +kernel
theorem dX10_requireState_4 : decode cX10_requireState 4 = .ok (.new 72, 3) := by decide +kernel
theorem dX10_requireState_7 : decode cX10_requireState 7 = .ok (.dup, 1) := by decide +kernel
theorem dX10_requireState_8 : decode cX10_requireState 8 = .ok (.ldc_w 363, 3) := by decide +kernel
theorem dX10_requireState_11 : decode cX10_requireState 11 = .ok (.invokespecial 76, 3) := by decide +kernel
theorem dX10_requireState_14 : decode cX10_requireState 14 = .ok (.athrow, 1) := by decide +kernel
theorem dX10_requireState_15 : decode cX10_requireState 15 = .ok (.return_, 1) := by decide +kernel
end
section
/-! OWN FRAME: the heap as a map from addresses to shapes, with one memory of ints and one of other values; a walk's place as (cells, slots, heap, pc, locals, stack) -/
/-- a cell's shape: an object (number of its class, its places) or an array (element type, length, its places); a place holds an int of the memory (none), another value of the memory (some none), or always the same value (some (some v)) -/
abbrev ow_Sh : Type := (Nat × (Nat → Option (Option Value))) ⊕ (FieldType × Nat × (Nat → Option (Option Value)))
/-- shapes, ints, other values, the heap's size -/
abbrev ow_H : Type := (Nat → Option ow_Sh) × (Nat → Nat → Int32) × (Nat → Nat → Value) × Nat
def ow_v (κ : Option (Option Value)) (i : Int32) (w : Value) : Value := match κ with
  | none => .int i
  | some none => w
  | some (some v) => v
def ow_u {α : Type} (f : Nat → Nat → α) (a k : Nat) (x : α) : Nat → Nat → α := fun b j => if b = a then (if j = k then x else f b j) else f b j
theorem ow_u_s {α : Type} (f : Nat → Nat → α) (a k : Nat) (x : α) : ow_u f a k x a k = x := by simp [ow_u]
theorem ow_u_k {α : Type} (f : Nat → Nat → α) (a k : Nat) (x : α) {j : Nat} (h : j ≠ k) (b : Nat) : ow_u f a k x b j = f b j := by simp [ow_u, h]
theorem ow_u_a {α : Type} (f : Nat → Nat → α) (a k : Nat) (x : α) {b : Nat} (h : b ≠ a) (j : Nat) : ow_u f a k x b j = f b j := by simp [ow_u, h]
/-- a heap with an int written -/
def ow_pI (h : ow_H) (a k : Nat) (x : Int32) : ow_H := (h.1, ow_u h.2.1 a k x, h.2.2.1, h.2.2.2)
def ow_pV (h : ow_H) (a k : Nat) (x : Value) : ow_H := (h.1, h.2.1, ow_u h.2.2.1 a k x, h.2.2.2)
def ow_cl : List vw_C := [(RX8, TX8, 3), (RX1, TX1, 10), (RX2, TX2, 5), (RX3, TX3, 5), (RX4, TX4, 3), (RX5, TX5, 6), (RX6, TX6, 17), (RX7, TX7, 7), (RX8, TX8, 3), (RX8, TX8, 3), (RX10, TX10, 8), (RJ0, TJ0, 4), (RJ4, TJ4, 4)]
/-- private methods of a class above, of an object made: proved at the start from words that calls don't keep -/
def ow_T2 : List Cond := [.selects "java/lang/StringBuilder" ⟨"java/lang/AbstractStringBuilder", "newCapacity", "(I)I"⟩ ⟨"java/lang/AbstractStringBuilder", "newCapacity", "(I)I"⟩, .selects "java/lang/StringBuilder" ⟨"java/lang/AbstractStringBuilder", "ensureCapacityInternal", "(I)V"⟩ ⟨"java/lang/AbstractStringBuilder", "ensureCapacityInternal", "(I)V"⟩]
def ow_T : List Cond := ow_T2 ++ lw_tbl.filter goodWord
theorem ow_T_2 {w : Cond} (i : Nat) (h : ow_T2[i]? = some w) : w ∈ ow_T := List.mem_append_left _ (List.mem_of_getElem? h)
theorem ow_T_in {w : Cond} (i : Nat) (h : tables_1[i]? = some w) (hg : goodWord w = true) : w ∈ ow_T :=
  List.mem_append_right _ (List.mem_filter.mpr ⟨List.mem_append_right _ (List.mem_of_getElem? h), hg⟩)
theorem ow_T_sel {w : Cond} (i : Nat) (h : (k2_sels lw_privs)[i]? = some w) (hg : goodWord w = true) : w ∈ ow_T :=
  List.mem_append_right _ (List.mem_filter.mpr ⟨List.mem_append_left _ (List.mem_of_getElem? h), hg⟩)
theorem ow_T_good : GoodIn ow_T ow_T := fun w h => ⟨h, by
  rcases List.mem_append.mp h with h | h
  · exact good_of_word (List.all_eq_true.mp (show ow_T2.all goodWord = true by decide) w h)
  · exact good_of_word (List.mem_filter.mp h).2⟩
/-- several words by their places -/
theorem ow_T_ins {ws : List Cond} (ps : List Nat) (hp : ws = ps.filterMap (fun i => tables_1[i]?)) (hg : ws.all goodWord = true) : ∀ w ∈ ws, w ∈ ow_T := by
  intro w hw
  have h1 := List.all_eq_true.mp hg w hw
  rw [hp] at hw
  obtain ⟨i, -, hi⟩ := List.mem_filterMap.mp hw
  exact ow_T_in i hi h1
/-- what the rows ask of a class of the list -/
def ow_ok (r : vw_C) : Prop := (∀ w ∈ u_ws r.1 r.2.1 r.2.2, w ∈ ow_T) ∧ (∃ ty : Nat → FieldType, ∀ k, k < r.2.2 → parseFieldDescriptor (r.2.1 k).2.2.1 = some (ty k)) ∧ (∀ a, a < r.2.2 → ∀ b, b < r.2.2 → a ≠ b → (r.2.1 a).2.1 ≠ (r.2.1 b).2.1)
theorem ow_ok1 : ow_ok (RX1, TX1, 10) := ⟨ow_T_ins [133, 135, 137, 139, 141, 143, 145, 147, 149, 151] (by decide +kernel) (by decide +kernel), ⟨tyX1, tyX1_ok⟩, nmX1⟩
theorem ow_ok2 : ow_ok (RX2, TX2, 5) := ⟨ow_T_ins [86, 88, 90, 92, 94] (by decide +kernel) (by decide +kernel), ⟨tyX2, tyX2_ok⟩, nmX2⟩
theorem ow_ok3 : ow_ok (RX3, TX3, 5) := ⟨ow_T_ins [294, 296, 298, 300, 302] (by decide +kernel) (by decide +kernel), ⟨tyX3, tyX3_ok⟩, nmX3⟩
theorem ow_ok4 : ow_ok (RX4, TX4, 3) := ⟨ow_T_ins [237, 239, 241] (by decide +kernel) (by decide +kernel), ⟨tyX4, tyX4_ok⟩, nmX4⟩
theorem ow_ok5 : ow_ok (RX5, TX5, 6) := ⟨ow_T_ins [266, 268, 270, 272, 274, 276] (by decide +kernel) (by decide +kernel), ⟨tyX5, tyX5_ok⟩, nmX5⟩
theorem ow_ok6 : ow_ok (RX6, TX6, 17) := ⟨ow_T_ins [190, 192, 194, 196, 198, 200, 202, 204, 206, 208, 210, 212, 214, 216, 218, 220, 222] (by decide +kernel) (by decide +kernel), ⟨tyX6, tyX6_ok⟩, nmX6⟩
theorem ow_ok7 : ow_ok (RX7, TX7, 7) := ⟨ow_T_ins [312, 314, 316, 318, 320, 322, 324] (by decide +kernel) (by decide +kernel), ⟨tyX7, tyX7_ok⟩, nmX7⟩
theorem ow_ok8 : ow_ok (RX8, TX8, 3) := ⟨ow_T_ins [57, 59, 61] (by decide +kernel) (by decide +kernel), ⟨tyX8, tyX8_ok⟩, nmX8⟩
theorem ow_ok10 : ow_ok (RX10, TX10, 8) := ⟨ow_T_ins [542, 544, 546, 548, 550, 552, 554, 556] (by decide +kernel) (by decide +kernel), ⟨tyX10, tyX10_ok⟩, nmX10⟩
theorem ow_ok12 : ow_ok (RJ4, TJ4, 4) := ⟨ow_T_ins [349, 351, 353, 355] (by decide +kernel) (by decide +kernel), ⟨tyJ4, tyJ4_ok⟩, nmJ4⟩
theorem ow_ok11 : ow_ok (RJ0, TJ0, 4) := ⟨ow_T_ins [752, 754, 756, 758] (by decide +kernel) (by decide +kernel), ⟨tyJ0, tyJ0_ok⟩, nmJ0⟩
def ow_at (D : va_G) (U : State) (h : ow_H) (H : Heap) (a : Nat) (sh : ow_Sh) : Prop := match sh with
  | .inl o => ∃ r : vw_C, ow_cl[o.1]? = some r ∧ t_OB a (D.1 o.1) r.2.2 (D.2 o.1) H (fun k => ow_v (o.2 k) (h.2.1 a k) (h.2.2.1 a k))
  | .inr x => ∃ cA : ClassId, H[a]? = some (arrV cA x.2.1 (fun j => ow_v (x.2.2 j) (h.2.1 a j) (h.2.2.1 a j))) ∧ ArrOfT U cA x.1 ∧ va_RA U cA x.1
def ow_R (D : va_G) (U : State) (h : ow_H) (H : Heap) : Prop := (∀ (a : Nat) (sh : ow_Sh), h.1 a = some sh → ow_at D U h H a sh) ∧ H.size = h.2.2.2
theorem ow_R.moved {D : va_G} {u U : State} {h : ow_H} {H : Heap} (hvm : u.vm.Alike U.vm) (hR : ow_R D u h H) : ow_R D U h H := by
  refine ⟨fun a sh hs => ?_, hR.2⟩
  have h1 := hR.1 a sh hs
  cases sh with
  | inl o => exact h1
  | inr x =>
    obtain ⟨cA, g1, g2, g3⟩ := h1
    exact ⟨cA, g1, arrOfT_moved hvm g2, g3.moved hvm⟩
/-- a cell that was written; all others as they were -/
theorem ow_R.wr {D : va_G} {U : State} {h : ow_H} {H H1 : Heap} (hR : ow_R D U h H) {I : Nat → Nat → Int32} {V : Nat → Nat → Value} {a : Nat} {sh : ow_Sh} (hS : h.1 a = some sh) (z : H1.size = H.size) (oq : ∀ q : Nat, q ≠ a → H1[q]? = H[q]?)
    (hI : ∀ b j, b ≠ a → I b j = h.2.1 b j) (hV : ∀ b j, b ≠ a → V b j = h.2.2.1 b j) (hat : ow_at D U (h.1, I, V, h.2.2.2) H1 a sh) : ow_R D U (h.1, I, V, h.2.2.2) H1 := by
  refine ⟨fun b s2 hs => ?_, z.trans hR.2⟩
  by_cases e : b = a
  · subst e
    cases hS.symm.trans hs
    exact hat
  · have h1 := hR.1 b s2 hs
    cases s2 with
    | inl o =>
      obtain ⟨r, g1, g2⟩ := h1
      exact ⟨r, g1, (g2.kept (oq b e)).to (fun k _ => by show ow_v _ _ _ = ow_v _ (I b k) (V b k); rw [hI b k e, hV b k e])⟩
    | inr x =>
      obtain ⟨cA, g1, g2, g3⟩ := h1
      refine ⟨cA, ?_, g2, g3⟩
      have e2 : (fun j => ow_v (x.2.2 j) (h.2.1 b j) (h.2.2.1 b j)) = (fun j => ow_v (x.2.2 j) (I b j) (V b j)) := by
        funext j
        rw [hI b j e, hV b j e]
      show H1[b]? = some (arrV cA x.2.1 (fun j => ow_v (x.2.2 j) (I b j) (V b j)))
      rw [oq b e, g1, e2]
abbrev ow_X : Type := Program × Launch × Env × Room × State × MethodId × Array Value × List Frame × Method × Code × (State → Prop) × va_G × (Nat → Prop)
/-- the walk stands at pc, over this heap, these locals (as far as listed), this stack, with so many cells and slots made -/
def ow_W (X : ow_X) (cs sl : Nat) (h : ow_H) (pc : Nat) (lv : List (Nat × Value)) (st : List Value) : Prop := match X with
  | (p, l, e, R, s, m, args, below, meth, c, Q, D, A) => ∀ (H : Heap) (locs : List Loc) (ls : Array Slot), ow_R D s h H → (∀ (q : Nat) (sh : ow_Sh), h.1 q = some sh → A q) → va_S A s.heap H locs → lv_has ls c.maxLocals lv → W p l e R s m args below meth c H locs cs sl Q (F0 m pc ls st)
/-- what holds all along a walk: the machine, the code, the class, the tables' words, the classes of the list, the room -/
def ow_E (X : ow_X) (own : String) (cc : ByteArray) (nL : Nat) (R0 : Room) : Prop := match X with
  | (p, _, _, R, s, m, args, _, _, c, _, D, A) => p.tables.exec = Jvm.exec ∧ c.code = cc ∧ s.vm.findClass own = some m.cls ∧ (∀ w ∈ ow_T, w.before args s = true) ∧ va_K D ow_cl [] s ∧ (∀ q, s.heap.size ≤ q → A q) ∧ c.maxLocals = nL ∧ R = R0
def ow_Dm (h : ow_H) : Nat → Prop := fun q => (∃ sh, h.1 q = some sh) ∨ h.2.2.2 ≤ q
/-- a contract's start and end -/
def ow_Pc (D : va_G) (as : List Value) (h : ow_H) : Array Value → State → Prop := fun v U => v = as.toArray ∧ ow_R D U h U.heap ∧ va_K D ow_cl [] U
def ow_Qc (D : va_G) (K : Option Value → ow_H → Prop) (h : ow_H) : Array Value → State → Outcome → State → Prop := fun _ st o t => (∃ (r : Option Value) (h1 : ow_H), o = .returned r ∧ K r h1 ∧ ow_R D t h1 t.heap ∧ (∀ (q : Nat) (sh : ow_Sh), h1.1 q = some sh → ow_Dm h q)) ∧ va_F (ow_Dm h) st t
/-- how the walk ends -/
def ow_F (X : ow_X) (h0 : ow_H) (K : Option Value → ow_H → Prop) (mc ms : Nat) (ret : Option FieldType) (nm : String) : Prop := match X with
  | (_, _, _, _, s, _, args, below, meth, _, Q, D, A) => Q = MQ below (ow_Qc D K h0) args s mc ms (ow_Dm h0) ∧ A = ow_Dm h0 ∧ meth.sig.returnType = ret ∧ meth.locks = false ∧ meth.name = nm
def ow_rm (k mc ms : Nat) : Room := { frames := k, cells := mc, slots := ms, locals := 40 * k }
/-- A METHOD'S CONTRACT: from every heap h and arguments with P, it returns, with K of them, of its answer, and of the heap behind it; k: frames beneath; mc, ms: what it makes -/
def ow_C (y : MethodName) (cy : ByteArray) (n : Nat) (ret : Option FieldType) (k mc ms : Nat) (P : List Value → ow_H → Prop) (K : List Value → ow_H → Option Value → ow_H → Prop) : Prop :=
  ∀ (l : Launch) (D : va_G) (as : List Value) (h : ow_H), P as h → Met l y (Cond.code y cy n ret :: ow_T) (ow_rm k mc ms) (ow_Pc D as h) (ow_Qc D (K as h) h) mc ms (ow_Dm h)
theorem ow_C.of {y : MethodName} {cy : ByteArray} {n : Nat} {ret : Option FieldType} {k mc ms : Nat} {P : List Value → ow_H → Prop} {K : List Value → ow_H → Option Value → ow_H → Prop} (hy : plainName y.cls = true)
    (body : ∀ (X : ow_X) (as : List Value) (h : ow_H), P as h → ow_E X y.cls cy n (ow_rm k mc ms) → ow_F X h (K as h) mc ms ret y.name → (lg_sl as).length ≤ n ∧ ow_W X 0 0 h 0 (lv_args 0 as) []) : ow_C y cy n ret k mc ms P K := by
  intro l D as h hP
  refine Met.ofW (cc := cy) (maxL := n) (ret := ret) hy rfl ?_
  intro p e s m args below meth c s₁ B hml hv
  obtain ⟨rfl, hR, hK⟩ := hv
  have hx := B.exec
  have hb := B.bytes
  have hr := B.returns
  have hts := atoms_spec (ws := Cond.code y cy n ret :: ow_T) B.pre
  have hown : s.vm.findClass y.cls = some m.cls := findClass_of_methodNamed B.named
  have hlocks := B.notSynchronized
  have hnm : meth.name = y.name := (name_of_methodNamed B.named B.method).1
  obtain ⟨hlen, hw⟩ := body (p, l, e, ow_rm k mc ms, s, m, as.toArray, below, meth, c, MQ below (ow_Qc D (K as h) h) as.toArray s mc ms (ow_Dm h), D, ow_Dm h) as h hP ⟨hx, hb, hown, fun w hw => hts w (List.mem_cons_of_mem _ hw), hK, fun q hq => Or.inr (by rw [← hR.2]; exact hq), hml, rfl⟩ ⟨rfl, rfl, hr, hlocks, hnm⟩
  have hl := lv_entry as (n := n) hlen
  rw [lg_entry_eq]
  exact hw s.heap [] _ hR (fun q sh hq => Or.inl ⟨sh, hq⟩) va_S.rf (by rw [hml]; exact hl)
/-- the locals: the listed value of a place; a value stored -/
def ow_g (lv : List (Nat × Value)) (i : Nat) : Option Value := match lv with
  | [] => none
  | q :: r => if q.1 = i then some q.2 else ow_g r i
def ow_s (lv : List (Nat × Value)) (i : Nat) (v : Value) : List (Nat × Value) := (i, v) :: lv.filter (fun q => !(q.1 == i) && !(q.1 + 1 == i && q.2.category == 2))
def ow_s2 (lv : List (Nat × Value)) (i : Nat) (v : Value) : List (Nat × Value) := (i, v) :: lv.filter (fun q => !(q.1 == i) && (!(q.1 == i + 1) && !(q.1 + 1 == i && q.2.category == 2)))
theorem ow_g_in {i : Nat} {v : Value} : ∀ {lv : List (Nat × Value)}, ow_g lv i = some v → (i, v) ∈ lv
  | [], h => by simp [ow_g] at h
  | q :: r, h => by
    unfold ow_g at h
    by_cases e : q.1 = i
    · rw [if_pos e] at h
      cases h
      subst e
      exact List.mem_cons_self
    · rw [if_neg e] at h
      exact List.mem_cons_of_mem _ (ow_g_in h)
section OW
variable {X : ow_X} {cs sl : Nat} {h : ow_H} {pc : Nat} {lv : List (Nat × Value)} {st : List Value} {own : String} {cc : ByteArray} {nL : Nat} {R0 : Room}
/-- less of the locals is asked -/
theorem or_lv (lv' : List (Nat × Value)) (hs : lv'.map (fun q => ow_g lv q.1) = lv'.map (fun q => some q.2)) (k : ow_W X cs sl h pc lv' st) : ow_W X cs sl h pc lv st := by
  obtain ⟨p, l, e, R, s, m, args, below, meth, c, Q, D, A⟩ := X
  intro H locs ls hR hD hS hl
  refine k H locs ls hR hD hS ⟨hl.1, hl.2.1, fun q hq => hl.2.2 q ?_⟩
  have h1 : ∀ (l1 : List (Nat × Value)), l1.map (fun q => ow_g lv q.1) = l1.map (fun q => some q.2) → ∀ q ∈ l1, ow_g lv q.1 = some q.2 := by
    intro l1
    induction l1 with
    | nil => intro _ q hq; cases hq
    | cons a r ih =>
      intro h q hq
      simp only [List.map_cons, List.cons.injEq] at h
      rcases List.mem_cons.mp hq with rfl | hq
      · exact h.1
      · exact ih h.2 q hq
  exact ow_g_in (h1 lv' hs q hq)
/-- a field's row: its place in the class's table -/
def ow_fl (own : String) (idx ci k : Nat) : Prop := ∃ r : vw_C, ow_cl[ci]? = some r ∧ k < r.2.2 ∧ Cond.fieldLink own idx (r.2.1 k).1 (r.2.1 k).2.1 (r.2.1 k).2.2.1 ∈ ow_T ∧ ow_ok r
theorem or_get {idx ci k a : Nat} {κ : Nat → Option (Option Value)} (E : ow_E X own cc nL R0) (f : ow_fl own idx ci k) (d : decode cc pc = .ok (.getfield idx, 3)) (hS : h.1 a = some (.inl (ci, κ)))
    (kk : ow_W X cs sl h (pc + 3) lv (ow_v (κ k) (h.2.1 a k) (h.2.2.1 a k) :: st)) : ow_W X cs sl h pc lv (.ref a :: st) := by
  obtain ⟨p, l, e, R, s, m, args, below, meth, c, Q, D, A⟩ := X
  obtain ⟨hx, hb, hown, hts, hK, -⟩ := E
  obtain ⟨r, hc, hkN, hlw, hin, -⟩ := f
  intro H locs ls hR hD hSS hl
  obtain ⟨r', h1, cell, q1, q2, q3, q4⟩ := hR.1 a _ hS
  cases hc.symm.trans h1
  obtain ⟨hSl, hfc, kC, hkC, hkind⟩ := hK.1 ci _ hc
  obtain ⟨cf, kf, fi, f, hi, hsl⟩ := hSl k hkN
  refine W.getf hx hb hown (hts _ hlw) hi (u_facts hfc hkC (u_lays hts hin hkN) hi).1 q1 (by rw [q3]; exact fun h => by cases h) (v := ow_v (κ k) (h.2.1 a k) (h.2.2.1 a k)) ?_ rfl rfl d (kk H locs ls hR hD hSS hl)
  rw [hsl, q4 k hkN]
theorem or_getI {idx ci k a : Nat} {κ : Nat → Option (Option Value)} (E : ow_E X own cc nL R0) (f : ow_fl own idx ci k) (d : decode cc pc = .ok (.getfield idx, 3)) (hS : h.1 a = some (.inl (ci, κ))) (hk : κ k = none)
    (kk : ow_W X cs sl h (pc + 3) lv (.int (h.2.1 a k) :: st)) : ow_W X cs sl h pc lv (.ref a :: st) := or_get E f d hS (by rw [hk]; exact kk)
theorem or_getC {idx ci k a : Nat} {κ : Nat → Option (Option Value)} {v : Value} (E : ow_E X own cc nL R0) (f : ow_fl own idx ci k) (d : decode cc pc = .ok (.getfield idx, 3)) (hS : h.1 a = some (.inl (ci, κ))) (hk : κ k = some (some v))
    (kk : ow_W X cs sl h (pc + 3) lv (v :: st)) : ow_W X cs sl h pc lv (.ref a :: st) := or_get E f d hS (by rw [hk]; exact kk)
theorem or_getV {idx ci k a : Nat} {κ : Nat → Option (Option Value)} (E : ow_E X own cc nL R0) (f : ow_fl own idx ci k) (d : decode cc pc = .ok (.getfield idx, 3)) (hS : h.1 a = some (.inl (ci, κ))) (hk : κ k = some none)
    (kk : ow_W X cs sl h (pc + 3) lv (h.2.2.1 a k :: st)) : ow_W X cs sl h pc lv (.ref a :: st) := or_get E f d hS (by rw [hk]; exact kk)
theorem or_putI {idx ci k a : Nat} {κ : Nat → Option (Option Value)} {x : Int32} (E : ow_E X own cc nL R0) (f : ow_fl own idx ci k) (fw : ∃ r : vw_C, ow_cl[ci]? = some r ∧ (r.2.1 k).2.2.2 = false ∧ parseFieldDescriptor (r.2.1 k).2.2.1 = some .int) (d : decode cc pc = .ok (.putfield idx, 3)) (hS : h.1 a = some (.inl (ci, κ))) (hk : κ k = none)
    (kk : ow_W X cs sl (ow_pI h a k x) (pc + 3) lv st) : ow_W X cs sl h pc lv (.int x :: .ref a :: st) := by
  obtain ⟨p, l, e, R, s, m, args, below, meth, c, Q, D, A⟩ := X
  obtain ⟨hx, hb, hown, hts, hK, -⟩ := E
  obtain ⟨r, hc, hkN, hlw, hin, ⟨ty, hty⟩, hnm⟩ := f
  obtain ⟨r2, hc2, hfin, hd⟩ := fw
  cases hc.symm.trans hc2
  intro H locs ls hR hD hSS hl
  obtain ⟨r', h1, cell, q1, q2, q3, q4⟩ := hR.1 a _ hS
  cases hc.symm.trans h1
  have hap := va_apart (own := own) hts hin ty hty hnm hK (ci := ci) hc
  obtain ⟨hSl, hfc, kC, hkC, hkind⟩ := hK.1 ci _ hc
  obtain ⟨cf, kf, fi, f, hi, hsl⟩ := hSl k hkN
  have hlay := hts _ (hin _ (u_in_lay hkN))
  unfold u_lay at hlay
  rw [if_neg (by rw [hfin]; decide)] at hlay
  have hst := (u_facts hfc hkC (u_lays hts hin hkN) hi).1
  have h6 := u_store (v := .int x) hfc hkC hkind hlay hi hd rfl rfl
  refine W.putK hx hb (f := f) ⟨hown, hts _ hlw, ⟨_, _, _, hi⟩, hst⟩ (by rw [q2]; exact h6) q1 q3 (by rw [hsl]; exact k2_hasslot (q4 k hkN)) rfl rfl d fun H1 e1 e2 e3 => ?_
  rw [hsl] at e1 ⊢
  refine kk H1 _ ls (hR.wr hS e2 e3 (fun b j hb => ow_u_a _ _ _ _ hb j) (fun _ _ _ => rfl) ⟨_, hc, ?_⟩) hD (hSS.put e2 e3 (hD a _ hS)) hl
  refine t_OB.to (V := updV (fun k => ow_v (κ k) (h.2.1 a k) (h.2.2.1 a k)) k (.int x)) ⟨_, e1, q2, q3, t_set q4 hap hkN (.int x)⟩ (fun j _ => ?_)
  by_cases hj : j = k
  · subst hj
    show updV _ _ _ _ = ow_v (κ j) (ow_u h.2.1 a j x a j) _
    rw [ow_u_s, hk]
    simp [updV, ow_v]
  · show updV _ _ _ _ = ow_v (κ j) (ow_u h.2.1 a k x a j) _
    rw [ow_u_k _ _ _ _ hj]
    simp [updV, hj]
/-- an index within its row -/
theorem ow_ix {x : Int32} {j n : Nat} (hx : x = nI j) (hj : j < n) (hn : n < 2 ^ 31) : ¬ (x < 0 ∨ n ≤ x.toNatClampNeg) ∧ x.toNatClampNeg = j := by
  subst hx
  exact ⟨vp_in_nI hj hn, nI_clamp (by omega)⟩
theorem or_iconst {n : Int} {v : Int32} (E : ow_E X own cc nL R0) (hv : Int32.ofInt n = v) (d : decode cc pc = .ok (.iconst n, 1)) (k : ow_W X cs sl h (pc + 1) lv (.int v :: st)) : ow_W X cs sl h pc lv (st) := by
  obtain ⟨p, l, e, R, s, m, args, below, meth, c, Q, D, A⟩ := X
  obtain ⟨hx, hb, hown, hts, hK, hA, hml, hR0⟩ := E
  intro H locs ls hR hD hSS hl
  exact lv_iconst hx hb d hv (k H locs ls hR hD hSS hl)
theorem or_bipush {n : Int} {v : Int32} (E : ow_E X own cc nL R0) (hv : (Int8.ofInt n).toInt32 = v) (d : decode cc pc = .ok (.bipush n, 2)) (k : ow_W X cs sl h (pc + 2) lv (.int v :: st)) : ow_W X cs sl h pc lv (st) := by
  obtain ⟨p, l, e, R, s, m, args, below, meth, c, Q, D, A⟩ := X
  obtain ⟨hx, hb, hown, hts, hK, hA, hml, hR0⟩ := E
  intro H locs ls hR hD hSS hl
  exact lv_bipush hx hb d hv (k H locs ls hR hD hSS hl)
theorem or_sipush {n : Int} {v : Int32} (E : ow_E X own cc nL R0) (hv : (Int16.ofInt n).toInt32 = v) (d : decode cc pc = .ok (.sipush n, 3)) (k : ow_W X cs sl h (pc + 3) lv (.int v :: st)) : ow_W X cs sl h pc lv (st) := by
  obtain ⟨p, l, e, R, s, m, args, below, meth, c, Q, D, A⟩ := X
  obtain ⟨hx, hb, hown, hts, hK, hA, hml, hR0⟩ := E
  intro H locs ls hR hD hSS hl
  exact lv_sipush hx hb d hv (k H locs ls hR hD hSS hl)
theorem or_iload_n {j : Fin 4} {x : Int32} (E : ow_E X own cc nL R0) (hg : ow_g lv (j : Nat) = some (.int x)) (d : decode cc pc = .ok (.iload_n j, 1)) (k : ow_W X cs sl h (pc + 1) lv (.int x :: st)) : ow_W X cs sl h pc lv (st) := by
  obtain ⟨p, l, e, R, s, m, args, below, meth, c, Q, D, A⟩ := X
  obtain ⟨hx, hb, hown, hts, hK, hA, hml, hR0⟩ := E
  intro H locs ls hR hD hSS hl
  exact lv_iload_n hx hb d rfl (hl.2.2 _ (ow_g_in hg)) (k H locs ls hR hD hSS hl)
theorem or_iload {j : Nat} {x : Int32} (E : ow_E X own cc nL R0) (hg : ow_g lv j = some (.int x)) (d : decode cc pc = .ok (.iload j, 2)) (k : ow_W X cs sl h (pc + 2) lv (.int x :: st)) : ow_W X cs sl h pc lv (st) := by
  obtain ⟨p, l, e, R, s, m, args, below, meth, c, Q, D, A⟩ := X
  obtain ⟨hx, hb, hown, hts, hK, hA, hml, hR0⟩ := E
  intro H locs ls hR hD hSS hl
  exact lv_iload hx hb d (hl.2.2 _ (ow_g_in hg)) (k H locs ls hR hD hSS hl)
theorem or_aload_n {j : Fin 4} {x : Nat} (E : ow_E X own cc nL R0) (hg : ow_g lv (j : Nat) = some (.ref x)) (d : decode cc pc = .ok (.aload_n j, 1)) (k : ow_W X cs sl h (pc + 1) lv (.ref x :: st)) : ow_W X cs sl h pc lv (st) := by
  obtain ⟨p, l, e, R, s, m, args, below, meth, c, Q, D, A⟩ := X
  obtain ⟨hx, hb, hown, hts, hK, hA, hml, hR0⟩ := E
  intro H locs ls hR hD hSS hl
  exact lv_aload_n hx hb d rfl (hl.2.2 _ (ow_g_in hg)) (k H locs ls hR hD hSS hl)
theorem or_aload {j : Nat} {x : Nat} (E : ow_E X own cc nL R0) (hg : ow_g lv j = some (.ref x)) (d : decode cc pc = .ok (.aload j, 2)) (k : ow_W X cs sl h (pc + 2) lv (.ref x :: st)) : ow_W X cs sl h pc lv (st) := by
  obtain ⟨p, l, e, R, s, m, args, below, meth, c, Q, D, A⟩ := X
  obtain ⟨hx, hb, hown, hts, hK, hA, hml, hR0⟩ := E
  intro H locs ls hR hD hSS hl
  exact lv_aload hx hb d (hl.2.2 _ (ow_g_in hg)) (k H locs ls hR hD hSS hl)
theorem or_dload_n {j : Fin 4} {x : UInt64} (E : ow_E X own cc nL R0) (hg : ow_g lv (j : Nat) = some (.double x)) (d : decode cc pc = .ok (.dload_n j, 1)) (k : ow_W X cs sl h (pc + 1) lv (.double x :: st)) : ow_W X cs sl h pc lv (st) := by
  obtain ⟨p, l, e, R, s, m, args, below, meth, c, Q, D, A⟩ := X
  obtain ⟨hx, hb, hown, hts, hK, hA, hml, hR0⟩ := E
  intro H locs ls hR hD hSS hl
  exact lv_dload_n hx hb d rfl (hl.2.2 _ (ow_g_in hg)) (k H locs ls hR hD hSS hl)
theorem or_dload {j : Nat} {x : UInt64} (E : ow_E X own cc nL R0) (hg : ow_g lv j = some (.double x)) (d : decode cc pc = .ok (.dload j, 2)) (k : ow_W X cs sl h (pc + 2) lv (.double x :: st)) : ow_W X cs sl h pc lv (st) := by
  obtain ⟨p, l, e, R, s, m, args, below, meth, c, Q, D, A⟩ := X
  obtain ⟨hx, hb, hown, hts, hK, hA, hml, hR0⟩ := E
  intro H locs ls hR hD hSS hl
  exact lv_dload hx hb d (hl.2.2 _ (ow_g_in hg)) (k H locs ls hR hD hSS hl)
theorem or_fload_n {j : Fin 4} {x : UInt32} (E : ow_E X own cc nL R0) (hg : ow_g lv (j : Nat) = some (.float x)) (d : decode cc pc = .ok (.fload_n j, 1)) (k : ow_W X cs sl h (pc + 1) lv (.float x :: st)) : ow_W X cs sl h pc lv (st) := by
  obtain ⟨p, l, e, R, s, m, args, below, meth, c, Q, D, A⟩ := X
  obtain ⟨hx, hb, hown, hts, hK, hA, hml, hR0⟩ := E
  intro H locs ls hR hD hSS hl
  exact lv_fload_n hx hb d rfl (hl.2.2 _ (ow_g_in hg)) (k H locs ls hR hD hSS hl)
theorem or_fload {j : Nat} {x : UInt32} (E : ow_E X own cc nL R0) (hg : ow_g lv j = some (.float x)) (d : decode cc pc = .ok (.fload j, 2)) (k : ow_W X cs sl h (pc + 2) lv (.float x :: st)) : ow_W X cs sl h pc lv (st) := by
  obtain ⟨p, l, e, R, s, m, args, below, meth, c, Q, D, A⟩ := X
  obtain ⟨hx, hb, hown, hts, hK, hA, hml, hR0⟩ := E
  intro H locs ls hR hD hSS hl
  exact lv_fload hx hb d (hl.2.2 _ (ow_g_in hg)) (k H locs ls hR hD hSS hl)
theorem or_lload_n {j : Fin 4} {x : Int64} (E : ow_E X own cc nL R0) (hg : ow_g lv (j : Nat) = some (.long x)) (d : decode cc pc = .ok (.lload_n j, 1)) (k : ow_W X cs sl h (pc + 1) lv (.long x :: st)) : ow_W X cs sl h pc lv (st) := by
  obtain ⟨p, l, e, R, s, m, args, below, meth, c, Q, D, A⟩ := X
  obtain ⟨hx, hb, hown, hts, hK, hA, hml, hR0⟩ := E
  intro H locs ls hR hD hSS hl
  exact lv_lload_n hx hb d rfl (hl.2.2 _ (ow_g_in hg)) (k H locs ls hR hD hSS hl)
theorem or_lload {j : Nat} {x : Int64} (E : ow_E X own cc nL R0) (hg : ow_g lv j = some (.long x)) (d : decode cc pc = .ok (.lload j, 2)) (k : ow_W X cs sl h (pc + 2) lv (.long x :: st)) : ow_W X cs sl h pc lv (st) := by
  obtain ⟨p, l, e, R, s, m, args, below, meth, c, Q, D, A⟩ := X
  obtain ⟨hx, hb, hown, hts, hK, hA, hml, hR0⟩ := E
  intro H locs ls hR hD hSS hl
  exact lv_lload hx hb d (hl.2.2 _ (ow_g_in hg)) (k H locs ls hR hD hSS hl)
theorem or_istore_n {j : Fin 4} {x : Int32} (E : ow_E X own cc nL R0) (d : decode cc pc = .ok (.istore_n j, 1)) (hn : (j : Nat) < nL) (k : ow_W X cs sl h (pc + 1) (ow_s lv (j : Nat) (.int x)) st) : ow_W X cs sl h pc lv (.int x :: st) := by
  obtain ⟨p, l, e, R, s, m, args, below, meth, c, Q, D, A⟩ := X
  obtain ⟨hx, hb, hown, hts, hK, hA, hml, hR0⟩ := E
  intro H locs ls hR hD hSS hl
  exact lv_istore_n hx hb d rfl hl (by rw [hml]; exact hn) rfl (fun ls hl => k H locs ls hR hD hSS hl)
theorem or_istore {j : Nat} {x : Int32} (E : ow_E X own cc nL R0) (d : decode cc pc = .ok (.istore j, 2)) (hn : j < nL) (k : ow_W X cs sl h (pc + 2) (ow_s lv j (.int x)) st) : ow_W X cs sl h pc lv (.int x :: st) := by
  obtain ⟨p, l, e, R, s, m, args, below, meth, c, Q, D, A⟩ := X
  obtain ⟨hx, hb, hown, hts, hK, hA, hml, hR0⟩ := E
  intro H locs ls hR hD hSS hl
  exact lv_istore hx hb d hl (by rw [hml]; exact hn) rfl (fun ls hl => k H locs ls hR hD hSS hl)
theorem or_astore_n {j : Fin 4} {x : Nat} (E : ow_E X own cc nL R0) (d : decode cc pc = .ok (.astore_n j, 1)) (hn : (j : Nat) < nL) (k : ow_W X cs sl h (pc + 1) (ow_s lv (j : Nat) (.ref x)) st) : ow_W X cs sl h pc lv (.ref x :: st) := by
  obtain ⟨p, l, e, R, s, m, args, below, meth, c, Q, D, A⟩ := X
  obtain ⟨hx, hb, hown, hts, hK, hA, hml, hR0⟩ := E
  intro H locs ls hR hD hSS hl
  exact lv_astore_n hx hb d rfl hl (by rw [hml]; exact hn) rfl (fun ls hl => k H locs ls hR hD hSS hl)
theorem or_astore {j : Nat} {x : Nat} (E : ow_E X own cc nL R0) (d : decode cc pc = .ok (.astore j, 2)) (hn : j < nL) (k : ow_W X cs sl h (pc + 2) (ow_s lv j (.ref x)) st) : ow_W X cs sl h pc lv (.ref x :: st) := by
  obtain ⟨p, l, e, R, s, m, args, below, meth, c, Q, D, A⟩ := X
  obtain ⟨hx, hb, hown, hts, hK, hA, hml, hR0⟩ := E
  intro H locs ls hR hD hSS hl
  exact lv_astore hx hb d hl (by rw [hml]; exact hn) rfl (fun ls hl => k H locs ls hR hD hSS hl)
theorem or_fstore_n {j : Fin 4} {x : UInt32} (E : ow_E X own cc nL R0) (d : decode cc pc = .ok (.fstore_n j, 1)) (hn : (j : Nat) < nL) (k : ow_W X cs sl h (pc + 1) (ow_s lv (j : Nat) (.float x)) st) : ow_W X cs sl h pc lv (.float x :: st) := by
  obtain ⟨p, l, e, R, s, m, args, below, meth, c, Q, D, A⟩ := X
  obtain ⟨hx, hb, hown, hts, hK, hA, hml, hR0⟩ := E
  intro H locs ls hR hD hSS hl
  exact lv_fstore_n hx hb d rfl hl (by rw [hml]; exact hn) rfl (fun ls hl => k H locs ls hR hD hSS hl)
theorem or_fstore {j : Nat} {x : UInt32} (E : ow_E X own cc nL R0) (d : decode cc pc = .ok (.fstore j, 2)) (hn : j < nL) (k : ow_W X cs sl h (pc + 2) (ow_s lv j (.float x)) st) : ow_W X cs sl h pc lv (.float x :: st) := by
  obtain ⟨p, l, e, R, s, m, args, below, meth, c, Q, D, A⟩ := X
  obtain ⟨hx, hb, hown, hts, hK, hA, hml, hR0⟩ := E
  intro H locs ls hR hD hSS hl
  exact lv_fstore hx hb d hl (by rw [hml]; exact hn) rfl (fun ls hl => k H locs ls hR hD hSS hl)
theorem or_dstore_n {j : Fin 4} {x : UInt64} (E : ow_E X own cc nL R0) (d : decode cc pc = .ok (.dstore_n j, 1)) (hn : (j : Nat) + 1 < nL) (k : ow_W X cs sl h (pc + 1) (ow_s2 lv (j : Nat) (.double x)) st) : ow_W X cs sl h pc lv (.double x :: st) := by
  obtain ⟨p, l, e, R, s, m, args, below, meth, c, Q, D, A⟩ := X
  obtain ⟨hx, hb, hown, hts, hK, hA, hml, hR0⟩ := E
  intro H locs ls hR hD hSS hl
  exact lv_dstore_n hx hb d rfl hl (by rw [hml]; exact hn) rfl (fun ls hl => k H locs ls hR hD hSS hl)
theorem or_dstore {j : Nat} {x : UInt64} (E : ow_E X own cc nL R0) (d : decode cc pc = .ok (.dstore j, 2)) (hn : j + 1 < nL) (k : ow_W X cs sl h (pc + 2) (ow_s2 lv j (.double x)) st) : ow_W X cs sl h pc lv (.double x :: st) := by
  obtain ⟨p, l, e, R, s, m, args, below, meth, c, Q, D, A⟩ := X
  obtain ⟨hx, hb, hown, hts, hK, hA, hml, hR0⟩ := E
  intro H locs ls hR hD hSS hl
  exact lv_dstore hx hb d hl (by rw [hml]; exact hn) rfl (fun ls hl => k H locs ls hR hD hSS hl)
theorem or_lstore_n {j : Fin 4} {x : Int64} (E : ow_E X own cc nL R0) (d : decode cc pc = .ok (.lstore_n j, 1)) (hn : (j : Nat) + 1 < nL) (k : ow_W X cs sl h (pc + 1) (ow_s2 lv (j : Nat) (.long x)) st) : ow_W X cs sl h pc lv (.long x :: st) := by
  obtain ⟨p, l, e, R, s, m, args, below, meth, c, Q, D, A⟩ := X
  obtain ⟨hx, hb, hown, hts, hK, hA, hml, hR0⟩ := E
  intro H locs ls hR hD hSS hl
  exact lv_lstore_n hx hb d rfl hl (by rw [hml]; exact hn) rfl (fun ls hl => k H locs ls hR hD hSS hl)
theorem or_lstore {j : Nat} {x : Int64} (E : ow_E X own cc nL R0) (d : decode cc pc = .ok (.lstore j, 2)) (hn : j + 1 < nL) (k : ow_W X cs sl h (pc + 2) (ow_s2 lv j (.long x)) st) : ow_W X cs sl h pc lv (.long x :: st) := by
  obtain ⟨p, l, e, R, s, m, args, below, meth, c, Q, D, A⟩ := X
  obtain ⟨hx, hb, hown, hts, hK, hA, hml, hR0⟩ := E
  intro H locs ls hR hD hSS hl
  exact lv_lstore hx hb d hl (by rw [hml]; exact hn) rfl (fun ls hl => k H locs ls hR hD hSS hl)
theorem or_iinc {j : Nat} {n : Int} {x : Int32} (E : ow_E X own cc nL R0) (d : decode cc pc = .ok (.iinc j n, 3)) (hg : ow_g lv j = some (.int x)) (hn : j < nL) (k : ow_W X cs sl h (pc + 3) (ow_s lv j (.int (x + Int32.ofInt n))) st) : ow_W X cs sl h pc lv st := by
  obtain ⟨p, l, e, R, s, m, args, below, meth, c, Q, D, A⟩ := X
  obtain ⟨hx, hb, hown, hts, hK, hA, hml, hR0⟩ := E
  intro H locs ls hR hD hSS hl
  obtain ⟨i, hi⟩ := List.getElem?_of_mem (ow_g_in hg)
  exact lv_iinc hx hb d hl hi rfl (by rw [hml]; exact hn) rfl (fun ls hl => k H locs ls hR hD hSS hl)
theorem or_iadd {x y : Int32} (E : ow_E X own cc nL R0) (d : decode cc pc = .ok (.iadd, 1)) (k : ow_W X cs sl h (pc + 1) lv (.int (x + y) :: st)) : ow_W X cs sl h pc lv (.int y :: .int x :: st) := by
  obtain ⟨p, l, e, R, s, m, args, below, meth, c, Q, D, A⟩ := X
  obtain ⟨hx, hb, hown, hts, hK, hA, hml, hR0⟩ := E
  intro H locs ls hR hD hSS hl
  exact lv_iadd hx hb d (k H locs ls hR hD hSS hl)
theorem or_isub {x y : Int32} (E : ow_E X own cc nL R0) (d : decode cc pc = .ok (.isub, 1)) (k : ow_W X cs sl h (pc + 1) lv (.int (x - y) :: st)) : ow_W X cs sl h pc lv (.int y :: .int x :: st) := by
  obtain ⟨p, l, e, R, s, m, args, below, meth, c, Q, D, A⟩ := X
  obtain ⟨hx, hb, hown, hts, hK, hA, hml, hR0⟩ := E
  intro H locs ls hR hD hSS hl
  exact lv_isub hx hb d (k H locs ls hR hD hSS hl)
theorem or_imul {x y : Int32} (E : ow_E X own cc nL R0) (d : decode cc pc = .ok (.imul, 1)) (k : ow_W X cs sl h (pc + 1) lv (.int (x * y) :: st)) : ow_W X cs sl h pc lv (.int y :: .int x :: st) := by
  obtain ⟨p, l, e, R, s, m, args, below, meth, c, Q, D, A⟩ := X
  obtain ⟨hx, hb, hown, hts, hK, hA, hml, hR0⟩ := E
  intro H locs ls hR hD hSS hl
  exact lv_imul hx hb d (k H locs ls hR hD hSS hl)
theorem or_iand {x y : Int32} (E : ow_E X own cc nL R0) (d : decode cc pc = .ok (.iand, 1)) (k : ow_W X cs sl h (pc + 1) lv (.int (x &&& y) :: st)) : ow_W X cs sl h pc lv (.int y :: .int x :: st) := by
  obtain ⟨p, l, e, R, s, m, args, below, meth, c, Q, D, A⟩ := X
  obtain ⟨hx, hb, hown, hts, hK, hA, hml, hR0⟩ := E
  intro H locs ls hR hD hSS hl
  exact lv_iand hx hb d (k H locs ls hR hD hSS hl)
theorem or_idiv {x y : Int32} (E : ow_E X own cc nL R0) (hne : ¬ y = 0) (d : decode cc pc = .ok (.idiv, 1)) (k : ow_W X cs sl h (pc + 1) lv (.int (x / y) :: st)) : ow_W X cs sl h pc lv (.int y :: .int x :: st) := by
  obtain ⟨p, l, e, R, s, m, args, below, meth, c, Q, D, A⟩ := X
  obtain ⟨hx, hb, hown, hts, hK, hA, hml, hR0⟩ := E
  intro H locs ls hR hD hSS hl
  exact lv_idiv hx hb d hne (k H locs ls hR hD hSS hl)
theorem or_irem {x y : Int32} (E : ow_E X own cc nL R0) (hne : ¬ y = 0) (d : decode cc pc = .ok (.irem, 1)) (k : ow_W X cs sl h (pc + 1) lv (.int (x - x / y * y) :: st)) : ow_W X cs sl h pc lv (.int y :: .int x :: st) := by
  obtain ⟨p, l, e, R, s, m, args, below, meth, c, Q, D, A⟩ := X
  obtain ⟨hx, hb, hown, hts, hK, hA, hml, hR0⟩ := E
  intro H locs ls hR hD hSS hl
  exact lv_irem hx hb d hne (k H locs ls hR hD hSS hl)
theorem or_ishr {x y : Int32} (E : ow_E X own cc nL R0) (d : decode cc pc = .ok (.ishr, 1)) (k : ow_W X cs sl h (pc + 1) lv (.int (x >>> (y &&& 31)) :: st)) : ow_W X cs sl h pc lv (.int y :: .int x :: st) := by
  obtain ⟨p, l, e, R, s, m, args, below, meth, c, Q, D, A⟩ := X
  obtain ⟨hx, hb, hown, hts, hK, hA, hml, hR0⟩ := E
  intro H locs ls hR hD hSS hl
  exact lv_ishr hx hb d (k H locs ls hR hD hSS hl)
theorem or_iushr {x y : Int32} (E : ow_E X own cc nL R0) (d : decode cc pc = .ok (.iushr, 1)) (k : ow_W X cs sl h (pc + 1) lv (.int (x.toUInt32 >>> (y.toUInt32 &&& Int32.toUInt32 31)).toInt32 :: st)) : ow_W X cs sl h pc lv (.int y :: .int x :: st) := by
  obtain ⟨p, l, e, R, s, m, args, below, meth, c, Q, D, A⟩ := X
  obtain ⟨hx, hb, hown, hts, hK, hA, hml, hR0⟩ := E
  intro H locs ls hR hD hSS hl
  exact lv_iushr hx hb d rfl (k H locs ls hR hD hSS hl)
theorem or_i2l {x : Int32} (E : ow_E X own cc nL R0) (d : decode cc pc = .ok (.i2l, 1)) (k : ow_W X cs sl h (pc + 1) lv (.long x.toInt64 :: st)) : ow_W X cs sl h pc lv (.int x :: st) := by
  obtain ⟨p, l, e, R, s, m, args, below, meth, c, Q, D, A⟩ := X
  obtain ⟨hx, hb, hown, hts, hK, hA, hml, hR0⟩ := E
  intro H locs ls hR hD hSS hl
  exact lv_i2l hx hb d rfl (k H locs ls hR hD hSS hl)
theorem or_i2b {x : Int32} (E : ow_E X own cc nL R0) (d : decode cc pc = .ok (.i2b, 1)) (k : ow_W X cs sl h (pc + 1) lv (.int x.toInt8.toInt32 :: st)) : ow_W X cs sl h pc lv (.int x :: st) := by
  obtain ⟨p, l, e, R, s, m, args, below, meth, c, Q, D, A⟩ := X
  obtain ⟨hx, hb, hown, hts, hK, hA, hml, hR0⟩ := E
  intro H locs ls hR hD hSS hl
  exact lv_i2b hx hb d rfl (k H locs ls hR hD hSS hl)
theorem or_dup {v : Value} (E : ow_E X own cc nL R0) (hc : v.category = 1) (d : decode cc pc = .ok (.dup, 1)) (k : ow_W X cs sl h (pc + 1) lv (v :: v :: st)) : ow_W X cs sl h pc lv (v :: st) := by
  obtain ⟨p, l, e, R, s, m, args, below, meth, c, Q, D, A⟩ := X
  obtain ⟨hx, hb, hown, hts, hK, hA, hml, hR0⟩ := E
  intro H locs ls hR hD hSS hl
  exact lv_dup hx hb d hc (k H locs ls hR hD hSS hl)
theorem or_dup2 {v w : Value} (E : ow_E X own cc nL R0) (hc : v.category = 1) (hc2 : w.category = 1) (d : decode cc pc = .ok (.dup2, 1)) (k : ow_W X cs sl h (pc + 1) lv (v :: w :: v :: w :: st)) : ow_W X cs sl h pc lv (v :: w :: st) := by
  obtain ⟨p, l, e, R, s, m, args, below, meth, c, Q, D, A⟩ := X
  obtain ⟨hx, hb, hown, hts, hK, hA, hml, hR0⟩ := E
  intro H locs ls hR hD hSS hl
  exact lv_dup2_11 hx hb d hc hc2 (k H locs ls hR hD hSS hl)
theorem or_pop {v : Value} (E : ow_E X own cc nL R0) (hc : v.category = 1) (d : decode cc pc = .ok (.pop, 1)) (k : ow_W X cs sl h (pc + 1) lv (st)) : ow_W X cs sl h pc lv (v :: st) := by
  obtain ⟨p, l, e, R, s, m, args, below, meth, c, Q, D, A⟩ := X
  obtain ⟨hx, hb, hown, hts, hK, hA, hml, hR0⟩ := E
  intro H locs ls hR hD hSS hl
  exact lv_pop hx hb d hc (k H locs ls hR hD hSS hl)
theorem or_null (E : ow_E X own cc nL R0) (d : decode cc pc = .ok (.aconst_null, 1)) (k : ow_W X cs sl h (pc + 1) lv (.null :: st)) : ow_W X cs sl h pc lv (st) := by
  obtain ⟨p, l, e, R, s, m, args, below, meth, c, Q, D, A⟩ := X
  obtain ⟨hx, hb, hown, hts, hK, hA, hml, hR0⟩ := E
  intro H locs ls hR hD hSS hl
  exact lv_null hx hb d (k H locs ls hR hD hSS hl)
theorem or_if_eq {x : Int32} {off : Int} (t : Nat) (E : ow_E X own cc nL R0) (d : decode cc pc = .ok (.ifCond .eq off, 3)) (ht : (pc : Int) + off = (t : Int)) (kt : x = 0 → ow_W X cs sl h t lv st) (kf : ¬ x = 0 → ow_W X cs sl h (pc + 3) lv st) : ow_W X cs sl h pc lv (.int x :: st) := by
  obtain ⟨p, l, e, R, s, m, args, below, meth, c, Q, D, A⟩ := X
  obtain ⟨hx, hb, hown, hts, hK, hA, hml, hR0⟩ := E
  intro H locs ls hR hD hSS hl
  exact lv_if_eq hx hb d ht (fun q => kt q H locs ls hR hD hSS hl) (fun q => kf q H locs ls hR hD hSS hl)
theorem or_if_ne {x : Int32} {off : Int} (t : Nat) (E : ow_E X own cc nL R0) (d : decode cc pc = .ok (.ifCond .ne off, 3)) (ht : (pc : Int) + off = (t : Int)) (kt : ¬ x = 0 → ow_W X cs sl h t lv st) (kf : x = 0 → ow_W X cs sl h (pc + 3) lv st) : ow_W X cs sl h pc lv (.int x :: st) := by
  obtain ⟨p, l, e, R, s, m, args, below, meth, c, Q, D, A⟩ := X
  obtain ⟨hx, hb, hown, hts, hK, hA, hml, hR0⟩ := E
  intro H locs ls hR hD hSS hl
  exact lv_if_ne hx hb d ht (fun q => kt q H locs ls hR hD hSS hl) (fun q => kf q H locs ls hR hD hSS hl)
theorem or_if_lt {x : Int32} {off : Int} (t : Nat) (E : ow_E X own cc nL R0) (d : decode cc pc = .ok (.ifCond .lt off, 3)) (ht : (pc : Int) + off = (t : Int)) (kt : x < 0 → ow_W X cs sl h t lv st) (kf : ¬ (x < 0) → ow_W X cs sl h (pc + 3) lv st) : ow_W X cs sl h pc lv (.int x :: st) := by
  obtain ⟨p, l, e, R, s, m, args, below, meth, c, Q, D, A⟩ := X
  obtain ⟨hx, hb, hown, hts, hK, hA, hml, hR0⟩ := E
  intro H locs ls hR hD hSS hl
  exact lv_if_lt hx hb d ht (fun q => kt q H locs ls hR hD hSS hl) (fun q => kf q H locs ls hR hD hSS hl)
theorem or_if_ge {x : Int32} {off : Int} (t : Nat) (E : ow_E X own cc nL R0) (d : decode cc pc = .ok (.ifCond .ge off, 3)) (ht : (pc : Int) + off = (t : Int)) (kt : 0 ≤ x → ow_W X cs sl h t lv st) (kf : ¬ (0 ≤ x) → ow_W X cs sl h (pc + 3) lv st) : ow_W X cs sl h pc lv (.int x :: st) := by
  obtain ⟨p, l, e, R, s, m, args, below, meth, c, Q, D, A⟩ := X
  obtain ⟨hx, hb, hown, hts, hK, hA, hml, hR0⟩ := E
  intro H locs ls hR hD hSS hl
  exact lv_if_ge hx hb d ht (fun q => kt q H locs ls hR hD hSS hl) (fun q => kf q H locs ls hR hD hSS hl)
theorem or_if_gt {x : Int32} {off : Int} (t : Nat) (E : ow_E X own cc nL R0) (d : decode cc pc = .ok (.ifCond .gt off, 3)) (ht : (pc : Int) + off = (t : Int)) (kt : 0 < x → ow_W X cs sl h t lv st) (kf : ¬ (0 < x) → ow_W X cs sl h (pc + 3) lv st) : ow_W X cs sl h pc lv (.int x :: st) := by
  obtain ⟨p, l, e, R, s, m, args, below, meth, c, Q, D, A⟩ := X
  obtain ⟨hx, hb, hown, hts, hK, hA, hml, hR0⟩ := E
  intro H locs ls hR hD hSS hl
  exact lv_if_gt hx hb d ht (fun q => kt q H locs ls hR hD hSS hl) (fun q => kf q H locs ls hR hD hSS hl)
theorem or_if_le {x : Int32} {off : Int} (t : Nat) (E : ow_E X own cc nL R0) (d : decode cc pc = .ok (.ifCond .le off, 3)) (ht : (pc : Int) + off = (t : Int)) (kt : x ≤ 0 → ow_W X cs sl h t lv st) (kf : ¬ (x ≤ 0) → ow_W X cs sl h (pc + 3) lv st) : ow_W X cs sl h pc lv (.int x :: st) := by
  obtain ⟨p, l, e, R, s, m, args, below, meth, c, Q, D, A⟩ := X
  obtain ⟨hx, hb, hown, hts, hK, hA, hml, hR0⟩ := E
  intro H locs ls hR hD hSS hl
  exact lv_if_le hx hb d ht (fun q => kt q H locs ls hR hD hSS hl) (fun q => kf q H locs ls hR hD hSS hl)
theorem or_icmp_eq {x y : Int32} {off : Int} (t : Nat) (E : ow_E X own cc nL R0) (d : decode cc pc = .ok (.if_icmp .eq off, 3)) (ht : (pc : Int) + off = (t : Int)) (kt : x = y → ow_W X cs sl h t lv st) (kf : ¬ x = y → ow_W X cs sl h (pc + 3) lv st) : ow_W X cs sl h pc lv (.int y :: .int x :: st) := by
  obtain ⟨p, l, e, R, s, m, args, below, meth, c, Q, D, A⟩ := X
  obtain ⟨hx, hb, hown, hts, hK, hA, hml, hR0⟩ := E
  intro H locs ls hR hD hSS hl
  exact lv_icmp_eq hx hb d ht (fun q => kt q H locs ls hR hD hSS hl) (fun q => kf q H locs ls hR hD hSS hl)
theorem or_icmp_ne {x y : Int32} {off : Int} (t : Nat) (E : ow_E X own cc nL R0) (d : decode cc pc = .ok (.if_icmp .ne off, 3)) (ht : (pc : Int) + off = (t : Int)) (kt : ¬ x = y → ow_W X cs sl h t lv st) (kf : x = y → ow_W X cs sl h (pc + 3) lv st) : ow_W X cs sl h pc lv (.int y :: .int x :: st) := by
  obtain ⟨p, l, e, R, s, m, args, below, meth, c, Q, D, A⟩ := X
  obtain ⟨hx, hb, hown, hts, hK, hA, hml, hR0⟩ := E
  intro H locs ls hR hD hSS hl
  exact lv_icmp_ne hx hb d ht (fun q => kt q H locs ls hR hD hSS hl) (fun q => kf q H locs ls hR hD hSS hl)
theorem or_icmp_lt {x y : Int32} {off : Int} (t : Nat) (E : ow_E X own cc nL R0) (d : decode cc pc = .ok (.if_icmp .lt off, 3)) (ht : (pc : Int) + off = (t : Int)) (kt : x < y → ow_W X cs sl h t lv st) (kf : ¬ (x < y) → ow_W X cs sl h (pc + 3) lv st) : ow_W X cs sl h pc lv (.int y :: .int x :: st) := by
  obtain ⟨p, l, e, R, s, m, args, below, meth, c, Q, D, A⟩ := X
  obtain ⟨hx, hb, hown, hts, hK, hA, hml, hR0⟩ := E
  intro H locs ls hR hD hSS hl
  exact lv_icmp_lt hx hb d ht (fun q => kt q H locs ls hR hD hSS hl) (fun q => kf q H locs ls hR hD hSS hl)
theorem or_icmp_ge {x y : Int32} {off : Int} (t : Nat) (E : ow_E X own cc nL R0) (d : decode cc pc = .ok (.if_icmp .ge off, 3)) (ht : (pc : Int) + off = (t : Int)) (kt : y ≤ x → ow_W X cs sl h t lv st) (kf : ¬ (y ≤ x) → ow_W X cs sl h (pc + 3) lv st) : ow_W X cs sl h pc lv (.int y :: .int x :: st) := by
  obtain ⟨p, l, e, R, s, m, args, below, meth, c, Q, D, A⟩ := X
  obtain ⟨hx, hb, hown, hts, hK, hA, hml, hR0⟩ := E
  intro H locs ls hR hD hSS hl
  exact lv_icmp_ge hx hb d ht (fun q => kt q H locs ls hR hD hSS hl) (fun q => kf q H locs ls hR hD hSS hl)
theorem or_icmp_gt {x y : Int32} {off : Int} (t : Nat) (E : ow_E X own cc nL R0) (d : decode cc pc = .ok (.if_icmp .gt off, 3)) (ht : (pc : Int) + off = (t : Int)) (kt : y < x → ow_W X cs sl h t lv st) (kf : ¬ (y < x) → ow_W X cs sl h (pc + 3) lv st) : ow_W X cs sl h pc lv (.int y :: .int x :: st) := by
  obtain ⟨p, l, e, R, s, m, args, below, meth, c, Q, D, A⟩ := X
  obtain ⟨hx, hb, hown, hts, hK, hA, hml, hR0⟩ := E
  intro H locs ls hR hD hSS hl
  exact lv_icmp_gt hx hb d ht (fun q => kt q H locs ls hR hD hSS hl) (fun q => kf q H locs ls hR hD hSS hl)
theorem or_icmp_le {x y : Int32} {off : Int} (t : Nat) (E : ow_E X own cc nL R0) (d : decode cc pc = .ok (.if_icmp .le off, 3)) (ht : (pc : Int) + off = (t : Int)) (kt : x ≤ y → ow_W X cs sl h t lv st) (kf : ¬ (x ≤ y) → ow_W X cs sl h (pc + 3) lv st) : ow_W X cs sl h pc lv (.int y :: .int x :: st) := by
  obtain ⟨p, l, e, R, s, m, args, below, meth, c, Q, D, A⟩ := X
  obtain ⟨hx, hb, hown, hts, hK, hA, hml, hR0⟩ := E
  intro H locs ls hR hD hSS hl
  exact lv_icmp_le hx hb d ht (fun q => kt q H locs ls hR hD hSS hl) (fun q => kf q H locs ls hR hD hSS hl)
theorem or_goto {off : Int} (t : Nat) (E : ow_E X own cc nL R0) (d : decode cc pc = .ok (.goto off, 3)) (ht : (pc : Int) + off = (t : Int)) (k : ow_W X cs sl h t lv st) : ow_W X cs sl h pc lv st := by
  obtain ⟨p, l, e, R, s, m, args, below, meth, c, Q, D, A⟩ := X
  obtain ⟨hx, hb, hown, hts, hK, hA, hml, hR0⟩ := E
  intro H locs ls hR hD hSS hl
  exact lv_goto hx hb d ht (k H locs ls hR hD hSS hl)
theorem or_iald {a n j : Nat} {x : Int32} {κ : Nat → Option (Option Value)} (E : ow_E X own cc nL R0) (d : decode cc pc = .ok (.iaload, 1)) (hS : h.1 a = some (.inr (.int, n, κ))) (hk : κ j = none) (hx : x = nI j) (hj : j < n) (hn : n < 2 ^ 31) (k : ow_W X cs sl h (pc + 1) lv (.int (h.2.1 a j) :: st)) : ow_W X cs sl h pc lv (.int x :: .ref a :: st) := by
  obtain ⟨hi, hc⟩ := ow_ix hx hj hn
  obtain ⟨p, l, e, R, s, m, args, below, meth, c, Q, D, A⟩ := X
  obtain ⟨hx0, hb, hown, hts, hK, hA, hml, hR0⟩ := E
  intro H locs ls hR hD hSS hl
  obtain ⟨cA, g1, g2, g3⟩ := hR.1 a _ hS
  exact W.iald (v := .int (h.2.1 a j)) hx0 hb g1 (g2 n _) (fun q => by cases q) (by show ¬ (x < 0 ∨ (arrV _ _ _).slots.size ≤ _); rw [arrV_size]; exact hi) (by rw [hc]; show (arrV _ _ _).slots[_]? = _; rw [arrV_read _ _ hj]; show some (ow_v (κ j) _ _) = _; rw [hk]; rfl) rfl rfl d (k H locs ls hR hD hSS hl)
theorem or_bald {a n j : Nat} {x : Int32} {κ : Nat → Option (Option Value)} (E : ow_E X own cc nL R0) (d : decode cc pc = .ok (.baload, 1)) (hS : h.1 a = some (.inr (.byte, n, κ))) (hk : κ j = none) (hx : x = nI j) (hj : j < n) (hn : n < 2 ^ 31) (k : ow_W X cs sl h (pc + 1) lv (.int (h.2.1 a j) :: st)) : ow_W X cs sl h pc lv (.int x :: .ref a :: st) := by
  obtain ⟨hi, hc⟩ := ow_ix hx hj hn
  obtain ⟨p, l, e, R, s, m, args, below, meth, c, Q, D, A⟩ := X
  obtain ⟨hx0, hb, hown, hts, hK, hA, hml, hR0⟩ := E
  intro H locs ls hR hD hSS hl
  obtain ⟨cA, g1, g2, g3⟩ := hR.1 a _ hS
  exact W.bald (v := .int (h.2.1 a j)) hx0 hb g1 (g2 n _) (fun q => by cases q) (by show ¬ (x < 0 ∨ (arrV _ _ _).slots.size ≤ _); rw [arrV_size]; exact hi) (by rw [hc]; show (arrV _ _ _).slots[_]? = _; rw [arrV_read _ _ hj]; show some (ow_v (κ j) _ _) = _; rw [hk]; rfl) rfl rfl d (k H locs ls hR hD hSS hl)
theorem or_zald {a n j : Nat} {x : Int32} {κ : Nat → Option (Option Value)} (E : ow_E X own cc nL R0) (d : decode cc pc = .ok (.baload, 1)) (hS : h.1 a = some (.inr (.boolean, n, κ))) (hk : κ j = none) (hx : x = nI j) (hj : j < n) (hn : n < 2 ^ 31) (k : ow_W X cs sl h (pc + 1) lv (.int (h.2.1 a j) :: st)) : ow_W X cs sl h pc lv (.int x :: .ref a :: st) := by
  obtain ⟨hi, hc⟩ := ow_ix hx hj hn
  obtain ⟨p, l, e, R, s, m, args, below, meth, c, Q, D, A⟩ := X
  obtain ⟨hx0, hb, hown, hts, hK, hA, hml, hR0⟩ := E
  intro H locs ls hR hD hSS hl
  obtain ⟨cA, g1, g2, g3⟩ := hR.1 a _ hS
  exact W.zald (v := .int (h.2.1 a j)) hx0 hb g1 (g2 n _) (fun q => by cases q) (by show ¬ (x < 0 ∨ (arrV _ _ _).slots.size ≤ _); rw [arrV_size]; exact hi) (by rw [hc]; show (arrV _ _ _).slots[_]? = _; rw [arrV_read _ _ hj]; show some (ow_v (κ j) _ _) = _; rw [hk]; rfl) rfl rfl d (k H locs ls hR hD hSS hl)
theorem or_cald {a n j : Nat} {x : Int32} {κ : Nat → Option (Option Value)} (E : ow_E X own cc nL R0) (d : decode cc pc = .ok (.caload, 1)) (hS : h.1 a = some (.inr (.char, n, κ))) (hk : κ j = none) (hx : x = nI j) (hj : j < n) (hn : n < 2 ^ 31) (k : ow_W X cs sl h (pc + 1) lv (.int (h.2.1 a j) :: st)) : ow_W X cs sl h pc lv (.int x :: .ref a :: st) := by
  obtain ⟨hi, hc⟩ := ow_ix hx hj hn
  obtain ⟨p, l, e, R, s, m, args, below, meth, c, Q, D, A⟩ := X
  obtain ⟨hx0, hb, hown, hts, hK, hA, hml, hR0⟩ := E
  intro H locs ls hR hD hSS hl
  obtain ⟨cA, g1, g2, g3⟩ := hR.1 a _ hS
  exact W.cald (v := .int (h.2.1 a j)) hx0 hb g1 (g2 n _) (fun q => by cases q) (by show ¬ (x < 0 ∨ (arrV _ _ _).slots.size ≤ _); rw [arrV_size]; exact hi) (by rw [hc]; show (arrV _ _ _).slots[_]? = _; rw [arrV_read _ _ hj]; show some (ow_v (κ j) _ _) = _; rw [hk]; rfl) rfl rfl d (k H locs ls hR hD hSS hl)
theorem or_aald {a n j : Nat} {x : Int32} {v : Value} {C : String} {κ : Nat → Option (Option Value)} (E : ow_E X own cc nL R0) (d : decode cc pc = .ok (.aaload, 1)) (hS : h.1 a = some (.inr (.object C, n, κ))) (hk : κ j = some (some v)) (hx : x = nI j) (hj : j < n) (hn : n < 2 ^ 31) (k : ow_W X cs sl h (pc + 1) lv (v :: st)) : ow_W X cs sl h pc lv (.int x :: .ref a :: st) := by
  obtain ⟨hi, hc⟩ := ow_ix hx hj hn
  obtain ⟨p, l, e, R, s, m, args, below, meth, c, Q, D, A⟩ := X
  obtain ⟨hx0, hb, hown, hts, hK, hA, hml, hR0⟩ := E
  intro H locs ls hR hD hSS hl
  obtain ⟨cA, g1, g2, g3⟩ := hR.1 a _ hS
  exact W.aald (v := v) (ty := .object C) hx0 hb g1 (g2 n _) rfl (fun q => by cases q) (by show ¬ (x < 0 ∨ (arrV _ _ _).slots.size ≤ _); rw [arrV_size]; exact hi) (by rw [hc]; show (arrV _ _ _).slots[_]? = _; rw [arrV_read _ _ hj]; show some (ow_v (κ j) _ _) = _; rw [hk]; rfl) rfl rfl d (k H locs ls hR hD hSS hl)
theorem or_iast {a n j : Nat} {x w : Int32} {κ : Nat → Option (Option Value)} (E : ow_E X own cc nL R0) (d : decode cc pc = .ok (.iastore, 1)) (hS : h.1 a = some (.inr (.int, n, κ))) (hk : κ j = none) (hx : x = nI j) (hj : j < n) (hn : n < 2 ^ 31) (k : ow_W X cs sl (ow_pI h a j w) (pc + 1) lv st) : ow_W X cs sl h pc lv (.int w :: .int x :: .ref a :: st) := by
  obtain ⟨hi, hc⟩ := ow_ix hx hj hn
  obtain ⟨p, l, e, R, s, m, args, below, meth, c, Q, D, A⟩ := X
  obtain ⟨hx0, hb, hown, hts, hK, hA, hml, hR0⟩ := E
  intro H locs ls hR hD hSS hl
  obtain ⟨cA, g1, g2, g3⟩ := hR.1 a _ hS
  refine W.iast hx0 hb g1 (g2 n _) (fun q => by cases q) (by show ¬ (x < 0 ∨ (arrV _ _ _).slots.size ≤ _); rw [arrV_size]; exact hi) rfl rfl d fun H1 e z oq => ?_
  refine k H1 _ ls (hR.wr hS z oq (fun b i hb => ow_u_a _ _ _ _ hb i) (fun _ _ _ => rfl) ⟨cA, ?_, g2, g3⟩) hD (hSS.put z oq (hD a _ hS)) hl
  rw [e, hc, arrV_store]
  congr 2
  funext i
  by_cases hij : i = j
  · subst hij
    show updV _ _ _ _ = ow_v (κ i) (ow_u h.2.1 a i _ a i) _
    rw [ow_u_s, hk]
    simp [updV, ow_v]
  · show updV _ _ _ _ = ow_v (κ i) (ow_u h.2.1 a j _ a i) _
    rw [ow_u_k _ _ _ _ hij]
    simp [updV, hij]
theorem or_bast {a n j : Nat} {x w : Int32} {κ : Nat → Option (Option Value)} (E : ow_E X own cc nL R0) (d : decode cc pc = .ok (.bastore, 1)) (hS : h.1 a = some (.inr (.byte, n, κ))) (hk : κ j = none) (hx : x = nI j) (hj : j < n) (hn : n < 2 ^ 31) (k : ow_W X cs sl (ow_pI h a j w.toInt8.toInt32) (pc + 1) lv st) : ow_W X cs sl h pc lv (.int w :: .int x :: .ref a :: st) := by
  obtain ⟨hi, hc⟩ := ow_ix hx hj hn
  obtain ⟨p, l, e, R, s, m, args, below, meth, c, Q, D, A⟩ := X
  obtain ⟨hx0, hb, hown, hts, hK, hA, hml, hR0⟩ := E
  intro H locs ls hR hD hSS hl
  obtain ⟨cA, g1, g2, g3⟩ := hR.1 a _ hS
  refine W.bast hx0 hb g1 (g2 n _) (fun q => by cases q) (by show ¬ (x < 0 ∨ (arrV _ _ _).slots.size ≤ _); rw [arrV_size]; exact hi) rfl rfl d fun H1 e z oq => ?_
  refine k H1 _ ls (hR.wr hS z oq (fun b i hb => ow_u_a _ _ _ _ hb i) (fun _ _ _ => rfl) ⟨cA, ?_, g2, g3⟩) hD (hSS.put z oq (hD a _ hS)) hl
  rw [e, hc, arrV_store]
  congr 2
  funext i
  by_cases hij : i = j
  · subst hij
    show updV _ _ _ _ = ow_v (κ i) (ow_u h.2.1 a i _ a i) _
    rw [ow_u_s, hk]
    simp [updV, ow_v, narrow]
  · show updV _ _ _ _ = ow_v (κ i) (ow_u h.2.1 a j _ a i) _
    rw [ow_u_k _ _ _ _ hij]
    simp [updV, hij]
theorem or_zast {a n j : Nat} {x w : Int32} {κ : Nat → Option (Option Value)} (E : ow_E X own cc nL R0) (d : decode cc pc = .ok (.bastore, 1)) (hS : h.1 a = some (.inr (.boolean, n, κ))) (hk : κ j = none) (hx : x = nI j) (hj : j < n) (hn : n < 2 ^ 31) (k : ow_W X cs sl (ow_pI h a j (w &&& 1)) (pc + 1) lv st) : ow_W X cs sl h pc lv (.int w :: .int x :: .ref a :: st) := by
  obtain ⟨hi, hc⟩ := ow_ix hx hj hn
  obtain ⟨p, l, e, R, s, m, args, below, meth, c, Q, D, A⟩ := X
  obtain ⟨hx0, hb, hown, hts, hK, hA, hml, hR0⟩ := E
  intro H locs ls hR hD hSS hl
  obtain ⟨cA, g1, g2, g3⟩ := hR.1 a _ hS
  refine W.zast hx0 hb g1 (g2 n _) (fun q => by cases q) (by show ¬ (x < 0 ∨ (arrV _ _ _).slots.size ≤ _); rw [arrV_size]; exact hi) rfl rfl d fun H1 e z oq => ?_
  refine k H1 _ ls (hR.wr hS z oq (fun b i hb => ow_u_a _ _ _ _ hb i) (fun _ _ _ => rfl) ⟨cA, ?_, g2, g3⟩) hD (hSS.put z oq (hD a _ hS)) hl
  rw [e, hc, arrV_store]
  congr 2
  funext i
  by_cases hij : i = j
  · subst hij
    show updV _ _ _ _ = ow_v (κ i) (ow_u h.2.1 a i _ a i) _
    rw [ow_u_s, hk]
    simp [updV, ow_v, narrow]
  · show updV _ _ _ _ = ow_v (κ i) (ow_u h.2.1 a j _ a i) _
    rw [ow_u_k _ _ _ _ hij]
    simp [updV, hij]
theorem or_iret {h0 : ow_H} {K : Option Value → ow_H → Prop} {mc ms : Nat} {nm : String} {v : Int32} (E : ow_E X own cc nL R0) (F : ow_F X h0 K mc ms (some .int) nm) (d : decode cc pc = .ok (.ireturn, 1)) (hc : cs ≤ mc) (hs : sl ≤ ms) (k : K (some (.int v)) h) : ow_W X cs sl h pc lv [.int v] := by
  obtain ⟨p, l, e, R, s, m, args, below, meth, c, Q, D, A⟩ := X
  obtain ⟨hx, hb, hown, hts, hK, hA, hml, hR0⟩ := E
  obtain ⟨rfl, rfl, hr, hlocks, hnm⟩ := F
  intro H locs ls hR hD hSS hl
  refine W.widen hc hs ?_
  exact W.iret hx hb hr (fun t ht hW => ⟨⟨_, h, rfl, k, by rw [ht]; exact hR.moved hW.alike, hD⟩, hSS.F ht⟩) hSS.2.2 d hlocks
theorem or_zret {h0 : ow_H} {K : Option Value → ow_H → Prop} {mc ms : Nat} {nm : String} {v : Int32} (E : ow_E X own cc nL R0) (F : ow_F X h0 K mc ms (some .boolean) nm) (d : decode cc pc = .ok (.ireturn, 1)) (hc : cs ≤ mc) (hs : sl ≤ ms) (hv : narrow .boolean (.int v) = .int v) (k : K (some (.int v)) h) : ow_W X cs sl h pc lv [.int v] := by
  obtain ⟨p, l, e, R, s, m, args, below, meth, c, Q, D, A⟩ := X
  obtain ⟨hx, hb, hown, hts, hK, hA, hml, hR0⟩ := E
  obtain ⟨rfl, rfl, hr, hlocks, hnm⟩ := F
  intro H locs ls hR hD hSS hl
  refine W.widen hc hs ?_
  exact W.zret hx hb hr hv (fun t ht hW => ⟨⟨_, h, rfl, k, by rw [ht]; exact hR.moved hW.alike, hD⟩, hSS.F ht⟩) hSS.2.2 d hlocks
theorem or_vret {h0 : ow_H} {K : Option Value → ow_H → Prop} {mc ms : Nat} {nm : String} (E : ow_E X own cc nL R0) (F : ow_F X h0 K mc ms none nm) (d : decode cc pc = .ok (.return_, 1)) (hc : cs ≤ mc) (hs : sl ≤ ms) (k : K none h) : ow_W X cs sl h pc lv [] := by
  obtain ⟨p, l, e, R, s, m, args, below, meth, c, Q, D, A⟩ := X
  obtain ⟨hx, hb, hown, hts, hK, hA, hml, hR0⟩ := E
  obtain ⟨rfl, rfl, hr, hlocks, hnm⟩ := F
  intro H locs ls hR hD hSS hl
  refine W.widen hc hs ?_
  exact W.vret hx hb hr (fun t ht hW => ⟨⟨_, h, rfl, k, by rw [ht]; exact hR.moved hW.alike, hD⟩, hSS.F ht⟩) hSS.2.2 d hlocks
theorem or_dret {h0 : ow_H} {K : Option Value → ow_H → Prop} {mc ms : Nat} {nm : String} {v : UInt64} (E : ow_E X own cc nL R0) (F : ow_F X h0 K mc ms (some .double) nm) (d : decode cc pc = .ok (.dreturn, 1)) (hc : cs ≤ mc) (hs : sl ≤ ms) (k : K (some (.double v)) h) : ow_W X cs sl h pc lv [.double v] := by
  obtain ⟨p, l, e, R, s, m, args, below, meth, c, Q, D, A⟩ := X
  obtain ⟨hx, hb, hown, hts, hK, hA, hml, hR0⟩ := E
  obtain ⟨rfl, rfl, hr, hlocks, hnm⟩ := F
  intro H locs ls hR hD hSS hl
  refine W.widen hc hs ?_
  exact W.dret hx hb hr (fun t ht hW => ⟨⟨_, h, rfl, k, by rw [ht]; exact hR.moved hW.alike, hD⟩, hSS.F ht⟩) hSS.2.2 d hlocks
theorem or_fret {h0 : ow_H} {K : Option Value → ow_H → Prop} {mc ms : Nat} {nm : String} {v : UInt32} (E : ow_E X own cc nL R0) (F : ow_F X h0 K mc ms (some .float) nm) (d : decode cc pc = .ok (.freturn, 1)) (hc : cs ≤ mc) (hs : sl ≤ ms) (k : K (some (.float v)) h) : ow_W X cs sl h pc lv [.float v] := by
  obtain ⟨p, l, e, R, s, m, args, below, meth, c, Q, D, A⟩ := X
  obtain ⟨hx, hb, hown, hts, hK, hA, hml, hR0⟩ := E
  obtain ⟨rfl, rfl, hr, hlocks, hnm⟩ := F
  intro H locs ls hR hD hSS hl
  refine W.widen hc hs ?_
  exact W.fret hx hb hr (fun t ht hW => ⟨⟨_, h, rfl, k, by rw [ht]; exact hR.moved hW.alike, hD⟩, hSS.F ht⟩) hSS.2.2 d hlocks
end OW
end
section
/-! CALLS, over the own frame -/
def ow_mx (y : MethodName) (na : Nat) : Prop := y.cls ≠ "java/lang/invoke/MethodHandle" ∧ y.cls ≠ "java/lang/invoke/VarHandle" ∧ (parseMethodDescriptor y.desc).map (fun d => d.parameters.length) = some na
def ow_lv (own : String) (idx : Nat) (y : MethodName) (cy : ByteArray) (n : Nat) (ret : Option FieldType) (na : Nat) : Prop := Cond.methodLink own idx y ∈ ow_T ∧ Cond.instanceMethod y ∈ ow_T ∧ Cond.selects y.cls y y ∈ ow_T ∧ Cond.initialized y.cls ∈ ow_T ∧ Cond.code y cy n ret ∈ ow_T ∧ ow_mx y na
def ow_ls (own : String) (idx : Nat) (y : MethodName) (cy : ByteArray) (n : Nat) (ret : Option FieldType) (na : Nat) : Prop := y.cls = own ∧ Cond.methodLink own idx y ∈ ow_T ∧ Cond.static y ∈ ow_T ∧ Cond.initialized own ∈ ow_T ∧ Cond.code y cy n ret ∈ ow_T ∧ ow_mx y na
def ow_li (own : String) (idx : Nat) (y : MethodName) (cy : ByteArray) (n : Nat) (na : Nat) : Prop := Cond.methodLink own idx y ∈ ow_T ∧ Cond.instanceMethod y ∈ ow_T ∧ Cond.initialized y.cls ∈ ow_T ∧ Cond.code y cy n none ∈ ow_T ∧ y.name = "<init>" ∧ ow_mx y na
theorem ow_good_code {y : MethodName} {cy : ByteArray} {n : Nat} {ret : Option FieldType} (h : Cond.code y cy n ret ∈ ow_T) : GoodIn ow_T (Cond.code y cy n ret :: ow_T) := fun w hw => by
  rcases List.mem_cons.mp hw with rfl | h1
  · exact ow_T_good _ h
  · exact ow_T_good _ h1
theorem ow_Pc_blind (D : va_G) (as : List Value) (h : ow_H) : FrameBlind (ow_Pc D as h) := fun a U g mk q => ⟨q.1, q.2.1.moved (u := U) (U := U.calling g mk a) (Vm.Alike.refl U.vm), va_K.moved (u := U) (U := U.calling g mk a) (Vm.Alike.refl U.vm) q.2.2⟩
theorem ow_recv {D : va_G} {s : State} {h : ow_H} {H : Heap} {b ci : Nat} {κ : Nat → Option (Option Value)} {r : vw_C} (hK : va_K D ow_cl [] s) (hR : ow_R D s h H) (hS : h.1 b = some (.inl (ci, κ))) (hc : ow_cl[ci]? = some r) : ∃ cell : Cell, H[b]? = some cell ∧ cell.vm.isStatics = false ∧ s.vm.findClass r.1 = some cell.cls := by
  obtain ⟨r', h1, cell, q1, q2, q3, q4⟩ := hR.1 b _ hS
  exact ⟨cell, q1, by rw [q3]; rfl, by rw [q2]; exact (hK.1 ci _ hc).2.1⟩
section OWC
variable {X : ow_X} {cs sl : Nat} {h : ow_H} {pc : Nat} {lv : List (Nat × Value)} {st : List Value} {own : String} {cc : ByteArray} {nL kR mR sR : Nat}
variable {y : MethodName} {cy : ByteArray} {n idx k mc ms na : Nat} {ret : Option FieldType} {P : List Value → ow_H → Prop} {K : List Value → ow_H → Option Value → ow_H → Prop}
/-- behind a call -/
theorem ow_after {p : Program} {l : Launch} {e : Env} {R : Room} {s : State} {m : MethodId} {args : Array Value} {below : List Frame} {meth : Method} {c : Code} {Q : State → Prop} {D : va_G} {A : Nat → Prop} {H : Heap} {locs : List Loc} {ls : Array Slot} {st0 : List Value} {a : Array Value} {Kc : Option Value → ow_H → Prop}
    (hR : ow_R D s h H) (hD : ∀ (q : Nat) (sh : ow_Sh), h.1 q = some sh → A q) (hA : ∀ q, s.heap.size ≤ q → A q) (hSS : va_S A s.heap H locs) (hl : lv_has ls c.maxLocals lv)
    (hr : va_Run p l e R s m args below meth c H locs cs sl mc ms (F0 m pc ls st0) st (ow_Qc D Kc h a) (ow_Dm h))
    (kk : ∀ (r : Option Value) (h1 : ow_H), Kc r h1 → ow_W (p, l, e, R, s, m, args, below, meth, c, Q, D, A) (cs + mc) (sl + ms) h1 (pc + 3) lv (r.toList ++ st)) : W p l e R s m args below meth c H locs cs sl Q (F0 m pc ls st0) := by
  have hDA : ∀ q, ow_Dm h q → A q := fun q hq => by
    rcases hq with ⟨sh, hq⟩ | hq
    · exact hD q sh hq
    · exact hA q (Nat.le_trans hSS.1 (by rw [hR.2]; exact hq))
  intro T hT X
  obtain ⟨v, st₀, t, T', L, h0, X', hL, e1, e2, ⟨⟨r, h1, hv, hk, hR1, hd1⟩, hz, hk1⟩, st⟩ := hr T hT X
  cases hv
  rw [h0] at hz hk1
  obtain ⟨t2, a1, b1⟩ := kk v h1 hk T'.heap (locs ++ L) ls (by rw [e1]; exact hR1.moved (by rw [← e2]; exact X'.warmed.alike.symm)) (fun q sh hq => hDA q (hd1 q sh hq))
    ⟨Nat.le_trans hSS.1 (by rw [e1]; exact hz), fun q g1 g2 => by rw [e1, hk1 q (Nat.lt_of_lt_of_le g1 hSS.1) (fun z => g2 (hDA q z))]; exact hSS.2.1 q g1 g2, fun q hq => by
      rcases List.mem_append.mp hq with h | h
      · exact hSS.2.2 q h
      · exact hDA _ (hL q h)⟩ hl T' rfl X'
  exact ⟨t2, st t2 a1, b1⟩
theorem or_callV {b ci : Nat} {κ : Nat → Option (Option Value)} {r0 : vw_C} (As : List Value) (hC : ow_C y cy n ret k mc ms P K) (E : ow_E X own cc nL (ow_rm kR mR sR)) (L : ow_lv own idx y cy n ret na) (d : decode cc pc = .ok (.invokevirtual idx, 3)) (hS : h.1 b = some (.inl (ci, κ))) (hc : ow_cl[ci]? = some r0) (hy : r0.1 = y.cls)
    (hn : As.length = na) (hk : k + 1 ≤ kR) (hn2 : n ≤ 20) (hm : cs + mc ≤ mR ∧ sl + ms ≤ sR) (hst : (st.map fun v => v.category).sum ≤ 8) (hP : P (.ref b :: As) h)
    (kk : ∀ (r : Option Value) (h1 : ow_H), K (.ref b :: As) h r h1 → ow_W X (cs + mc) (sl + ms) h1 (pc + 3) lv (r.toList ++ st)) : ow_W X cs sl h pc lv (As.reverse ++ .ref b :: st) := by
  obtain ⟨p, l, e, R, s, m, args, below, meth, c, Q, D, A⟩ := X
  obtain ⟨hx, hb, hown, hts, hK, hA, hml, rfl⟩ := E
  obtain ⟨w1, w2, w3, w4, w5, w6⟩ := L
  intro H locs ls hR hD hSS hl
  have hGI : GoodIn ow_T (wsV own idx y.cls y (Cond.code y cy n ret :: ow_T)) := fun w hw => by
    have hw' : w = Cond.methodLink own idx y ∨ w = Cond.instanceMethod y ∨ w = Cond.selects y.cls y y ∨ w = Cond.initialized y.cls ∨ w ∈ (Cond.code y cy n ret :: ow_T) := by simpa [wsV] using hw
    rcases hw' with rfl | rfl | rfl | rfl | h1
    · exact ow_T_good _ w1
    · exact ow_T_good _ w2
    · exact ow_T_good _ w3
    · exact ow_T_good _ w4
    · exact ow_good_code w5 w h1
  have cw := cwV (R := ow_rm kR mR sR) (rm := ow_rm k mc ms) (mc := mc) (ms := ms) na hts hGI rfl rfl rfl ⟨rfl, w6⟩ ⟨hk, by show 8 + (n + 11) + 40 * k ≤ 40 * kR; omega⟩
  refine ow_after hR hD hA hSS hl (va_runV (As := As) (rest := st) ⟨hx, hb, rfl, hown, hts⟩ (hC l D (.ref b :: As) h hP) cw ⟨ow_Pc_blind D _ h, by have := ow_recv hK hR hS hc; rw [hy] at this; exact this, fun U hU hW => ⟨rfl, by rw [hU]; exact hR.moved hW.alike, va_K.moved hW.alike hK⟩⟩ rfl hn hl.1 rfl (lv_room hst) d hm) kk
theorem or_callS (As : List Value) (hC : ow_C y cy n ret k mc ms P K) (E : ow_E X own cc nL (ow_rm kR mR sR)) (L : ow_ls own idx y cy n ret na) (d : decode cc pc = .ok (.invokestatic idx, 3))
    (hn : As.length = na) (hk : k + 1 ≤ kR) (hn2 : n ≤ 20) (hm : cs + mc ≤ mR ∧ sl + ms ≤ sR) (hst : (st.map fun v => v.category).sum ≤ 8) (hP : P As h)
    (kk : ∀ (r : Option Value) (h1 : ow_H), K As h r h1 → ow_W X (cs + mc) (sl + ms) h1 (pc + 3) lv (r.toList ++ st)) : ow_W X cs sl h pc lv (As.reverse ++ st) := by
  obtain ⟨p, l, e, R, s, m, args, below, meth, c, Q, D, A⟩ := X
  obtain ⟨hx, hb, hown, hts, hK, hA, hml, rfl⟩ := E
  obtain ⟨w0, w1, w2, w3, w4, w5⟩ := L
  intro H locs ls hR hD hSS hl
  have hGI : GoodIn ow_T (wsS own idx y (Cond.code y cy n ret :: ow_T)) := fun w hw => by
    have hw' : w = Cond.methodLink own idx y ∨ w = Cond.static y ∨ w = Cond.initialized own ∨ w ∈ (Cond.code y cy n ret :: ow_T) := by simpa [wsS] using hw
    rcases hw' with rfl | rfl | rfl | h1
    · exact ow_T_good _ w1
    · exact ow_T_good _ w2
    · exact ow_T_good _ w3
    · exact ow_good_code w4 w h1
  have cw := cwS (R := ow_rm kR mR sR) (rm := ow_rm k mc ms) (mc := mc) (ms := ms) na hts hGI rfl rfl rfl ⟨w0, w5⟩ ⟨hk, by show 8 + (n + 11) + 40 * k ≤ 40 * kR; omega⟩
  refine ow_after hR hD hA hSS hl (va_runS (As := As) (rest := st) ⟨hx, hb, rfl, hown, hts⟩ (hC l D As h hP) cw ⟨ow_Pc_blind D _ h, fun U hU hW => ⟨rfl, by rw [hU]; exact hR.moved hW.alike, va_K.moved hW.alike hK⟩⟩ rfl hn hl.1 rfl (lv_room hst) d hm) kk
theorem or_callI {b : Nat} (As : List Value) (hC : ow_C y cy n none k mc ms P K) (E : ow_E X own cc nL (ow_rm kR mR sR)) (L : ow_li own idx y cy n na) (d : decode cc pc = .ok (.invokespecial idx, 3))
    (hn : As.length = na) (hk : k + 1 ≤ kR) (hn2 : n ≤ 20) (hm : cs + mc ≤ mR ∧ sl + ms ≤ sR) (hst : (st.map fun v => v.category).sum ≤ 8) (hP : P (.ref b :: As) h)
    (kk : ∀ (r : Option Value) (h1 : ow_H), K (.ref b :: As) h r h1 → ow_W X (cs + mc) (sl + ms) h1 (pc + 3) lv (r.toList ++ st)) : ow_W X cs sl h pc lv (As.reverse ++ .ref b :: st) := by
  obtain ⟨p, l, e, R, s, m, args, below, meth, c, Q, D, A⟩ := X
  obtain ⟨hx, hb, hown, hts, hK, hA, hml, rfl⟩ := E
  obtain ⟨w1, w2, w3, w4, w5, w6⟩ := L
  intro H locs ls hR hD hSS hl
  have cw := cwI (R := ow_rm kR mR sR) (rm := ow_rm k mc ms) (mc := mc) (ms := ms) na hts (ow_good_code w4) rfl rfl rfl (hts _ w3) (hts _ w1) (hts _ w2) w5 w6 ⟨hk, by show 8 + (n + 11) + 40 * k ≤ 40 * kR; omega⟩
  refine ow_after hR hD hA hSS hl (va_runI (As := As) (rest := st) ⟨hx, hb, rfl, hown, hts⟩ (hC l D (.ref b :: As) h hP) cw ⟨ow_Pc_blind D _ h, fun U hU hW => ⟨rfl, by rw [hU]; exact hR.moved hW.alike, va_K.moved hW.alike hK⟩⟩ rfl hn hl.1 rfl (lv_room hst) d hm) kk
end OWC
end
section
/-! ROWS over numbers and truth values; contracts that say all (answer and heap as functions) -/
def bi (b : Bool) : Int32 := match b with
  | true => 1
  | false => 0
theorem bi_ne {b : Bool} (h : ¬ bi b = 0) : b = true := by cases b with
  | true => rfl
  | false => exact absurd rfl h
theorem bi_eq {b : Bool} (h : bi b = 0) : b = false := by cases b with
  | true => exact absurd h (by decide)
  | false => rfl
theorem bi_nar (b : Bool) : narrow .boolean (.int (bi b)) = .int (bi b) := by cases b <;> rfl
abbrev ow_I : Type := Nat → Nat → Int32
/-- an int that is used as a number -/
def tn (x : Int32) : Nat := x.toNatClampNeg
theorem tn_nI {n : Nat} (h : n < 2 ^ 31) : tn (nI n) = n := nI_clamp h
theorem nI_tn {x : Int32} (h : 0 ≤ x) : nI (tn x) = x := by
  obtain ⟨j, hj, rfl⟩ := nI_of (x := x) (by rw [Int32.lt_iff_toInt_lt]; rw [Int32.le_iff_toInt_le] at h; omega)
  rw [tn_nI hj]
/-- a contract that says all -/
def ow_Cf (y : MethodName) (cy : ByteArray) (n : Nat) (ret : Option FieldType) (k : Nat) (as : List Value) (h : ow_H) (r : Option Value) (h1 : ow_H) : Prop :=
  ow_C y cy n ret k 0 0 (fun as' h' => as' = as ∧ h' = h) (fun _ _ r' h1' => r' = r ∧ h1' = h1)
theorem ow_Cf.of {y : MethodName} {cy : ByteArray} {n : Nat} {ret : Option FieldType} {k : Nat} {as : List Value} {h : ow_H} {r : Option Value} {h1 : ow_H} (hy : plainName y.cls = true) (hlen : (lg_sl as).length ≤ n)
    (body : ∀ (X : ow_X) (K : Option Value → ow_H → Prop), ow_E X y.cls cy n (ow_rm k 0 0) → ow_F X h K 0 0 ret y.name → K r h1 → ow_W X 0 0 h 0 (lv_args 0 as) []) : ow_Cf y cy n ret k as h r h1 := by
  refine ow_C.of hy ?_
  rintro X as' h' ⟨rfl, rfl⟩ E F
  exact ⟨hlen, body X _ E F ⟨rfl, rfl⟩⟩
def lt {α β : Type} (a : α) (f : α → β) : β := f a
theorem lt_eq {α β : Type} (a : α) (f : α → β) : lt a f = f a := Eq.trans rfl rfl
theorem lt_k {α β : Type} {v : α} {f : α → β} {P : β → Prop} {x : α} (hx : x = v) (hk : P (lt v f)) : P (f x) := by subst hx; exact hk
theorem ite_p {α : Sort _} {c : Prop} {dc : Decidable c} {A B : α} {P : α → Prop} (hc : c) (hk : P (@ite α c dc A B)) : P A := by rw [if_pos hc] at hk; exact hk
theorem ite_n {α : Sort _} {c : Prop} {dc : Decidable c} {A B : α} {P : α → Prop} (hc : ¬ c) (hk : P (@ite α c dc A B)) : P B := by rw [if_neg hc] at hk; exact hk
section OWN
variable {X : ow_X} {cs sl : Nat} {h : ow_H} {pc : Nat} {lv : List (Nat × Value)} {st : List Value} {own : String} {cc : ByteArray} {nL : Nat} {R0 : Room}
theorem or_top {x y : Int32} (e : x = y) (k : ow_W X cs sl h pc lv (.int y :: st)) : ow_W X cs sl h pc lv (.int x :: st) := by rw [e]; exact k
theorem or_heap {h' : ow_H} (e : h = h') (k : ow_W X cs sl h' pc lv st) : ow_W X cs sl h pc lv st := by rw [e]; exact k
theorem or_iaddN {a b : Nat} (E : ow_E X own cc nL R0) (d : decode cc pc = .ok (.iadd, 1)) (k : ow_W X cs sl h (pc + 1) lv (.int (nI (a + b)) :: st)) : ow_W X cs sl h pc lv (.int (nI b) :: .int (nI a) :: st) := or_iadd E d (by rw [nI_add]; exact k)
theorem or_imulN {a b : Nat} (E : ow_E X own cc nL R0) (d : decode cc pc = .ok (.imul, 1)) (k : ow_W X cs sl h (pc + 1) lv (.int (nI (a * b)) :: st)) : ow_W X cs sl h pc lv (.int (nI b) :: .int (nI a) :: st) := or_imul E d (by rw [pk_mul]; exact k)
theorem or_isubN {a b : Nat} (E : ow_E X own cc nL R0) (d : decode cc pc = .ok (.isub, 1)) (hb : b ≤ a) (k : ow_W X cs sl h (pc + 1) lv (.int (nI (a - b)) :: st)) : ow_W X cs sl h pc lv (.int (nI b) :: .int (nI a) :: st) := or_isub E d (by rw [pk_sub hb]; exact k)
theorem or_idivN {a b : Nat} (E : ow_E X own cc nL R0) (d : decode cc pc = .ok (.idiv, 1)) (ha : a < 2 ^ 31) (h0 : 0 < b) (hb : b < 2 ^ 31) (k : ow_W X cs sl h (pc + 1) lv (.int (nI (a / b)) :: st)) : ow_W X cs sl h pc lv (.int (nI b) :: .int (nI a) :: st) := or_idiv E (nI_ne0 h0 hb) d (by rw [pk_div ha h0 hb]; exact k)
theorem or_iremN {a b : Nat} (E : ow_E X own cc nL R0) (d : decode cc pc = .ok (.irem, 1)) (ha : a < 2 ^ 31) (h0 : 0 < b) (hb : b < 2 ^ 31) (k : ow_W X cs sl h (pc + 1) lv (.int (nI (a % b)) :: st)) : ow_W X cs sl h pc lv (.int (nI b) :: .int (nI a) :: st) := or_irem E (nI_ne0 h0 hb) d (by rw [pk_rem ha h0 hb]; exact k)
theorem or_iincN {j a c : Nat} {n : Int} (E : ow_E X own cc nL R0) (d : decode cc pc = .ok (.iinc j n, 3)) (hn : Int32.ofInt n = nI c) (hg : ow_g lv j = some (.int (nI a))) (hj : j < nL) (k : ow_W X cs sl h (pc + 3) (ow_s lv j (.int (nI (a + c)))) st) : ow_W X cs sl h pc lv st := or_iinc E d hg hj (by rw [hn, nI_add]; exact k)
theorem or_iincM {j a : Nat} (E : ow_E X own cc nL R0) (d : decode cc pc = .ok (.iinc j (-1), 3)) (ha : 1 ≤ a) (hg : ow_g lv j = some (.int (nI a))) (hj : j < nL) (k : ow_W X cs sl h (pc + 3) (ow_s lv j (.int (nI (a - 1)))) st) : ow_W X cs sl h pc lv st := or_iinc E d hg hj (by
  obtain ⟨b, rfl⟩ : ∃ b, a = b + 1 := ⟨a - 1, by omega⟩
  rw [show Int32.ofInt (-1) = (-1 : Int32) from rfl, pk_m1]
  exact k)
theorem or_icmp_eqN {a b : Nat} {off : Int} (t : Nat) (E : ow_E X own cc nL R0) (d : decode cc pc = .ok (.if_icmp .eq off, 3)) (ht : (pc : Int) + off = (t : Int)) (ha : a < 2 ^ 31) (hb : b < 2 ^ 31) (kt : a = b → ow_W X cs sl h t lv st) (kf : ¬ a = b → ow_W X cs sl h (pc + 3) lv st) : ow_W X cs sl h pc lv (.int (nI b) :: .int (nI a) :: st) := or_icmp_eq t E d ht (fun q => kt ((nI_eq ha hb).mp q)) (fun q => kf (fun z => q ((nI_eq ha hb).mpr z)))
theorem or_icmp_neN {a b : Nat} {off : Int} (t : Nat) (E : ow_E X own cc nL R0) (d : decode cc pc = .ok (.if_icmp .ne off, 3)) (ht : (pc : Int) + off = (t : Int)) (ha : a < 2 ^ 31) (hb : b < 2 ^ 31) (kt : ¬ a = b → ow_W X cs sl h t lv st) (kf : a = b → ow_W X cs sl h (pc + 3) lv st) : ow_W X cs sl h pc lv (.int (nI b) :: .int (nI a) :: st) := or_icmp_ne t E d ht (fun q => kt (fun z => q ((nI_eq ha hb).mpr z))) (fun q => kf ((nI_eq ha hb).mp q))
theorem or_icmp_ltN {a b : Nat} {off : Int} (t : Nat) (E : ow_E X own cc nL R0) (d : decode cc pc = .ok (.if_icmp .lt off, 3)) (ht : (pc : Int) + off = (t : Int)) (ha : a < 2 ^ 31) (hb : b < 2 ^ 31) (kt : a < b → ow_W X cs sl h t lv st) (kf : ¬ (a < b) → ow_W X cs sl h (pc + 3) lv st) : ow_W X cs sl h pc lv (.int (nI b) :: .int (nI a) :: st) := or_icmp_lt t E d ht (fun q => kt ((nI_ltI ha hb).mp q)) (fun q => kf (fun z => q ((nI_ltI ha hb).mpr z)))
theorem or_icmp_geN {a b : Nat} {off : Int} (t : Nat) (E : ow_E X own cc nL R0) (d : decode cc pc = .ok (.if_icmp .ge off, 3)) (ht : (pc : Int) + off = (t : Int)) (ha : a < 2 ^ 31) (hb : b < 2 ^ 31) (kt : b ≤ a → ow_W X cs sl h t lv st) (kf : ¬ (b ≤ a) → ow_W X cs sl h (pc + 3) lv st) : ow_W X cs sl h pc lv (.int (nI b) :: .int (nI a) :: st) := or_icmp_ge t E d ht (fun q => kt ((nI_leI hb ha).mp q)) (fun q => kf (fun z => q ((nI_leI hb ha).mpr z)))
theorem or_icmp_gtN {a b : Nat} {off : Int} (t : Nat) (E : ow_E X own cc nL R0) (d : decode cc pc = .ok (.if_icmp .gt off, 3)) (ht : (pc : Int) + off = (t : Int)) (ha : a < 2 ^ 31) (hb : b < 2 ^ 31) (kt : b < a → ow_W X cs sl h t lv st) (kf : ¬ (b < a) → ow_W X cs sl h (pc + 3) lv st) : ow_W X cs sl h pc lv (.int (nI b) :: .int (nI a) :: st) := or_icmp_gt t E d ht (fun q => kt ((nI_ltI hb ha).mp q)) (fun q => kf (fun z => q ((nI_ltI hb ha).mpr z)))
theorem or_icmp_leN {a b : Nat} {off : Int} (t : Nat) (E : ow_E X own cc nL R0) (d : decode cc pc = .ok (.if_icmp .le off, 3)) (ht : (pc : Int) + off = (t : Int)) (ha : a < 2 ^ 31) (hb : b < 2 ^ 31) (kt : a ≤ b → ow_W X cs sl h t lv st) (kf : ¬ (a ≤ b) → ow_W X cs sl h (pc + 3) lv st) : ow_W X cs sl h pc lv (.int (nI b) :: .int (nI a) :: st) := or_icmp_le t E d ht (fun q => kt ((nI_leI ha hb).mp q)) (fun q => kf (fun z => q ((nI_leI ha hb).mpr z)))
theorem nI_z {a : Nat} (ha : a < 2 ^ 31) : nI a = 0 ↔ a = 0 := by rw [← nI_0, nI_eq ha (by decide)]
theorem or_if_eqN {a : Nat} {off : Int} (t : Nat) (E : ow_E X own cc nL R0) (d : decode cc pc = .ok (.ifCond .eq off, 3)) (ht : (pc : Int) + off = (t : Int)) (ha : a < 2 ^ 31) (kt : a = 0 → ow_W X cs sl h t lv st) (kf : ¬ a = 0 → ow_W X cs sl h (pc + 3) lv st) : ow_W X cs sl h pc lv (.int (nI a) :: st) := or_if_eq t E d ht (fun q => kt ((nI_z ha).mp q)) (fun q => kf (fun z => q ((nI_z ha).mpr z)))
theorem or_if_neN {a : Nat} {off : Int} (t : Nat) (E : ow_E X own cc nL R0) (d : decode cc pc = .ok (.ifCond .ne off, 3)) (ht : (pc : Int) + off = (t : Int)) (ha : a < 2 ^ 31) (kt : ¬ a = 0 → ow_W X cs sl h t lv st) (kf : a = 0 → ow_W X cs sl h (pc + 3) lv st) : ow_W X cs sl h pc lv (.int (nI a) :: st) := or_if_ne t E d ht (fun q => kt (fun z => q ((nI_z ha).mpr z))) (fun q => kf ((nI_z ha).mp q))
theorem or_if_eqZ {b : Bool} {off : Int} (t : Nat) (E : ow_E X own cc nL R0) (d : decode cc pc = .ok (.ifCond .eq off, 3)) (ht : (pc : Int) + off = (t : Int)) (kt : b = false → ow_W X cs sl h t lv st) (kf : b = true → ow_W X cs sl h (pc + 3) lv st) : ow_W X cs sl h pc lv (.int (bi b) :: st) := or_if_eq t E d ht (fun q => kt (bi_eq q)) (fun q => kf (bi_ne q))
theorem or_if_neZ {b : Bool} {off : Int} (t : Nat) (E : ow_E X own cc nL R0) (d : decode cc pc = .ok (.ifCond .ne off, 3)) (ht : (pc : Int) + off = (t : Int)) (kt : b = true → ow_W X cs sl h t lv st) (kf : b = false → ow_W X cs sl h (pc + 3) lv st) : ow_W X cs sl h pc lv (.int (bi b) :: st) := or_if_ne t E d ht (fun q => kt (bi_ne q)) (fun q => kf (bi_eq q))
end OWN
section OWD
variable {X : ow_X} {cs sl : Nat} {h h1 : ow_H} {pc : Nat} {lv : List (Nat × Value)} {st : List Value} {own : String} {cc : ByteArray} {nL kR mR sR : Nat}
variable {y : MethodName} {cy : ByteArray} {n idx k na : Nat} {ret : Option FieldType}
theorem or_cV0v {b ci : Nat} {κ : Nat → Option (Option Value)} {r0 : vw_C} (hC : ow_Cf y cy n ret k [.ref b] h (none) h1) (E : ow_E X own cc nL (ow_rm kR mR sR)) (L : ow_lv own idx y cy n ret 0) (d : decode cc pc = .ok (.invokevirtual idx, 3)) (hS : h.1 b = some (.inl (ci, κ))) (hc : ow_cl[ci]? = some r0) (hy : r0.1 = y.cls) (hk : k + 1 ≤ kR) (hn2 : n ≤ 20) (hm : cs ≤ mR ∧ sl ≤ sR) (hst : (st.map fun v => v.category).sum ≤ 8) (kk : ow_W X cs sl h1 (pc + 3) lv (st)) : ow_W X cs sl h pc lv (.ref b :: st) := or_callV [] hC E L d hS hc hy rfl hk hn2 hm hst ⟨rfl, rfl⟩ (fun r h2 q => by obtain ⟨rfl, rfl⟩ := q; exact kk)
theorem or_cV0r {v : Value} {b ci : Nat} {κ : Nat → Option (Option Value)} {r0 : vw_C} (hC : ow_Cf y cy n ret k [.ref b] h (some v) h1) (E : ow_E X own cc nL (ow_rm kR mR sR)) (L : ow_lv own idx y cy n ret 0) (d : decode cc pc = .ok (.invokevirtual idx, 3)) (hS : h.1 b = some (.inl (ci, κ))) (hc : ow_cl[ci]? = some r0) (hy : r0.1 = y.cls) (hk : k + 1 ≤ kR) (hn2 : n ≤ 20) (hm : cs ≤ mR ∧ sl ≤ sR) (hst : (st.map fun v => v.category).sum ≤ 8) (kk : ow_W X cs sl h1 (pc + 3) lv (v :: st)) : ow_W X cs sl h pc lv (.ref b :: st) := or_callV [] hC E L d hS hc hy rfl hk hn2 hm hst ⟨rfl, rfl⟩ (fun r h2 q => by obtain ⟨rfl, rfl⟩ := q; exact kk)
theorem or_cV1v {x0 : Value} {b ci : Nat} {κ : Nat → Option (Option Value)} {r0 : vw_C} (hC : ow_Cf y cy n ret k [.ref b, x0] h (none) h1) (E : ow_E X own cc nL (ow_rm kR mR sR)) (L : ow_lv own idx y cy n ret 1) (d : decode cc pc = .ok (.invokevirtual idx, 3)) (hS : h.1 b = some (.inl (ci, κ))) (hc : ow_cl[ci]? = some r0) (hy : r0.1 = y.cls) (hk : k + 1 ≤ kR) (hn2 : n ≤ 20) (hm : cs ≤ mR ∧ sl ≤ sR) (hst : (st.map fun v => v.category).sum ≤ 8) (kk : ow_W X cs sl h1 (pc + 3) lv (st)) : ow_W X cs sl h pc lv (x0 :: .ref b :: st) := or_callV [x0] hC E L d hS hc hy rfl hk hn2 hm hst ⟨rfl, rfl⟩ (fun r h2 q => by obtain ⟨rfl, rfl⟩ := q; exact kk)
theorem or_cV1r {x0 : Value} {v : Value} {b ci : Nat} {κ : Nat → Option (Option Value)} {r0 : vw_C} (hC : ow_Cf y cy n ret k [.ref b, x0] h (some v) h1) (E : ow_E X own cc nL (ow_rm kR mR sR)) (L : ow_lv own idx y cy n ret 1) (d : decode cc pc = .ok (.invokevirtual idx, 3)) (hS : h.1 b = some (.inl (ci, κ))) (hc : ow_cl[ci]? = some r0) (hy : r0.1 = y.cls) (hk : k + 1 ≤ kR) (hn2 : n ≤ 20) (hm : cs ≤ mR ∧ sl ≤ sR) (hst : (st.map fun v => v.category).sum ≤ 8) (kk : ow_W X cs sl h1 (pc + 3) lv (v :: st)) : ow_W X cs sl h pc lv (x0 :: .ref b :: st) := or_callV [x0] hC E L d hS hc hy rfl hk hn2 hm hst ⟨rfl, rfl⟩ (fun r h2 q => by obtain ⟨rfl, rfl⟩ := q; exact kk)
theorem or_cV2v {x0 x1 : Value} {b ci : Nat} {κ : Nat → Option (Option Value)} {r0 : vw_C} (hC : ow_Cf y cy n ret k [.ref b, x0, x1] h (none) h1) (E : ow_E X own cc nL (ow_rm kR mR sR)) (L : ow_lv own idx y cy n ret 2) (d : decode cc pc = .ok (.invokevirtual idx, 3)) (hS : h.1 b = some (.inl (ci, κ))) (hc : ow_cl[ci]? = some r0) (hy : r0.1 = y.cls) (hk : k + 1 ≤ kR) (hn2 : n ≤ 20) (hm : cs ≤ mR ∧ sl ≤ sR) (hst : (st.map fun v => v.category).sum ≤ 8) (kk : ow_W X cs sl h1 (pc + 3) lv (st)) : ow_W X cs sl h pc lv (x1 :: x0 :: .ref b :: st) := or_callV [x0, x1] hC E L d hS hc hy rfl hk hn2 hm hst ⟨rfl, rfl⟩ (fun r h2 q => by obtain ⟨rfl, rfl⟩ := q; exact kk)
theorem or_cV2r {x0 x1 : Value} {v : Value} {b ci : Nat} {κ : Nat → Option (Option Value)} {r0 : vw_C} (hC : ow_Cf y cy n ret k [.ref b, x0, x1] h (some v) h1) (E : ow_E X own cc nL (ow_rm kR mR sR)) (L : ow_lv own idx y cy n ret 2) (d : decode cc pc = .ok (.invokevirtual idx, 3)) (hS : h.1 b = some (.inl (ci, κ))) (hc : ow_cl[ci]? = some r0) (hy : r0.1 = y.cls) (hk : k + 1 ≤ kR) (hn2 : n ≤ 20) (hm : cs ≤ mR ∧ sl ≤ sR) (hst : (st.map fun v => v.category).sum ≤ 8) (kk : ow_W X cs sl h1 (pc + 3) lv (v :: st)) : ow_W X cs sl h pc lv (x1 :: x0 :: .ref b :: st) := or_callV [x0, x1] hC E L d hS hc hy rfl hk hn2 hm hst ⟨rfl, rfl⟩ (fun r h2 q => by obtain ⟨rfl, rfl⟩ := q; exact kk)
theorem or_cV3v {x0 x1 x2 : Value} {b ci : Nat} {κ : Nat → Option (Option Value)} {r0 : vw_C} (hC : ow_Cf y cy n ret k [.ref b, x0, x1, x2] h (none) h1) (E : ow_E X own cc nL (ow_rm kR mR sR)) (L : ow_lv own idx y cy n ret 3) (d : decode cc pc = .ok (.invokevirtual idx, 3)) (hS : h.1 b = some (.inl (ci, κ))) (hc : ow_cl[ci]? = some r0) (hy : r0.1 = y.cls) (hk : k + 1 ≤ kR) (hn2 : n ≤ 20) (hm : cs ≤ mR ∧ sl ≤ sR) (hst : (st.map fun v => v.category).sum ≤ 8) (kk : ow_W X cs sl h1 (pc + 3) lv (st)) : ow_W X cs sl h pc lv (x2 :: x1 :: x0 :: .ref b :: st) := or_callV [x0, x1, x2] hC E L d hS hc hy rfl hk hn2 hm hst ⟨rfl, rfl⟩ (fun r h2 q => by obtain ⟨rfl, rfl⟩ := q; exact kk)
theorem or_cV3r {x0 x1 x2 : Value} {v : Value} {b ci : Nat} {κ : Nat → Option (Option Value)} {r0 : vw_C} (hC : ow_Cf y cy n ret k [.ref b, x0, x1, x2] h (some v) h1) (E : ow_E X own cc nL (ow_rm kR mR sR)) (L : ow_lv own idx y cy n ret 3) (d : decode cc pc = .ok (.invokevirtual idx, 3)) (hS : h.1 b = some (.inl (ci, κ))) (hc : ow_cl[ci]? = some r0) (hy : r0.1 = y.cls) (hk : k + 1 ≤ kR) (hn2 : n ≤ 20) (hm : cs ≤ mR ∧ sl ≤ sR) (hst : (st.map fun v => v.category).sum ≤ 8) (kk : ow_W X cs sl h1 (pc + 3) lv (v :: st)) : ow_W X cs sl h pc lv (x2 :: x1 :: x0 :: .ref b :: st) := or_callV [x0, x1, x2] hC E L d hS hc hy rfl hk hn2 hm hst ⟨rfl, rfl⟩ (fun r h2 q => by obtain ⟨rfl, rfl⟩ := q; exact kk)
theorem or_cV4v {x0 x1 x2 x3 : Value} {b ci : Nat} {κ : Nat → Option (Option Value)} {r0 : vw_C} (hC : ow_Cf y cy n ret k [.ref b, x0, x1, x2, x3] h (none) h1) (E : ow_E X own cc nL (ow_rm kR mR sR)) (L : ow_lv own idx y cy n ret 4) (d : decode cc pc = .ok (.invokevirtual idx, 3)) (hS : h.1 b = some (.inl (ci, κ))) (hc : ow_cl[ci]? = some r0) (hy : r0.1 = y.cls) (hk : k + 1 ≤ kR) (hn2 : n ≤ 20) (hm : cs ≤ mR ∧ sl ≤ sR) (hst : (st.map fun v => v.category).sum ≤ 8) (kk : ow_W X cs sl h1 (pc + 3) lv (st)) : ow_W X cs sl h pc lv (x3 :: x2 :: x1 :: x0 :: .ref b :: st) := or_callV [x0, x1, x2, x3] hC E L d hS hc hy rfl hk hn2 hm hst ⟨rfl, rfl⟩ (fun r h2 q => by obtain ⟨rfl, rfl⟩ := q; exact kk)
theorem or_cV4r {x0 x1 x2 x3 : Value} {v : Value} {b ci : Nat} {κ : Nat → Option (Option Value)} {r0 : vw_C} (hC : ow_Cf y cy n ret k [.ref b, x0, x1, x2, x3] h (some v) h1) (E : ow_E X own cc nL (ow_rm kR mR sR)) (L : ow_lv own idx y cy n ret 4) (d : decode cc pc = .ok (.invokevirtual idx, 3)) (hS : h.1 b = some (.inl (ci, κ))) (hc : ow_cl[ci]? = some r0) (hy : r0.1 = y.cls) (hk : k + 1 ≤ kR) (hn2 : n ≤ 20) (hm : cs ≤ mR ∧ sl ≤ sR) (hst : (st.map fun v => v.category).sum ≤ 8) (kk : ow_W X cs sl h1 (pc + 3) lv (v :: st)) : ow_W X cs sl h pc lv (x3 :: x2 :: x1 :: x0 :: .ref b :: st) := or_callV [x0, x1, x2, x3] hC E L d hS hc hy rfl hk hn2 hm hst ⟨rfl, rfl⟩ (fun r h2 q => by obtain ⟨rfl, rfl⟩ := q; exact kk)
theorem or_cV5v {x0 x1 x2 x3 x4 : Value} {b ci : Nat} {κ : Nat → Option (Option Value)} {r0 : vw_C} (hC : ow_Cf y cy n ret k [.ref b, x0, x1, x2, x3, x4] h (none) h1) (E : ow_E X own cc nL (ow_rm kR mR sR)) (L : ow_lv own idx y cy n ret 5) (d : decode cc pc = .ok (.invokevirtual idx, 3)) (hS : h.1 b = some (.inl (ci, κ))) (hc : ow_cl[ci]? = some r0) (hy : r0.1 = y.cls) (hk : k + 1 ≤ kR) (hn2 : n ≤ 20) (hm : cs ≤ mR ∧ sl ≤ sR) (hst : (st.map fun v => v.category).sum ≤ 8) (kk : ow_W X cs sl h1 (pc + 3) lv (st)) : ow_W X cs sl h pc lv (x4 :: x3 :: x2 :: x1 :: x0 :: .ref b :: st) := or_callV [x0, x1, x2, x3, x4] hC E L d hS hc hy rfl hk hn2 hm hst ⟨rfl, rfl⟩ (fun r h2 q => by obtain ⟨rfl, rfl⟩ := q; exact kk)
theorem or_cV5r {x0 x1 x2 x3 x4 : Value} {v : Value} {b ci : Nat} {κ : Nat → Option (Option Value)} {r0 : vw_C} (hC : ow_Cf y cy n ret k [.ref b, x0, x1, x2, x3, x4] h (some v) h1) (E : ow_E X own cc nL (ow_rm kR mR sR)) (L : ow_lv own idx y cy n ret 5) (d : decode cc pc = .ok (.invokevirtual idx, 3)) (hS : h.1 b = some (.inl (ci, κ))) (hc : ow_cl[ci]? = some r0) (hy : r0.1 = y.cls) (hk : k + 1 ≤ kR) (hn2 : n ≤ 20) (hm : cs ≤ mR ∧ sl ≤ sR) (hst : (st.map fun v => v.category).sum ≤ 8) (kk : ow_W X cs sl h1 (pc + 3) lv (v :: st)) : ow_W X cs sl h pc lv (x4 :: x3 :: x2 :: x1 :: x0 :: .ref b :: st) := or_callV [x0, x1, x2, x3, x4] hC E L d hS hc hy rfl hk hn2 hm hst ⟨rfl, rfl⟩ (fun r h2 q => by obtain ⟨rfl, rfl⟩ := q; exact kk)
theorem or_cV6v {x0 x1 x2 x3 x4 x5 : Value} {b ci : Nat} {κ : Nat → Option (Option Value)} {r0 : vw_C} (hC : ow_Cf y cy n ret k [.ref b, x0, x1, x2, x3, x4, x5] h (none) h1) (E : ow_E X own cc nL (ow_rm kR mR sR)) (L : ow_lv own idx y cy n ret 6) (d : decode cc pc = .ok (.invokevirtual idx, 3)) (hS : h.1 b = some (.inl (ci, κ))) (hc : ow_cl[ci]? = some r0) (hy : r0.1 = y.cls) (hk : k + 1 ≤ kR) (hn2 : n ≤ 20) (hm : cs ≤ mR ∧ sl ≤ sR) (hst : (st.map fun v => v.category).sum ≤ 8) (kk : ow_W X cs sl h1 (pc + 3) lv (st)) : ow_W X cs sl h pc lv (x5 :: x4 :: x3 :: x2 :: x1 :: x0 :: .ref b :: st) := or_callV [x0, x1, x2, x3, x4, x5] hC E L d hS hc hy rfl hk hn2 hm hst ⟨rfl, rfl⟩ (fun r h2 q => by obtain ⟨rfl, rfl⟩ := q; exact kk)
theorem or_cV6r {x0 x1 x2 x3 x4 x5 : Value} {v : Value} {b ci : Nat} {κ : Nat → Option (Option Value)} {r0 : vw_C} (hC : ow_Cf y cy n ret k [.ref b, x0, x1, x2, x3, x4, x5] h (some v) h1) (E : ow_E X own cc nL (ow_rm kR mR sR)) (L : ow_lv own idx y cy n ret 6) (d : decode cc pc = .ok (.invokevirtual idx, 3)) (hS : h.1 b = some (.inl (ci, κ))) (hc : ow_cl[ci]? = some r0) (hy : r0.1 = y.cls) (hk : k + 1 ≤ kR) (hn2 : n ≤ 20) (hm : cs ≤ mR ∧ sl ≤ sR) (hst : (st.map fun v => v.category).sum ≤ 8) (kk : ow_W X cs sl h1 (pc + 3) lv (v :: st)) : ow_W X cs sl h pc lv (x5 :: x4 :: x3 :: x2 :: x1 :: x0 :: .ref b :: st) := or_callV [x0, x1, x2, x3, x4, x5] hC E L d hS hc hy rfl hk hn2 hm hst ⟨rfl, rfl⟩ (fun r h2 q => by obtain ⟨rfl, rfl⟩ := q; exact kk)
theorem or_cV7v {x0 x1 x2 x3 x4 x5 x6 : Value} {b ci : Nat} {κ : Nat → Option (Option Value)} {r0 : vw_C} (hC : ow_Cf y cy n ret k [.ref b, x0, x1, x2, x3, x4, x5, x6] h (none) h1) (E : ow_E X own cc nL (ow_rm kR mR sR)) (L : ow_lv own idx y cy n ret 7) (d : decode cc pc = .ok (.invokevirtual idx, 3)) (hS : h.1 b = some (.inl (ci, κ))) (hc : ow_cl[ci]? = some r0) (hy : r0.1 = y.cls) (hk : k + 1 ≤ kR) (hn2 : n ≤ 20) (hm : cs ≤ mR ∧ sl ≤ sR) (hst : (st.map fun v => v.category).sum ≤ 8) (kk : ow_W X cs sl h1 (pc + 3) lv (st)) : ow_W X cs sl h pc lv (x6 :: x5 :: x4 :: x3 :: x2 :: x1 :: x0 :: .ref b :: st) := or_callV [x0, x1, x2, x3, x4, x5, x6] hC E L d hS hc hy rfl hk hn2 hm hst ⟨rfl, rfl⟩ (fun r h2 q => by obtain ⟨rfl, rfl⟩ := q; exact kk)
theorem or_cV7r {x0 x1 x2 x3 x4 x5 x6 : Value} {v : Value} {b ci : Nat} {κ : Nat → Option (Option Value)} {r0 : vw_C} (hC : ow_Cf y cy n ret k [.ref b, x0, x1, x2, x3, x4, x5, x6] h (some v) h1) (E : ow_E X own cc nL (ow_rm kR mR sR)) (L : ow_lv own idx y cy n ret 7) (d : decode cc pc = .ok (.invokevirtual idx, 3)) (hS : h.1 b = some (.inl (ci, κ))) (hc : ow_cl[ci]? = some r0) (hy : r0.1 = y.cls) (hk : k + 1 ≤ kR) (hn2 : n ≤ 20) (hm : cs ≤ mR ∧ sl ≤ sR) (hst : (st.map fun v => v.category).sum ≤ 8) (kk : ow_W X cs sl h1 (pc + 3) lv (v :: st)) : ow_W X cs sl h pc lv (x6 :: x5 :: x4 :: x3 :: x2 :: x1 :: x0 :: .ref b :: st) := or_callV [x0, x1, x2, x3, x4, x5, x6] hC E L d hS hc hy rfl hk hn2 hm hst ⟨rfl, rfl⟩ (fun r h2 q => by obtain ⟨rfl, rfl⟩ := q; exact kk)
theorem or_cS0v (hC : ow_Cf y cy n ret k [] h (none) h1) (E : ow_E X own cc nL (ow_rm kR mR sR)) (L : ow_ls own idx y cy n ret 0) (d : decode cc pc = .ok (.invokestatic idx, 3)) (hk : k + 1 ≤ kR) (hn2 : n ≤ 20) (hm : cs ≤ mR ∧ sl ≤ sR) (hst : (st.map fun v => v.category).sum ≤ 8) (kk : ow_W X cs sl h1 (pc + 3) lv (st)) : ow_W X cs sl h pc lv (st) := or_callS [] hC E L d rfl hk hn2 hm hst ⟨rfl, rfl⟩ (fun r h2 q => by obtain ⟨rfl, rfl⟩ := q; exact kk)
theorem or_cS0r {v : Value} (hC : ow_Cf y cy n ret k [] h (some v) h1) (E : ow_E X own cc nL (ow_rm kR mR sR)) (L : ow_ls own idx y cy n ret 0) (d : decode cc pc = .ok (.invokestatic idx, 3)) (hk : k + 1 ≤ kR) (hn2 : n ≤ 20) (hm : cs ≤ mR ∧ sl ≤ sR) (hst : (st.map fun v => v.category).sum ≤ 8) (kk : ow_W X cs sl h1 (pc + 3) lv (v :: st)) : ow_W X cs sl h pc lv (st) := or_callS [] hC E L d rfl hk hn2 hm hst ⟨rfl, rfl⟩ (fun r h2 q => by obtain ⟨rfl, rfl⟩ := q; exact kk)
theorem or_cS1v {x0 : Value} (hC : ow_Cf y cy n ret k [x0] h (none) h1) (E : ow_E X own cc nL (ow_rm kR mR sR)) (L : ow_ls own idx y cy n ret 1) (d : decode cc pc = .ok (.invokestatic idx, 3)) (hk : k + 1 ≤ kR) (hn2 : n ≤ 20) (hm : cs ≤ mR ∧ sl ≤ sR) (hst : (st.map fun v => v.category).sum ≤ 8) (kk : ow_W X cs sl h1 (pc + 3) lv (st)) : ow_W X cs sl h pc lv (x0 :: st) := or_callS [x0] hC E L d rfl hk hn2 hm hst ⟨rfl, rfl⟩ (fun r h2 q => by obtain ⟨rfl, rfl⟩ := q; exact kk)
theorem or_cS1r {x0 : Value} {v : Value} (hC : ow_Cf y cy n ret k [x0] h (some v) h1) (E : ow_E X own cc nL (ow_rm kR mR sR)) (L : ow_ls own idx y cy n ret 1) (d : decode cc pc = .ok (.invokestatic idx, 3)) (hk : k + 1 ≤ kR) (hn2 : n ≤ 20) (hm : cs ≤ mR ∧ sl ≤ sR) (hst : (st.map fun v => v.category).sum ≤ 8) (kk : ow_W X cs sl h1 (pc + 3) lv (v :: st)) : ow_W X cs sl h pc lv (x0 :: st) := or_callS [x0] hC E L d rfl hk hn2 hm hst ⟨rfl, rfl⟩ (fun r h2 q => by obtain ⟨rfl, rfl⟩ := q; exact kk)
theorem or_cS2v {x0 x1 : Value} (hC : ow_Cf y cy n ret k [x0, x1] h (none) h1) (E : ow_E X own cc nL (ow_rm kR mR sR)) (L : ow_ls own idx y cy n ret 2) (d : decode cc pc = .ok (.invokestatic idx, 3)) (hk : k + 1 ≤ kR) (hn2 : n ≤ 20) (hm : cs ≤ mR ∧ sl ≤ sR) (hst : (st.map fun v => v.category).sum ≤ 8) (kk : ow_W X cs sl h1 (pc + 3) lv (st)) : ow_W X cs sl h pc lv (x1 :: x0 :: st) := or_callS [x0, x1] hC E L d rfl hk hn2 hm hst ⟨rfl, rfl⟩ (fun r h2 q => by obtain ⟨rfl, rfl⟩ := q; exact kk)
theorem or_cS2r {x0 x1 : Value} {v : Value} (hC : ow_Cf y cy n ret k [x0, x1] h (some v) h1) (E : ow_E X own cc nL (ow_rm kR mR sR)) (L : ow_ls own idx y cy n ret 2) (d : decode cc pc = .ok (.invokestatic idx, 3)) (hk : k + 1 ≤ kR) (hn2 : n ≤ 20) (hm : cs ≤ mR ∧ sl ≤ sR) (hst : (st.map fun v => v.category).sum ≤ 8) (kk : ow_W X cs sl h1 (pc + 3) lv (v :: st)) : ow_W X cs sl h pc lv (x1 :: x0 :: st) := or_callS [x0, x1] hC E L d rfl hk hn2 hm hst ⟨rfl, rfl⟩ (fun r h2 q => by obtain ⟨rfl, rfl⟩ := q; exact kk)
theorem or_cS3v {x0 x1 x2 : Value} (hC : ow_Cf y cy n ret k [x0, x1, x2] h (none) h1) (E : ow_E X own cc nL (ow_rm kR mR sR)) (L : ow_ls own idx y cy n ret 3) (d : decode cc pc = .ok (.invokestatic idx, 3)) (hk : k + 1 ≤ kR) (hn2 : n ≤ 20) (hm : cs ≤ mR ∧ sl ≤ sR) (hst : (st.map fun v => v.category).sum ≤ 8) (kk : ow_W X cs sl h1 (pc + 3) lv (st)) : ow_W X cs sl h pc lv (x2 :: x1 :: x0 :: st) := or_callS [x0, x1, x2] hC E L d rfl hk hn2 hm hst ⟨rfl, rfl⟩ (fun r h2 q => by obtain ⟨rfl, rfl⟩ := q; exact kk)
theorem or_cS3r {x0 x1 x2 : Value} {v : Value} (hC : ow_Cf y cy n ret k [x0, x1, x2] h (some v) h1) (E : ow_E X own cc nL (ow_rm kR mR sR)) (L : ow_ls own idx y cy n ret 3) (d : decode cc pc = .ok (.invokestatic idx, 3)) (hk : k + 1 ≤ kR) (hn2 : n ≤ 20) (hm : cs ≤ mR ∧ sl ≤ sR) (hst : (st.map fun v => v.category).sum ≤ 8) (kk : ow_W X cs sl h1 (pc + 3) lv (v :: st)) : ow_W X cs sl h pc lv (x2 :: x1 :: x0 :: st) := or_callS [x0, x1, x2] hC E L d rfl hk hn2 hm hst ⟨rfl, rfl⟩ (fun r h2 q => by obtain ⟨rfl, rfl⟩ := q; exact kk)
theorem or_cS4v {x0 x1 x2 x3 : Value} (hC : ow_Cf y cy n ret k [x0, x1, x2, x3] h (none) h1) (E : ow_E X own cc nL (ow_rm kR mR sR)) (L : ow_ls own idx y cy n ret 4) (d : decode cc pc = .ok (.invokestatic idx, 3)) (hk : k + 1 ≤ kR) (hn2 : n ≤ 20) (hm : cs ≤ mR ∧ sl ≤ sR) (hst : (st.map fun v => v.category).sum ≤ 8) (kk : ow_W X cs sl h1 (pc + 3) lv (st)) : ow_W X cs sl h pc lv (x3 :: x2 :: x1 :: x0 :: st) := or_callS [x0, x1, x2, x3] hC E L d rfl hk hn2 hm hst ⟨rfl, rfl⟩ (fun r h2 q => by obtain ⟨rfl, rfl⟩ := q; exact kk)
theorem or_cS4r {x0 x1 x2 x3 : Value} {v : Value} (hC : ow_Cf y cy n ret k [x0, x1, x2, x3] h (some v) h1) (E : ow_E X own cc nL (ow_rm kR mR sR)) (L : ow_ls own idx y cy n ret 4) (d : decode cc pc = .ok (.invokestatic idx, 3)) (hk : k + 1 ≤ kR) (hn2 : n ≤ 20) (hm : cs ≤ mR ∧ sl ≤ sR) (hst : (st.map fun v => v.category).sum ≤ 8) (kk : ow_W X cs sl h1 (pc + 3) lv (v :: st)) : ow_W X cs sl h pc lv (x3 :: x2 :: x1 :: x0 :: st) := or_callS [x0, x1, x2, x3] hC E L d rfl hk hn2 hm hst ⟨rfl, rfl⟩ (fun r h2 q => by obtain ⟨rfl, rfl⟩ := q; exact kk)
theorem or_cS5v {x0 x1 x2 x3 x4 : Value} (hC : ow_Cf y cy n ret k [x0, x1, x2, x3, x4] h (none) h1) (E : ow_E X own cc nL (ow_rm kR mR sR)) (L : ow_ls own idx y cy n ret 5) (d : decode cc pc = .ok (.invokestatic idx, 3)) (hk : k + 1 ≤ kR) (hn2 : n ≤ 20) (hm : cs ≤ mR ∧ sl ≤ sR) (hst : (st.map fun v => v.category).sum ≤ 8) (kk : ow_W X cs sl h1 (pc + 3) lv (st)) : ow_W X cs sl h pc lv (x4 :: x3 :: x2 :: x1 :: x0 :: st) := or_callS [x0, x1, x2, x3, x4] hC E L d rfl hk hn2 hm hst ⟨rfl, rfl⟩ (fun r h2 q => by obtain ⟨rfl, rfl⟩ := q; exact kk)
theorem or_cS5r {x0 x1 x2 x3 x4 : Value} {v : Value} (hC : ow_Cf y cy n ret k [x0, x1, x2, x3, x4] h (some v) h1) (E : ow_E X own cc nL (ow_rm kR mR sR)) (L : ow_ls own idx y cy n ret 5) (d : decode cc pc = .ok (.invokestatic idx, 3)) (hk : k + 1 ≤ kR) (hn2 : n ≤ 20) (hm : cs ≤ mR ∧ sl ≤ sR) (hst : (st.map fun v => v.category).sum ≤ 8) (kk : ow_W X cs sl h1 (pc + 3) lv (v :: st)) : ow_W X cs sl h pc lv (x4 :: x3 :: x2 :: x1 :: x0 :: st) := or_callS [x0, x1, x2, x3, x4] hC E L d rfl hk hn2 hm hst ⟨rfl, rfl⟩ (fun r h2 q => by obtain ⟨rfl, rfl⟩ := q; exact kk)
theorem or_cS6v {x0 x1 x2 x3 x4 x5 : Value} (hC : ow_Cf y cy n ret k [x0, x1, x2, x3, x4, x5] h (none) h1) (E : ow_E X own cc nL (ow_rm kR mR sR)) (L : ow_ls own idx y cy n ret 6) (d : decode cc pc = .ok (.invokestatic idx, 3)) (hk : k + 1 ≤ kR) (hn2 : n ≤ 20) (hm : cs ≤ mR ∧ sl ≤ sR) (hst : (st.map fun v => v.category).sum ≤ 8) (kk : ow_W X cs sl h1 (pc + 3) lv (st)) : ow_W X cs sl h pc lv (x5 :: x4 :: x3 :: x2 :: x1 :: x0 :: st) := or_callS [x0, x1, x2, x3, x4, x5] hC E L d rfl hk hn2 hm hst ⟨rfl, rfl⟩ (fun r h2 q => by obtain ⟨rfl, rfl⟩ := q; exact kk)
theorem or_cS6r {x0 x1 x2 x3 x4 x5 : Value} {v : Value} (hC : ow_Cf y cy n ret k [x0, x1, x2, x3, x4, x5] h (some v) h1) (E : ow_E X own cc nL (ow_rm kR mR sR)) (L : ow_ls own idx y cy n ret 6) (d : decode cc pc = .ok (.invokestatic idx, 3)) (hk : k + 1 ≤ kR) (hn2 : n ≤ 20) (hm : cs ≤ mR ∧ sl ≤ sR) (hst : (st.map fun v => v.category).sum ≤ 8) (kk : ow_W X cs sl h1 (pc + 3) lv (v :: st)) : ow_W X cs sl h pc lv (x5 :: x4 :: x3 :: x2 :: x1 :: x0 :: st) := or_callS [x0, x1, x2, x3, x4, x5] hC E L d rfl hk hn2 hm hst ⟨rfl, rfl⟩ (fun r h2 q => by obtain ⟨rfl, rfl⟩ := q; exact kk)
theorem or_cS7v {x0 x1 x2 x3 x4 x5 x6 : Value} (hC : ow_Cf y cy n ret k [x0, x1, x2, x3, x4, x5, x6] h (none) h1) (E : ow_E X own cc nL (ow_rm kR mR sR)) (L : ow_ls own idx y cy n ret 7) (d : decode cc pc = .ok (.invokestatic idx, 3)) (hk : k + 1 ≤ kR) (hn2 : n ≤ 20) (hm : cs ≤ mR ∧ sl ≤ sR) (hst : (st.map fun v => v.category).sum ≤ 8) (kk : ow_W X cs sl h1 (pc + 3) lv (st)) : ow_W X cs sl h pc lv (x6 :: x5 :: x4 :: x3 :: x2 :: x1 :: x0 :: st) := or_callS [x0, x1, x2, x3, x4, x5, x6] hC E L d rfl hk hn2 hm hst ⟨rfl, rfl⟩ (fun r h2 q => by obtain ⟨rfl, rfl⟩ := q; exact kk)
theorem or_cS7r {x0 x1 x2 x3 x4 x5 x6 : Value} {v : Value} (hC : ow_Cf y cy n ret k [x0, x1, x2, x3, x4, x5, x6] h (some v) h1) (E : ow_E X own cc nL (ow_rm kR mR sR)) (L : ow_ls own idx y cy n ret 7) (d : decode cc pc = .ok (.invokestatic idx, 3)) (hk : k + 1 ≤ kR) (hn2 : n ≤ 20) (hm : cs ≤ mR ∧ sl ≤ sR) (hst : (st.map fun v => v.category).sum ≤ 8) (kk : ow_W X cs sl h1 (pc + 3) lv (v :: st)) : ow_W X cs sl h pc lv (x6 :: x5 :: x4 :: x3 :: x2 :: x1 :: x0 :: st) := or_callS [x0, x1, x2, x3, x4, x5, x6] hC E L d rfl hk hn2 hm hst ⟨rfl, rfl⟩ (fun r h2 q => by obtain ⟨rfl, rfl⟩ := q; exact kk)
end OWD
section OWT
variable {X : ow_X} {cs sl : Nat} {S : Nat → Option ow_Sh} {I : Nat → Nat → Int32} {V : Nat → Nat → Value} {z : Nat} {pc : Nat} {lv : List (Nat × Value)} {st : List Value} {own : String} {cc : ByteArray} {nL : Nat} {R0 : Room}
theorem ot_getI {idx ci k a : Nat} {κ : Nat → Option (Option Value)} (E : ow_E X own cc nL R0) (f : ow_fl own idx ci k) (d : decode cc pc = .ok (.getfield idx, 3)) (hS : S a = some (.inl (ci, κ))) (hk : κ k = none)
    (kk : ow_W X cs sl (S, I, V, z) (pc + 3) lv (.int (I a k) :: st)) : ow_W X cs sl (S, I, V, z) pc lv (.ref a :: st) := or_getI E f d hS hk kk
theorem ot_getC {idx ci k a : Nat} {κ : Nat → Option (Option Value)} {v : Value} (E : ow_E X own cc nL R0) (f : ow_fl own idx ci k) (d : decode cc pc = .ok (.getfield idx, 3)) (hS : S a = some (.inl (ci, κ))) (hk : κ k = some (some v))
    (kk : ow_W X cs sl (S, I, V, z) (pc + 3) lv (v :: st)) : ow_W X cs sl (S, I, V, z) pc lv (.ref a :: st) := or_getC E f d hS hk kk
theorem ot_getV {idx ci k a : Nat} {κ : Nat → Option (Option Value)} (E : ow_E X own cc nL R0) (f : ow_fl own idx ci k) (d : decode cc pc = .ok (.getfield idx, 3)) (hS : S a = some (.inl (ci, κ))) (hk : κ k = some none)
    (kk : ow_W X cs sl (S, I, V, z) (pc + 3) lv (V a k :: st)) : ow_W X cs sl (S, I, V, z) pc lv (.ref a :: st) := or_getV E f d hS hk kk
theorem ot_putI {idx ci k a : Nat} {κ : Nat → Option (Option Value)} {x : Int32} (E : ow_E X own cc nL R0) (f : ow_fl own idx ci k) (fw : ∃ r : vw_C, ow_cl[ci]? = some r ∧ (r.2.1 k).2.2.2 = false ∧ parseFieldDescriptor (r.2.1 k).2.2.1 = some .int) (d : decode cc pc = .ok (.putfield idx, 3)) (hS : S a = some (.inl (ci, κ))) (hk : κ k = none)
    (kk : ow_W X cs sl (S, ow_u I a k x, V, z) (pc + 3) lv st) : ow_W X cs sl (S, I, V, z) pc lv (.int x :: .ref a :: st) := or_putI E f fw d hS hk kk
theorem ot_aald {a n j : Nat} {x : Int32} {v : Value} {C : String} {κ : Nat → Option (Option Value)} (E : ow_E X own cc nL R0) (d : decode cc pc = .ok (.aaload, 1)) (hS : S a = some (.inr (.object C, n, κ))) (hk : κ j = some (some v)) (hx : x = nI j) (hj : j < n) (hn : n < 2 ^ 31) (k : ow_W X cs sl (S, I, V, z) (pc + 1) lv (v :: st)) : ow_W X cs sl (S, I, V, z) pc lv (.int x :: .ref a :: st) := or_aald E d hS hk hx hj hn k
theorem ot_iald {a n j : Nat} {x : Int32} {κ : Nat → Option (Option Value)} (E : ow_E X own cc nL R0) (d : decode cc pc = .ok (.iaload, 1)) (hS : S a = some (.inr (.int, n, κ))) (hk : κ j = none) (hx : x = nI j) (hj : j < n) (hn : n < 2 ^ 31) (k : ow_W X cs sl (S, I, V, z) (pc + 1) lv (.int (I a j) :: st)) : ow_W X cs sl (S, I, V, z) pc lv (.int x :: .ref a :: st) := or_iald E d hS hk hx hj hn k
theorem ot_bald {a n j : Nat} {x : Int32} {κ : Nat → Option (Option Value)} (E : ow_E X own cc nL R0) (d : decode cc pc = .ok (.baload, 1)) (hS : S a = some (.inr (.byte, n, κ))) (hk : κ j = none) (hx : x = nI j) (hj : j < n) (hn : n < 2 ^ 31) (k : ow_W X cs sl (S, I, V, z) (pc + 1) lv (.int (I a j) :: st)) : ow_W X cs sl (S, I, V, z) pc lv (.int x :: .ref a :: st) := or_bald E d hS hk hx hj hn k
theorem ot_zald {a n j : Nat} {x : Int32} {κ : Nat → Option (Option Value)} (E : ow_E X own cc nL R0) (d : decode cc pc = .ok (.baload, 1)) (hS : S a = some (.inr (.boolean, n, κ))) (hk : κ j = none) (hx : x = nI j) (hj : j < n) (hn : n < 2 ^ 31) (k : ow_W X cs sl (S, I, V, z) (pc + 1) lv (.int (I a j) :: st)) : ow_W X cs sl (S, I, V, z) pc lv (.int x :: .ref a :: st) := or_zald E d hS hk hx hj hn k
theorem ot_cald {a n j : Nat} {x : Int32} {κ : Nat → Option (Option Value)} (E : ow_E X own cc nL R0) (d : decode cc pc = .ok (.caload, 1)) (hS : S a = some (.inr (.char, n, κ))) (hk : κ j = none) (hx : x = nI j) (hj : j < n) (hn : n < 2 ^ 31) (k : ow_W X cs sl (S, I, V, z) (pc + 1) lv (.int (I a j) :: st)) : ow_W X cs sl (S, I, V, z) pc lv (.int x :: .ref a :: st) := or_cald E d hS hk hx hj hn k
theorem ot_iast {a n j : Nat} {x w : Int32} {κ : Nat → Option (Option Value)} (E : ow_E X own cc nL R0) (d : decode cc pc = .ok (.iastore, 1)) (hS : S a = some (.inr (.int, n, κ))) (hk : κ j = none) (hx : x = nI j) (hj : j < n) (hn : n < 2 ^ 31) (k : ow_W X cs sl (S, ow_u I a j w, V, z) (pc + 1) lv st) : ow_W X cs sl (S, I, V, z) pc lv (.int w :: .int x :: .ref a :: st) := or_iast E d hS hk hx hj hn k
theorem ot_bast {a n j : Nat} {x w : Int32} {κ : Nat → Option (Option Value)} (E : ow_E X own cc nL R0) (d : decode cc pc = .ok (.bastore, 1)) (hS : S a = some (.inr (.byte, n, κ))) (hk : κ j = none) (hx : x = nI j) (hj : j < n) (hn : n < 2 ^ 31) (k : ow_W X cs sl (S, ow_u I a j w.toInt8.toInt32, V, z) (pc + 1) lv st) : ow_W X cs sl (S, I, V, z) pc lv (.int w :: .int x :: .ref a :: st) := or_bast E d hS hk hx hj hn k
theorem ot_zast {a n j : Nat} {x w : Int32} {κ : Nat → Option (Option Value)} (E : ow_E X own cc nL R0) (d : decode cc pc = .ok (.bastore, 1)) (hS : S a = some (.inr (.boolean, n, κ))) (hk : κ j = none) (hx : x = nI j) (hj : j < n) (hn : n < 2 ^ 31) (k : ow_W X cs sl (S, ow_u I a j (w &&& 1), V, z) (pc + 1) lv st) : ow_W X cs sl (S, I, V, z) pc lv (.int w :: .int x :: .ref a :: st) := or_zast E d hS hk hx hj hn k
theorem or_nmI {v J : Nat → Nat → Int32} (e : J = v) (k : ow_W X cs sl (S, J, V, z) pc lv st) : ow_W X cs sl (S, v, V, z) pc lv st := by subst e; exact k
theorem or_nmZ {r v : Bool × ow_I} (e : r = v) (k : ow_W X cs sl (S, r.2, V, z) pc lv (.int (bi r.1) :: st)) : ow_W X cs sl (S, v.2, V, z) pc lv (.int (bi v.1) :: st) := by subst e; exact k
theorem or_nmN {r v : Nat × ow_I} (e : r = v) (k : ow_W X cs sl (S, r.2, V, z) pc lv (.int (nI r.1) :: st)) : ow_W X cs sl (S, v.2, V, z) pc lv (.int (nI v.1) :: st) := by subst e; exact k
theorem or_nmJ {r v : Int32 × ow_I} (e : r = v) (k : ow_W X cs sl (S, r.2, V, z) pc lv (.int r.1 :: st)) : ow_W X cs sl (S, v.2, V, z) pc lv (.int v.1 :: st) := by subst e; exact k
end OWT
end
section
section
/-! THE REFERENCE: its cells; its methods, leaves first (laid by wip/p67/pure.py out of whole's parts) -/
def md_k (m : Nat) : Nat → Option (Option Value) := fun k => match k with
  | 0 => some (some (.ref (m + 1)))
  | 3 => some (some (.ref (m + 2)))
  | 4 => some (some (.ref (m + 3)))
  | 12 => some (some (.ref (m + 4)))
  | 14 => some (some (.ref (m + 5)))
  | 16 => some (some (.ref (m + 6)))
  | 19 => some (some (.ref (m + 7)))
  | _ => none
def ow_n : Nat → Option (Option Value) := fun _ => none
def md_S (S : Nat → Option ow_Sh) (m : Nat) : Prop := S m = some (.inl (11, md_k m)) ∧ S (m + 1) = some (.inr (.int, 4810, ow_n)) ∧ S (m + 2) = some (.inr (.boolean, 2, ow_n)) ∧ S (m + 3) = some (.inr (.byte, 500, ow_n)) ∧ S (m + 4) = some (.inr (.int, 11, ow_n)) ∧ S (m + 5) = some (.inr (.int, 260, ow_n)) ∧ S (m + 6) = some (.inr (.byte, 200, ow_n)) ∧ S (m + 7) = some (.inr (.char, 64, ow_n))
theorem bz_neg {b : Bool} (h : b = false) : ¬ b = true := by rw [h]; decide
def M_throwsIf (m : Nat) (b : Bool) (w : Int32) (I : ow_I) : Bool × ow_I :=
  if b then lt (ow_u I m 18 w) (fun (I1 : ow_I) => (b, I1)) else (b, I)
def M_in (v : Int32) (lo : Int32) (hi : Int32) (I : ow_I) : Bool :=
  if v < lo then false else if hi < v then false else true
def M_of (m : Nat) (b : Nat) (w : Nat) (I : ow_I) : Int32 :=
  I (m + 1) (36 + (5 * b) + w)
def M_put (m : Nat) (b : Nat) (w : Nat) (x : Int32) (I : ow_I) : ow_I :=
  lt (ow_u I (m + 1) (36 + (5 * b) + w) x) (fun (I1 : ow_I) => I1)
def M_ofBarrel (m : Nat) (b : Nat) (w : Nat) (I : ow_I) : Int32 :=
  I (m + 1) (66 + (15 * b) + w)
def M_putBarrel (m : Nat) (b : Nat) (w : Nat) (x : Int32) (I : ow_I) : ow_I :=
  lt (ow_u I (m + 1) (66 + (15 * b) + w) x) (fun (I1 : ow_I) => I1)
def M_lengthOf (m : Nat) (b : Nat) (e : Nat) (I : ow_I) : Int32 :=
  M_ofBarrel m b (1 + e) I
def M_copyBlock_L2 (m : Nat) (f : Nat) (t : Nat) : Nat → ow_I → Nat → ow_I
  | 0, I, _ => I
  | n + 1, I, i => if 370 ≤ i then I else lt (ow_u I (m + 1) (370 * t + i) (I (m + 1) (370 * f + i))) (fun (I1 : ow_I) => M_copyBlock_L2 m f t n I1 (i + 1))
def M_copyBlock (m : Nat) (f : Nat) (t : Nat) (I : ow_I) : ow_I :=
  M_copyBlock_L2 m f t 371 I 0
def M_isOpenIn (m : Nat) (n : Int32) (I : ow_I) : Bool :=
  if I (m + 1) 1 ≤ n - n / (I (m + 1) 0) * (I (m + 1) 0) then false else true
end
end
section
/-! ROWS of doubles, floats, switches -/
section OWF
variable {X : ow_X} {cs sl : Nat} {h : ow_H} {pc : Nat} {lv : List (Nat × Value)} {st : List Value} {own : String} {cc : ByteArray} {nL : Nat} {R0 : Room}
theorem or_i2d {x : Int32} (E : ow_E X own cc nL R0) (d : decode cc pc = .ok (.i2d, 1)) (k : ow_W X cs sl h (pc + 1) lv (.double (FP.i2d x) :: st)) : ow_W X cs sl h pc lv (.int x :: st) := by
  obtain ⟨p, l, e, R, s, m, args, below, meth, c, Q, D, A⟩ := X
  obtain ⟨hx, hb, hown, hts, hK, hA, hml, hR0⟩ := E
  intro H locs ls hR hD hSS hl
  exact lv_i2d hx hb d (k H locs ls hR hD hSS hl)
theorem or_i2f {x : Int32} (E : ow_E X own cc nL R0) (d : decode cc pc = .ok (.i2f, 1)) (k : ow_W X cs sl h (pc + 1) lv (.float (FP.i2f x) :: st)) : ow_W X cs sl h pc lv (.int x :: st) := by
  obtain ⟨p, l, e, R, s, m, args, below, meth, c, Q, D, A⟩ := X
  obtain ⟨hx, hb, hown, hts, hK, hA, hml, hR0⟩ := E
  intro H locs ls hR hD hSS hl
  exact lv_i2f hx hb d (k H locs ls hR hD hSS hl)
theorem or_ddiv {x y : UInt64} (E : ow_E X own cc nL R0) (hn : vf_n64 (FP.ddiv x y)) (d : decode cc pc = .ok (.ddiv, 1)) (k : ow_W X cs sl h (pc + 1) lv (.double (FP.ddiv x y) :: st)) : ow_W X cs sl h pc lv (.double y :: .double x :: st) := by
  obtain ⟨p, l, e, R, s, m, args, below, meth, c, Q, D, A⟩ := X
  obtain ⟨hx, hb, hown, hts, hK, hA, hml, hR0⟩ := E
  intro H locs ls hR hD hSS hl
  exact lv_ddiv hx hb d hn (k H locs ls hR hD hSS hl)
theorem or_fdiv {x y : UInt32} (E : ow_E X own cc nL R0) (hn : vf_n32 (FP.fdiv x y)) (d : decode cc pc = .ok (.fdiv, 1)) (k : ow_W X cs sl h (pc + 1) lv (.float (FP.fdiv x y) :: st)) : ow_W X cs sl h pc lv (.float y :: .float x :: st) := by
  obtain ⟨p, l, e, R, s, m, args, below, meth, c, Q, D, A⟩ := X
  obtain ⟨hx, hb, hown, hts, hK, hA, hml, hR0⟩ := E
  intro H locs ls hR hD hSS hl
  exact lv_fdiv hx hb d hn (k H locs ls hR hD hSS hl)
theorem or_f2d {x : UInt32} (E : ow_E X own cc nL R0) (hn : vf_n64 (FP.f2d x)) (d : decode cc pc = .ok (.f2d, 1)) (k : ow_W X cs sl h (pc + 1) lv (.double (FP.f2d x) :: st)) : ow_W X cs sl h pc lv (.float x :: st) := by
  obtain ⟨p, l, e, R, s, m, args, below, meth, c, Q, D, A⟩ := X
  obtain ⟨hx, hb, hown, hts, hK, hA, hml, hR0⟩ := E
  intro H locs ls hR hD hSS hl
  exact lv_f2d hx hb d hn (k H locs ls hR hD hSS hl)
theorem or_dcmp {x y : UInt64} {op : CmpOp} (E : ow_E X own cc nL R0) (d : decode cc pc = .ok (.dcmp op, 1)) (k : ow_W X cs sl h (pc + 1) lv (.int (Op.cmpValue (FP.dcmp x y) op) :: st)) : ow_W X cs sl h pc lv (.double y :: .double x :: st) := by
  obtain ⟨p, l, e, R, s, m, args, below, meth, c, Q, D, A⟩ := X
  obtain ⟨hx, hb, hown, hts, hK, hA, hml, hR0⟩ := E
  intro H locs ls hR hD hSS hl
  exact lv_dcmp hx hb d (k H locs ls hR hD hSS hl)
theorem or_fcmp {x y : UInt32} {op : CmpOp} (E : ow_E X own cc nL R0) (d : decode cc pc = .ok (.fcmp op, 1)) (k : ow_W X cs sl h (pc + 1) lv (.int (Op.cmpValue (FP.fcmp x y) op) :: st)) : ow_W X cs sl h pc lv (.float y :: .float x :: st) := by
  obtain ⟨p, l, e, R, s, m, args, below, meth, c, Q, D, A⟩ := X
  obtain ⟨hx, hb, hown, hts, hK, hA, hml, hR0⟩ := E
  intro H locs ls hR hD hSS hl
  exact lv_fcmp hx hb d (k H locs ls hR hD hSS hl)
theorem or_dconst0 (E : ow_E X own cc nL R0) (d : decode cc pc = .ok (.dconst 0, 1)) (k : ow_W X cs sl h (pc + 1) lv (.double FP.dconst0 :: st)) : ow_W X cs sl h pc lv (st) := by
  obtain ⟨p, l, e, R, s, m, args, below, meth, c, Q, D, A⟩ := X
  obtain ⟨hx, hb, hown, hts, hK, hA, hml, hR0⟩ := E
  intro H locs ls hR hD hSS hl
  exact lv_dconst0 hx hb d (k H locs ls hR hD hSS hl)
theorem or_fconst0 (E : ow_E X own cc nL R0) (d : decode cc pc = .ok (.fconst 0, 1)) (k : ow_W X cs sl h (pc + 1) lv (.float FP.fconst0 :: st)) : ow_W X cs sl h pc lv (st) := by
  obtain ⟨p, l, e, R, s, m, args, below, meth, c, Q, D, A⟩ := X
  obtain ⟨hx, hb, hown, hts, hK, hA, hml, hR0⟩ := E
  intro H locs ls hR hD hSS hl
  exact lv_fconst0 hx hb d (k H locs ls hR hD hSS hl)
theorem or_ldc2d {j : Nat} {v : UInt64} (E : ow_E X own cc nL R0) (hw : Cond.constantDouble own j v ∈ ow_T) (d : decode cc pc = .ok (.ldc2_w j, 3)) (k : ow_W X cs sl h (pc + 3) lv (.double v :: st)) : ow_W X cs sl h pc lv (st) := by
  obtain ⟨p, l, e, R, s, m, args, below, meth, c, Q, D, A⟩ := X
  obtain ⟨hx, hb, hown, hts, hK, hA, hml, hR0⟩ := E
  intro H locs ls hR hD hSS hl
  exact lv_ldc2d hx hb hown (hts _ hw) d (k H locs ls hR hD hSS hl)
theorem or_ldc {j : Nat} {v : Int32} (E : ow_E X own cc nL R0) (hw : Cond.constant own j v ∈ ow_T) (d : decode cc pc = .ok (.ldc j, 2)) (k : ow_W X cs sl h (pc + 2) lv (.int v :: st)) : ow_W X cs sl h pc lv (st) := by
  obtain ⟨p, l, e, R, s, m, args, below, meth, c, Q, D, A⟩ := X
  obtain ⟨hx, hb, hown, hts, hK, hA, hml, hR0⟩ := E
  intro H locs ls hR hD hSS hl
  exact lv_ldc hx hb hown (hts _ hw) d (k H locs ls hR hD hSS hl)
theorem or_ldcw {j : Nat} {v : Int32} (E : ow_E X own cc nL R0) (hw : Cond.constant own j v ∈ ow_T) (d : decode cc pc = .ok (.ldc_w j, 3)) (k : ow_W X cs sl h (pc + 3) lv (.int v :: st)) : ow_W X cs sl h pc lv (st) := by
  obtain ⟨p, l, e, R, s, m, args, below, meth, c, Q, D, A⟩ := X
  obtain ⟨hx, hb, hown, hts, hK, hA, hml, hR0⟩ := E
  intro H locs ls hR hD hSS hl
  exact lv_ldcw hx hb hown (hts _ hw) d (k H locs ls hR hD hSS hl)
theorem or_tabOut {x : Int32} {dflt lo hi : Int} {offs : Array Int} {len : Nat} (t : Nat) (E : ow_E X own cc nL R0) (d : decode cc pc = .ok (.tableswitch dflt lo hi offs, len)) (ho : x.toInt < lo ∨ hi < x.toInt) (ht : (pc : Int) + dflt = (t : Int)) (k : ow_W X cs sl h t lv st) : ow_W X cs sl h pc lv (.int x :: st) := by
  obtain ⟨p, l, e, R, s, m, args, below, meth, c, Q, D, A⟩ := X
  obtain ⟨hx, hb, hown, hts, hK, hA, hml, hR0⟩ := E
  intro H locs ls hR hD hSS hl
  exact lv_tableOut hx hb d ho ht (k H locs ls hR hD hSS hl)
theorem or_tabIn {x : Int32} {dflt lo hi off : Int} {offs : Array Int} {len : Nat} (t : Nat) (E : ow_E X own cc nL R0) (d : decode cc pc = .ok (.tableswitch dflt lo hi offs, len)) (h1 : ¬ x.toInt < lo) (h2 : ¬ hi < x.toInt) (ho : offs[(x.toInt - lo).toNat]? = some off) (ht : (pc : Int) + off = (t : Int)) (k : ow_W X cs sl h t lv st) : ow_W X cs sl h pc lv (.int x :: st) := by
  obtain ⟨p, l, e, R, s, m, args, below, meth, c, Q, D, A⟩ := X
  obtain ⟨hx, hb, hown, hts, hK, hA, hml, hR0⟩ := E
  intro H locs ls hR hD hSS hl
  exact lv_tableIn hx hb d h1 h2 ho ht (k H locs ls hR hD hSS hl)
/-- the numbers of a switch, all refused -/
theorem sw_out {x : Int32} {lo n : Nat} (hl : lo + n < 2 ^ 31) (hn : ∀ j, j < n → ¬ x = nI (lo + j)) : x.toInt < lo ∨ ((lo + n : Nat) : Int) - 1 < x.toInt := by
  by_cases h1 : x.toInt < lo
  · exact Or.inl h1
  by_cases h2 : ((lo + n : Nat) : Int) - 1 < x.toInt
  · exact Or.inr h2
  exfalso
  obtain ⟨j, hj, rfl⟩ := nI_of (x := x) (by rw [Int32.lt_iff_toInt_lt, Int32.toInt_zero]; omega)
  rw [nI_toInt hj] at h1 h2
  exact hn (j - lo) (by omega) (by rw [show lo + (j - lo) = j by omega])
theorem lt_1 {P : Nat → Prop} (h0 : P 0) : ∀ j, j < 1 → P j := fun j hj => by
  have : j = 0 := by omega
  subst this; exact h0
theorem lt_2 {P : Nat → Prop} (h0 : P 0) (h1 : P 1) : ∀ j, j < 2 → P j := fun j hj => by
  rcases Nat.lt_succ_iff_lt_or_eq.mp hj with h | rfl
  · exact lt_1 h0 j h
  · exact h1
theorem lt_3 {P : Nat → Prop} (h0 : P 0) (h1 : P 1) (h2 : P 2) : ∀ j, j < 3 → P j := fun j hj => by
  rcases Nat.lt_succ_iff_lt_or_eq.mp hj with h | rfl
  · exact lt_2 h0 h1 j h
  · exact h2
theorem lt_4 {P : Nat → Prop} (h0 : P 0) (h1 : P 1) (h2 : P 2) (h3 : P 3) : ∀ j, j < 4 → P j := fun j hj => by
  rcases Nat.lt_succ_iff_lt_or_eq.mp hj with h | rfl
  · exact lt_3 h0 h1 h2 j h
  · exact h3
theorem lt_5 {P : Nat → Prop} (h0 : P 0) (h1 : P 1) (h2 : P 2) (h3 : P 3) (h4 : P 4) : ∀ j, j < 5 → P j := fun j hj => by
  rcases Nat.lt_succ_iff_lt_or_eq.mp hj with h | rfl
  · exact lt_4 h0 h1 h2 h3 j h
  · exact h4
theorem lt_6 {P : Nat → Prop} (h0 : P 0) (h1 : P 1) (h2 : P 2) (h3 : P 3) (h4 : P 4) (h5 : P 5) : ∀ j, j < 6 → P j := fun j hj => by
  rcases Nat.lt_succ_iff_lt_or_eq.mp hj with h | rfl
  · exact lt_5 h0 h1 h2 h3 h4 j h
  · exact h5
theorem lt_7 {P : Nat → Prop} (h0 : P 0) (h1 : P 1) (h2 : P 2) (h3 : P 3) (h4 : P 4) (h5 : P 5) (h6 : P 6) : ∀ j, j < 7 → P j := fun j hj => by
  rcases Nat.lt_succ_iff_lt_or_eq.mp hj with h | rfl
  · exact lt_6 h0 h1 h2 h3 h4 h5 j h
  · exact h6
theorem lt_8 {P : Nat → Prop} (h0 : P 0) (h1 : P 1) (h2 : P 2) (h3 : P 3) (h4 : P 4) (h5 : P 5) (h6 : P 6) (h7 : P 7) : ∀ j, j < 8 → P j := fun j hj => by
  rcases Nat.lt_succ_iff_lt_or_eq.mp hj with h | rfl
  · exact lt_7 h0 h1 h2 h3 h4 h5 h6 j h
  · exact h7
theorem or_tab1 {x : Int32} {lo : Nat} {dflt o0 : Int} {len : Nat} (t0 : Nat) (td : Nat) (E : ow_E X own cc nL R0) (d : decode cc pc = .ok (.tableswitch dflt lo (((lo + 1 : Nat) : Int) - 1) #[o0], len)) (hl : lo + 1 < 2 ^ 31) (g0 : (pc : Int) + o0 = (t0 : Int)) (gd : (pc : Int) + dflt = (td : Int)) (k0 : x = nI (lo + 0) → ow_W X cs sl h t0 lv st) (kd : ¬ x = nI (lo + 0) → ow_W X cs sl h td lv st) : ow_W X cs sl h pc lv (.int x :: st) := by
  by_cases q0 : x = nI (lo + 0)
  · refine or_tabIn t0 E d (by rw [q0, nI_toInt (by omega)]; omega) (by rw [q0, nI_toInt (by omega)]; omega) (by rw [q0, nI_toInt (by omega), show ((lo + 0 : Nat) : Int) - (lo : Int) = ((0 : Nat) : Int) by omega]; rfl) g0 (k0 q0)
  exact or_tabOut td E d (sw_out (n := 1) (by omega) (lt_1 q0)) gd (kd q0)
theorem or_tab2 {x : Int32} {lo : Nat} {dflt o0 o1 : Int} {len : Nat} (t0 : Nat) (t1 : Nat) (td : Nat) (E : ow_E X own cc nL R0) (d : decode cc pc = .ok (.tableswitch dflt lo (((lo + 2 : Nat) : Int) - 1) #[o0, o1], len)) (hl : lo + 2 < 2 ^ 31) (g0 : (pc : Int) + o0 = (t0 : Int)) (g1 : (pc : Int) + o1 = (t1 : Int)) (gd : (pc : Int) + dflt = (td : Int)) (k0 : x = nI (lo + 0) → ow_W X cs sl h t0 lv st) (k1 : ¬ x = nI (lo + 0) → x = nI (lo + 1) → ow_W X cs sl h t1 lv st) (kd : ¬ x = nI (lo + 0) → ¬ x = nI (lo + 1) → ow_W X cs sl h td lv st) : ow_W X cs sl h pc lv (.int x :: st) := by
  by_cases q0 : x = nI (lo + 0)
  · refine or_tabIn t0 E d (by rw [q0, nI_toInt (by omega)]; omega) (by rw [q0, nI_toInt (by omega)]; omega) (by rw [q0, nI_toInt (by omega), show ((lo + 0 : Nat) : Int) - (lo : Int) = ((0 : Nat) : Int) by omega]; rfl) g0 (k0 q0)
  by_cases q1 : x = nI (lo + 1)
  · refine or_tabIn t1 E d (by rw [q1, nI_toInt (by omega)]; omega) (by rw [q1, nI_toInt (by omega)]; omega) (by rw [q1, nI_toInt (by omega), show ((lo + 1 : Nat) : Int) - (lo : Int) = ((1 : Nat) : Int) by omega]; rfl) g1 (k1 q0 q1)
  exact or_tabOut td E d (sw_out (n := 2) (by omega) (lt_2 q0 q1)) gd (kd q0 q1)
theorem or_tab3 {x : Int32} {lo : Nat} {dflt o0 o1 o2 : Int} {len : Nat} (t0 : Nat) (t1 : Nat) (t2 : Nat) (td : Nat) (E : ow_E X own cc nL R0) (d : decode cc pc = .ok (.tableswitch dflt lo (((lo + 3 : Nat) : Int) - 1) #[o0, o1, o2], len)) (hl : lo + 3 < 2 ^ 31) (g0 : (pc : Int) + o0 = (t0 : Int)) (g1 : (pc : Int) + o1 = (t1 : Int)) (g2 : (pc : Int) + o2 = (t2 : Int)) (gd : (pc : Int) + dflt = (td : Int)) (k0 : x = nI (lo + 0) → ow_W X cs sl h t0 lv st) (k1 : ¬ x = nI (lo + 0) → x = nI (lo + 1) → ow_W X cs sl h t1 lv st) (k2 : ¬ x = nI (lo + 0) → ¬ x = nI (lo + 1) → x = nI (lo + 2) → ow_W X cs sl h t2 lv st) (kd : ¬ x = nI (lo + 0) → ¬ x = nI (lo + 1) → ¬ x = nI (lo + 2) → ow_W X cs sl h td lv st) : ow_W X cs sl h pc lv (.int x :: st) := by
  by_cases q0 : x = nI (lo + 0)
  · refine or_tabIn t0 E d (by rw [q0, nI_toInt (by omega)]; omega) (by rw [q0, nI_toInt (by omega)]; omega) (by rw [q0, nI_toInt (by omega), show ((lo + 0 : Nat) : Int) - (lo : Int) = ((0 : Nat) : Int) by omega]; rfl) g0 (k0 q0)
  by_cases q1 : x = nI (lo + 1)
  · refine or_tabIn t1 E d (by rw [q1, nI_toInt (by omega)]; omega) (by rw [q1, nI_toInt (by omega)]; omega) (by rw [q1, nI_toInt (by omega), show ((lo + 1 : Nat) : Int) - (lo : Int) = ((1 : Nat) : Int) by omega]; rfl) g1 (k1 q0 q1)
  by_cases q2 : x = nI (lo + 2)
  · refine or_tabIn t2 E d (by rw [q2, nI_toInt (by omega)]; omega) (by rw [q2, nI_toInt (by omega)]; omega) (by rw [q2, nI_toInt (by omega), show ((lo + 2 : Nat) : Int) - (lo : Int) = ((2 : Nat) : Int) by omega]; rfl) g2 (k2 q0 q1 q2)
  exact or_tabOut td E d (sw_out (n := 3) (by omega) (lt_3 q0 q1 q2)) gd (kd q0 q1 q2)
theorem or_tab4 {x : Int32} {lo : Nat} {dflt o0 o1 o2 o3 : Int} {len : Nat} (t0 : Nat) (t1 : Nat) (t2 : Nat) (t3 : Nat) (td : Nat) (E : ow_E X own cc nL R0) (d : decode cc pc = .ok (.tableswitch dflt lo (((lo + 4 : Nat) : Int) - 1) #[o0, o1, o2, o3], len)) (hl : lo + 4 < 2 ^ 31) (g0 : (pc : Int) + o0 = (t0 : Int)) (g1 : (pc : Int) + o1 = (t1 : Int)) (g2 : (pc : Int) + o2 = (t2 : Int)) (g3 : (pc : Int) + o3 = (t3 : Int)) (gd : (pc : Int) + dflt = (td : Int)) (k0 : x = nI (lo + 0) → ow_W X cs sl h t0 lv st) (k1 : ¬ x = nI (lo + 0) → x = nI (lo + 1) → ow_W X cs sl h t1 lv st) (k2 : ¬ x = nI (lo + 0) → ¬ x = nI (lo + 1) → x = nI (lo + 2) → ow_W X cs sl h t2 lv st) (k3 : ¬ x = nI (lo + 0) → ¬ x = nI (lo + 1) → ¬ x = nI (lo + 2) → x = nI (lo + 3) → ow_W X cs sl h t3 lv st) (kd : ¬ x = nI (lo + 0) → ¬ x = nI (lo + 1) → ¬ x = nI (lo + 2) → ¬ x = nI (lo + 3) → ow_W X cs sl h td lv st) : ow_W X cs sl h pc lv (.int x :: st) := by
  by_cases q0 : x = nI (lo + 0)
  · refine or_tabIn t0 E d (by rw [q0, nI_toInt (by omega)]; omega) (by rw [q0, nI_toInt (by omega)]; omega) (by rw [q0, nI_toInt (by omega), show ((lo + 0 : Nat) : Int) - (lo : Int) = ((0 : Nat) : Int) by omega]; rfl) g0 (k0 q0)
  by_cases q1 : x = nI (lo + 1)
  · refine or_tabIn t1 E d (by rw [q1, nI_toInt (by omega)]; omega) (by rw [q1, nI_toInt (by omega)]; omega) (by rw [q1, nI_toInt (by omega), show ((lo + 1 : Nat) : Int) - (lo : Int) = ((1 : Nat) : Int) by omega]; rfl) g1 (k1 q0 q1)
  by_cases q2 : x = nI (lo + 2)
  · refine or_tabIn t2 E d (by rw [q2, nI_toInt (by omega)]; omega) (by rw [q2, nI_toInt (by omega)]; omega) (by rw [q2, nI_toInt (by omega), show ((lo + 2 : Nat) : Int) - (lo : Int) = ((2 : Nat) : Int) by omega]; rfl) g2 (k2 q0 q1 q2)
  by_cases q3 : x = nI (lo + 3)
  · refine or_tabIn t3 E d (by rw [q3, nI_toInt (by omega)]; omega) (by rw [q3, nI_toInt (by omega)]; omega) (by rw [q3, nI_toInt (by omega), show ((lo + 3 : Nat) : Int) - (lo : Int) = ((3 : Nat) : Int) by omega]; rfl) g3 (k3 q0 q1 q2 q3)
  exact or_tabOut td E d (sw_out (n := 4) (by omega) (lt_4 q0 q1 q2 q3)) gd (kd q0 q1 q2 q3)
theorem or_tab5 {x : Int32} {lo : Nat} {dflt o0 o1 o2 o3 o4 : Int} {len : Nat} (t0 : Nat) (t1 : Nat) (t2 : Nat) (t3 : Nat) (t4 : Nat) (td : Nat) (E : ow_E X own cc nL R0) (d : decode cc pc = .ok (.tableswitch dflt lo (((lo + 5 : Nat) : Int) - 1) #[o0, o1, o2, o3, o4], len)) (hl : lo + 5 < 2 ^ 31) (g0 : (pc : Int) + o0 = (t0 : Int)) (g1 : (pc : Int) + o1 = (t1 : Int)) (g2 : (pc : Int) + o2 = (t2 : Int)) (g3 : (pc : Int) + o3 = (t3 : Int)) (g4 : (pc : Int) + o4 = (t4 : Int)) (gd : (pc : Int) + dflt = (td : Int)) (k0 : x = nI (lo + 0) → ow_W X cs sl h t0 lv st) (k1 : ¬ x = nI (lo + 0) → x = nI (lo + 1) → ow_W X cs sl h t1 lv st) (k2 : ¬ x = nI (lo + 0) → ¬ x = nI (lo + 1) → x = nI (lo + 2) → ow_W X cs sl h t2 lv st) (k3 : ¬ x = nI (lo + 0) → ¬ x = nI (lo + 1) → ¬ x = nI (lo + 2) → x = nI (lo + 3) → ow_W X cs sl h t3 lv st) (k4 : ¬ x = nI (lo + 0) → ¬ x = nI (lo + 1) → ¬ x = nI (lo + 2) → ¬ x = nI (lo + 3) → x = nI (lo + 4) → ow_W X cs sl h t4 lv st) (kd : ¬ x = nI (lo + 0) → ¬ x = nI (lo + 1) → ¬ x = nI (lo + 2) → ¬ x = nI (lo + 3) → ¬ x = nI (lo + 4) → ow_W X cs sl h td lv st) : ow_W X cs sl h pc lv (.int x :: st) := by
  by_cases q0 : x = nI (lo + 0)
  · refine or_tabIn t0 E d (by rw [q0, nI_toInt (by omega)]; omega) (by rw [q0, nI_toInt (by omega)]; omega) (by rw [q0, nI_toInt (by omega), show ((lo + 0 : Nat) : Int) - (lo : Int) = ((0 : Nat) : Int) by omega]; rfl) g0 (k0 q0)
  by_cases q1 : x = nI (lo + 1)
  · refine or_tabIn t1 E d (by rw [q1, nI_toInt (by omega)]; omega) (by rw [q1, nI_toInt (by omega)]; omega) (by rw [q1, nI_toInt (by omega), show ((lo + 1 : Nat) : Int) - (lo : Int) = ((1 : Nat) : Int) by omega]; rfl) g1 (k1 q0 q1)
  by_cases q2 : x = nI (lo + 2)
  · refine or_tabIn t2 E d (by rw [q2, nI_toInt (by omega)]; omega) (by rw [q2, nI_toInt (by omega)]; omega) (by rw [q2, nI_toInt (by omega), show ((lo + 2 : Nat) : Int) - (lo : Int) = ((2 : Nat) : Int) by omega]; rfl) g2 (k2 q0 q1 q2)
  by_cases q3 : x = nI (lo + 3)
  · refine or_tabIn t3 E d (by rw [q3, nI_toInt (by omega)]; omega) (by rw [q3, nI_toInt (by omega)]; omega) (by rw [q3, nI_toInt (by omega), show ((lo + 3 : Nat) : Int) - (lo : Int) = ((3 : Nat) : Int) by omega]; rfl) g3 (k3 q0 q1 q2 q3)
  by_cases q4 : x = nI (lo + 4)
  · refine or_tabIn t4 E d (by rw [q4, nI_toInt (by omega)]; omega) (by rw [q4, nI_toInt (by omega)]; omega) (by rw [q4, nI_toInt (by omega), show ((lo + 4 : Nat) : Int) - (lo : Int) = ((4 : Nat) : Int) by omega]; rfl) g4 (k4 q0 q1 q2 q3 q4)
  exact or_tabOut td E d (sw_out (n := 5) (by omega) (lt_5 q0 q1 q2 q3 q4)) gd (kd q0 q1 q2 q3 q4)
theorem or_tab6 {x : Int32} {lo : Nat} {dflt o0 o1 o2 o3 o4 o5 : Int} {len : Nat} (t0 : Nat) (t1 : Nat) (t2 : Nat) (t3 : Nat) (t4 : Nat) (t5 : Nat) (td : Nat) (E : ow_E X own cc nL R0) (d : decode cc pc = .ok (.tableswitch dflt lo (((lo + 6 : Nat) : Int) - 1) #[o0, o1, o2, o3, o4, o5], len)) (hl : lo + 6 < 2 ^ 31) (g0 : (pc : Int) + o0 = (t0 : Int)) (g1 : (pc : Int) + o1 = (t1 : Int)) (g2 : (pc : Int) + o2 = (t2 : Int)) (g3 : (pc : Int) + o3 = (t3 : Int)) (g4 : (pc : Int) + o4 = (t4 : Int)) (g5 : (pc : Int) + o5 = (t5 : Int)) (gd : (pc : Int) + dflt = (td : Int)) (k0 : x = nI (lo + 0) → ow_W X cs sl h t0 lv st) (k1 : ¬ x = nI (lo + 0) → x = nI (lo + 1) → ow_W X cs sl h t1 lv st) (k2 : ¬ x = nI (lo + 0) → ¬ x = nI (lo + 1) → x = nI (lo + 2) → ow_W X cs sl h t2 lv st) (k3 : ¬ x = nI (lo + 0) → ¬ x = nI (lo + 1) → ¬ x = nI (lo + 2) → x = nI (lo + 3) → ow_W X cs sl h t3 lv st) (k4 : ¬ x = nI (lo + 0) → ¬ x = nI (lo + 1) → ¬ x = nI (lo + 2) → ¬ x = nI (lo + 3) → x = nI (lo + 4) → ow_W X cs sl h t4 lv st) (k5 : ¬ x = nI (lo + 0) → ¬ x = nI (lo + 1) → ¬ x = nI (lo + 2) → ¬ x = nI (lo + 3) → ¬ x = nI (lo + 4) → x = nI (lo + 5) → ow_W X cs sl h t5 lv st) (kd : ¬ x = nI (lo + 0) → ¬ x = nI (lo + 1) → ¬ x = nI (lo + 2) → ¬ x = nI (lo + 3) → ¬ x = nI (lo + 4) → ¬ x = nI (lo + 5) → ow_W X cs sl h td lv st) : ow_W X cs sl h pc lv (.int x :: st) := by
  by_cases q0 : x = nI (lo + 0)
  · refine or_tabIn t0 E d (by rw [q0, nI_toInt (by omega)]; omega) (by rw [q0, nI_toInt (by omega)]; omega) (by rw [q0, nI_toInt (by omega), show ((lo + 0 : Nat) : Int) - (lo : Int) = ((0 : Nat) : Int) by omega]; rfl) g0 (k0 q0)
  by_cases q1 : x = nI (lo + 1)
  · refine or_tabIn t1 E d (by rw [q1, nI_toInt (by omega)]; omega) (by rw [q1, nI_toInt (by omega)]; omega) (by rw [q1, nI_toInt (by omega), show ((lo + 1 : Nat) : Int) - (lo : Int) = ((1 : Nat) : Int) by omega]; rfl) g1 (k1 q0 q1)
  by_cases q2 : x = nI (lo + 2)
  · refine or_tabIn t2 E d (by rw [q2, nI_toInt (by omega)]; omega) (by rw [q2, nI_toInt (by omega)]; omega) (by rw [q2, nI_toInt (by omega), show ((lo + 2 : Nat) : Int) - (lo : Int) = ((2 : Nat) : Int) by omega]; rfl) g2 (k2 q0 q1 q2)
  by_cases q3 : x = nI (lo + 3)
  · refine or_tabIn t3 E d (by rw [q3, nI_toInt (by omega)]; omega) (by rw [q3, nI_toInt (by omega)]; omega) (by rw [q3, nI_toInt (by omega), show ((lo + 3 : Nat) : Int) - (lo : Int) = ((3 : Nat) : Int) by omega]; rfl) g3 (k3 q0 q1 q2 q3)
  by_cases q4 : x = nI (lo + 4)
  · refine or_tabIn t4 E d (by rw [q4, nI_toInt (by omega)]; omega) (by rw [q4, nI_toInt (by omega)]; omega) (by rw [q4, nI_toInt (by omega), show ((lo + 4 : Nat) : Int) - (lo : Int) = ((4 : Nat) : Int) by omega]; rfl) g4 (k4 q0 q1 q2 q3 q4)
  by_cases q5 : x = nI (lo + 5)
  · refine or_tabIn t5 E d (by rw [q5, nI_toInt (by omega)]; omega) (by rw [q5, nI_toInt (by omega)]; omega) (by rw [q5, nI_toInt (by omega), show ((lo + 5 : Nat) : Int) - (lo : Int) = ((5 : Nat) : Int) by omega]; rfl) g5 (k5 q0 q1 q2 q3 q4 q5)
  exact or_tabOut td E d (sw_out (n := 6) (by omega) (lt_6 q0 q1 q2 q3 q4 q5)) gd (kd q0 q1 q2 q3 q4 q5)
theorem or_tab7 {x : Int32} {lo : Nat} {dflt o0 o1 o2 o3 o4 o5 o6 : Int} {len : Nat} (t0 : Nat) (t1 : Nat) (t2 : Nat) (t3 : Nat) (t4 : Nat) (t5 : Nat) (t6 : Nat) (td : Nat) (E : ow_E X own cc nL R0) (d : decode cc pc = .ok (.tableswitch dflt lo (((lo + 7 : Nat) : Int) - 1) #[o0, o1, o2, o3, o4, o5, o6], len)) (hl : lo + 7 < 2 ^ 31) (g0 : (pc : Int) + o0 = (t0 : Int)) (g1 : (pc : Int) + o1 = (t1 : Int)) (g2 : (pc : Int) + o2 = (t2 : Int)) (g3 : (pc : Int) + o3 = (t3 : Int)) (g4 : (pc : Int) + o4 = (t4 : Int)) (g5 : (pc : Int) + o5 = (t5 : Int)) (g6 : (pc : Int) + o6 = (t6 : Int)) (gd : (pc : Int) + dflt = (td : Int)) (k0 : x = nI (lo + 0) → ow_W X cs sl h t0 lv st) (k1 : ¬ x = nI (lo + 0) → x = nI (lo + 1) → ow_W X cs sl h t1 lv st) (k2 : ¬ x = nI (lo + 0) → ¬ x = nI (lo + 1) → x = nI (lo + 2) → ow_W X cs sl h t2 lv st) (k3 : ¬ x = nI (lo + 0) → ¬ x = nI (lo + 1) → ¬ x = nI (lo + 2) → x = nI (lo + 3) → ow_W X cs sl h t3 lv st) (k4 : ¬ x = nI (lo + 0) → ¬ x = nI (lo + 1) → ¬ x = nI (lo + 2) → ¬ x = nI (lo + 3) → x = nI (lo + 4) → ow_W X cs sl h t4 lv st) (k5 : ¬ x = nI (lo + 0) → ¬ x = nI (lo + 1) → ¬ x = nI (lo + 2) → ¬ x = nI (lo + 3) → ¬ x = nI (lo + 4) → x = nI (lo + 5) → ow_W X cs sl h t5 lv st) (k6 : ¬ x = nI (lo + 0) → ¬ x = nI (lo + 1) → ¬ x = nI (lo + 2) → ¬ x = nI (lo + 3) → ¬ x = nI (lo + 4) → ¬ x = nI (lo + 5) → x = nI (lo + 6) → ow_W X cs sl h t6 lv st) (kd : ¬ x = nI (lo + 0) → ¬ x = nI (lo + 1) → ¬ x = nI (lo + 2) → ¬ x = nI (lo + 3) → ¬ x = nI (lo + 4) → ¬ x = nI (lo + 5) → ¬ x = nI (lo + 6) → ow_W X cs sl h td lv st) : ow_W X cs sl h pc lv (.int x :: st) := by
  by_cases q0 : x = nI (lo + 0)
  · refine or_tabIn t0 E d (by rw [q0, nI_toInt (by omega)]; omega) (by rw [q0, nI_toInt (by omega)]; omega) (by rw [q0, nI_toInt (by omega), show ((lo + 0 : Nat) : Int) - (lo : Int) = ((0 : Nat) : Int) by omega]; rfl) g0 (k0 q0)
  by_cases q1 : x = nI (lo + 1)
  · refine or_tabIn t1 E d (by rw [q1, nI_toInt (by omega)]; omega) (by rw [q1, nI_toInt (by omega)]; omega) (by rw [q1, nI_toInt (by omega), show ((lo + 1 : Nat) : Int) - (lo : Int) = ((1 : Nat) : Int) by omega]; rfl) g1 (k1 q0 q1)
  by_cases q2 : x = nI (lo + 2)
  · refine or_tabIn t2 E d (by rw [q2, nI_toInt (by omega)]; omega) (by rw [q2, nI_toInt (by omega)]; omega) (by rw [q2, nI_toInt (by omega), show ((lo + 2 : Nat) : Int) - (lo : Int) = ((2 : Nat) : Int) by omega]; rfl) g2 (k2 q0 q1 q2)
  by_cases q3 : x = nI (lo + 3)
  · refine or_tabIn t3 E d (by rw [q3, nI_toInt (by omega)]; omega) (by rw [q3, nI_toInt (by omega)]; omega) (by rw [q3, nI_toInt (by omega), show ((lo + 3 : Nat) : Int) - (lo : Int) = ((3 : Nat) : Int) by omega]; rfl) g3 (k3 q0 q1 q2 q3)
  by_cases q4 : x = nI (lo + 4)
  · refine or_tabIn t4 E d (by rw [q4, nI_toInt (by omega)]; omega) (by rw [q4, nI_toInt (by omega)]; omega) (by rw [q4, nI_toInt (by omega), show ((lo + 4 : Nat) : Int) - (lo : Int) = ((4 : Nat) : Int) by omega]; rfl) g4 (k4 q0 q1 q2 q3 q4)
  by_cases q5 : x = nI (lo + 5)
  · refine or_tabIn t5 E d (by rw [q5, nI_toInt (by omega)]; omega) (by rw [q5, nI_toInt (by omega)]; omega) (by rw [q5, nI_toInt (by omega), show ((lo + 5 : Nat) : Int) - (lo : Int) = ((5 : Nat) : Int) by omega]; rfl) g5 (k5 q0 q1 q2 q3 q4 q5)
  by_cases q6 : x = nI (lo + 6)
  · refine or_tabIn t6 E d (by rw [q6, nI_toInt (by omega)]; omega) (by rw [q6, nI_toInt (by omega)]; omega) (by rw [q6, nI_toInt (by omega), show ((lo + 6 : Nat) : Int) - (lo : Int) = ((6 : Nat) : Int) by omega]; rfl) g6 (k6 q0 q1 q2 q3 q4 q5 q6)
  exact or_tabOut td E d (sw_out (n := 7) (by omega) (lt_7 q0 q1 q2 q3 q4 q5 q6)) gd (kd q0 q1 q2 q3 q4 q5 q6)
theorem or_tab8 {x : Int32} {lo : Nat} {dflt o0 o1 o2 o3 o4 o5 o6 o7 : Int} {len : Nat} (t0 : Nat) (t1 : Nat) (t2 : Nat) (t3 : Nat) (t4 : Nat) (t5 : Nat) (t6 : Nat) (t7 : Nat) (td : Nat) (E : ow_E X own cc nL R0) (d : decode cc pc = .ok (.tableswitch dflt lo (((lo + 8 : Nat) : Int) - 1) #[o0, o1, o2, o3, o4, o5, o6, o7], len)) (hl : lo + 8 < 2 ^ 31) (g0 : (pc : Int) + o0 = (t0 : Int)) (g1 : (pc : Int) + o1 = (t1 : Int)) (g2 : (pc : Int) + o2 = (t2 : Int)) (g3 : (pc : Int) + o3 = (t3 : Int)) (g4 : (pc : Int) + o4 = (t4 : Int)) (g5 : (pc : Int) + o5 = (t5 : Int)) (g6 : (pc : Int) + o6 = (t6 : Int)) (g7 : (pc : Int) + o7 = (t7 : Int)) (gd : (pc : Int) + dflt = (td : Int)) (k0 : x = nI (lo + 0) → ow_W X cs sl h t0 lv st) (k1 : ¬ x = nI (lo + 0) → x = nI (lo + 1) → ow_W X cs sl h t1 lv st) (k2 : ¬ x = nI (lo + 0) → ¬ x = nI (lo + 1) → x = nI (lo + 2) → ow_W X cs sl h t2 lv st) (k3 : ¬ x = nI (lo + 0) → ¬ x = nI (lo + 1) → ¬ x = nI (lo + 2) → x = nI (lo + 3) → ow_W X cs sl h t3 lv st) (k4 : ¬ x = nI (lo + 0) → ¬ x = nI (lo + 1) → ¬ x = nI (lo + 2) → ¬ x = nI (lo + 3) → x = nI (lo + 4) → ow_W X cs sl h t4 lv st) (k5 : ¬ x = nI (lo + 0) → ¬ x = nI (lo + 1) → ¬ x = nI (lo + 2) → ¬ x = nI (lo + 3) → ¬ x = nI (lo + 4) → x = nI (lo + 5) → ow_W X cs sl h t5 lv st) (k6 : ¬ x = nI (lo + 0) → ¬ x = nI (lo + 1) → ¬ x = nI (lo + 2) → ¬ x = nI (lo + 3) → ¬ x = nI (lo + 4) → ¬ x = nI (lo + 5) → x = nI (lo + 6) → ow_W X cs sl h t6 lv st) (k7 : ¬ x = nI (lo + 0) → ¬ x = nI (lo + 1) → ¬ x = nI (lo + 2) → ¬ x = nI (lo + 3) → ¬ x = nI (lo + 4) → ¬ x = nI (lo + 5) → ¬ x = nI (lo + 6) → x = nI (lo + 7) → ow_W X cs sl h t7 lv st) (kd : ¬ x = nI (lo + 0) → ¬ x = nI (lo + 1) → ¬ x = nI (lo + 2) → ¬ x = nI (lo + 3) → ¬ x = nI (lo + 4) → ¬ x = nI (lo + 5) → ¬ x = nI (lo + 6) → ¬ x = nI (lo + 7) → ow_W X cs sl h td lv st) : ow_W X cs sl h pc lv (.int x :: st) := by
  by_cases q0 : x = nI (lo + 0)
  · refine or_tabIn t0 E d (by rw [q0, nI_toInt (by omega)]; omega) (by rw [q0, nI_toInt (by omega)]; omega) (by rw [q0, nI_toInt (by omega), show ((lo + 0 : Nat) : Int) - (lo : Int) = ((0 : Nat) : Int) by omega]; rfl) g0 (k0 q0)
  by_cases q1 : x = nI (lo + 1)
  · refine or_tabIn t1 E d (by rw [q1, nI_toInt (by omega)]; omega) (by rw [q1, nI_toInt (by omega)]; omega) (by rw [q1, nI_toInt (by omega), show ((lo + 1 : Nat) : Int) - (lo : Int) = ((1 : Nat) : Int) by omega]; rfl) g1 (k1 q0 q1)
  by_cases q2 : x = nI (lo + 2)
  · refine or_tabIn t2 E d (by rw [q2, nI_toInt (by omega)]; omega) (by rw [q2, nI_toInt (by omega)]; omega) (by rw [q2, nI_toInt (by omega), show ((lo + 2 : Nat) : Int) - (lo : Int) = ((2 : Nat) : Int) by omega]; rfl) g2 (k2 q0 q1 q2)
  by_cases q3 : x = nI (lo + 3)
  · refine or_tabIn t3 E d (by rw [q3, nI_toInt (by omega)]; omega) (by rw [q3, nI_toInt (by omega)]; omega) (by rw [q3, nI_toInt (by omega), show ((lo + 3 : Nat) : Int) - (lo : Int) = ((3 : Nat) : Int) by omega]; rfl) g3 (k3 q0 q1 q2 q3)
  by_cases q4 : x = nI (lo + 4)
  · refine or_tabIn t4 E d (by rw [q4, nI_toInt (by omega)]; omega) (by rw [q4, nI_toInt (by omega)]; omega) (by rw [q4, nI_toInt (by omega), show ((lo + 4 : Nat) : Int) - (lo : Int) = ((4 : Nat) : Int) by omega]; rfl) g4 (k4 q0 q1 q2 q3 q4)
  by_cases q5 : x = nI (lo + 5)
  · refine or_tabIn t5 E d (by rw [q5, nI_toInt (by omega)]; omega) (by rw [q5, nI_toInt (by omega)]; omega) (by rw [q5, nI_toInt (by omega), show ((lo + 5 : Nat) : Int) - (lo : Int) = ((5 : Nat) : Int) by omega]; rfl) g5 (k5 q0 q1 q2 q3 q4 q5)
  by_cases q6 : x = nI (lo + 6)
  · refine or_tabIn t6 E d (by rw [q6, nI_toInt (by omega)]; omega) (by rw [q6, nI_toInt (by omega)]; omega) (by rw [q6, nI_toInt (by omega), show ((lo + 6 : Nat) : Int) - (lo : Int) = ((6 : Nat) : Int) by omega]; rfl) g6 (k6 q0 q1 q2 q3 q4 q5 q6)
  by_cases q7 : x = nI (lo + 7)
  · refine or_tabIn t7 E d (by rw [q7, nI_toInt (by omega)]; omega) (by rw [q7, nI_toInt (by omega)]; omega) (by rw [q7, nI_toInt (by omega), show ((lo + 7 : Nat) : Int) - (lo : Int) = ((7 : Nat) : Int) by omega]; rfl) g7 (k7 q0 q1 q2 q3 q4 q5 q6 q7)
  exact or_tabOut td E d (sw_out (n := 8) (by omega) (lt_8 q0 q1 q2 q3 q4 q5 q6 q7)) gd (kd q0 q1 q2 q3 q4 q5 q6 q7)
end OWF
end
section
section
theorem rdPB {m b w : Nat} {x : Int32} {I : ow_I} {a j : Nat} (h : j < 66) : M_putBarrel m b w x I a j = I a j := ow_u_k _ _ _ _ (by omega) _
theorem rdPu {m b w : Nat} {x : Int32} {I : ow_I} {a j : Nat} (h : j < 36) : M_put m b w x I a j = I a j := ow_u_k _ _ _ _ (by omega) _
theorem n64_of {r : UInt64} (h : Jvm.FP.Core.dIsNaN r = false) : vf_n64 r := by
  unfold vf_n64
  have h1 : ¬ 9218868437227405312 < r.toNat % 2 ^ 63 := fun h2 => by
    have := (Jvm.FP.Core.isNaN_bits r).mpr h2
    rw [h] at this
    exact absurd this (by decide)
  rw [UInt64.le_iff_toNat_le, UInt64.toNat_and, show (0x7fffffffffffffff : UInt64).toNat = 2 ^ 63 - 1 by decide, show (0x7ff0000000000000 : UInt64).toNat = 9218868437227405312 by decide, Nat.and_two_pow_sub_one_eq_mod]
  omega
theorem n32_of {r : UInt32} (h : Jvm.FP.Core.fIsNaN r = false) : vf_n32 r := by
  unfold vf_n32
  have h1 : ¬ 2139095040 < r.toNat % 2 ^ 31 := fun h2 => by
    have := (Jvm.FP.Core.isNaN_bits32 r).mpr h2
    rw [h] at this
    exact absurd this (by decide)
  rw [UInt32.le_iff_toNat_le, UInt32.toNat_and, show (0x7fffffff : UInt32).toNat = 2 ^ 31 - 1 by decide, show (0x7f800000 : UInt32).toNat = 2139095040 by decide, Nat.and_two_pow_sub_one_eq_mod]
  omega
theorem fp_dd {x y : Int32} (h : ¬ y = 0) : vf_n64 (FP.ddiv (FP.i2d x) (FP.i2d y)) :=
  n64_of (Jvm.FP.Core.ddiv_out (a := Jvm.FP.Core.i2d x) (b := Jvm.FP.Core.i2d y) (Jvm.FP.Core.i2d_fin x).notNaN (Jvm.FP.Core.i2d_fin y) (fun hz => Jvm.FP.Core.i2d_ne_zero h ((Jvm.FP.Core.zero_bits2 _).mp hz)))
theorem fp_ff {x y : Int32} (h : ¬ y = 0) : vf_n32 (FP.fdiv (FP.i2f x) (FP.i2f y)) :=
  n32_of (Jvm.FP.Core.fdiv_out (a := Jvm.FP.Core.i2f x) (b := Jvm.FP.Core.i2f y) (Jvm.FP.Core.i2f_fin x).notNaN (Jvm.FP.Core.i2f_fin y) (fun hz => Jvm.FP.Core.i2f_ne_zero h ((Jvm.FP.Core.zero_bits232 _).mp hz)))
theorem fp_i2d_div100 (x : Int32) : vf_n64 (FP.ddiv (FP.i2d x) (4636737291354636288 : UInt64)) := by
  rw [show (4636737291354636288 : UInt64) = FP.i2d 100 by decide +kernel]
  exact fp_dd (by decide)
theorem fp_i2d_div10 (x : Int32) : vf_n64 (FP.ddiv (FP.i2d x) (4621819117588971520 : UInt64)) := by
  rw [show (4621819117588971520 : UInt64) = FP.i2d 10 by decide +kernel]
  exact fp_dd (by decide)
theorem fp_i2d_div5 (x : Int32) : vf_n64 (FP.ddiv (FP.i2d x) (4617315517961601024 : UInt64)) := by
  rw [show (4617315517961601024 : UInt64) = FP.i2d 5 by decide +kernel]
  exact fp_dd (by decide)
def M_addBuyer (m : Nat) (p : Int32) (s : Int32) (f : Int32) (I : ow_I) : ow_I :=
  lt (M_put m (tn (I (m + 1) 6)) 0 p I) (fun (I1 : ow_I) => lt (M_put m (tn (I (m + 1) 6)) 1 s I1) (fun (I2 : ow_I) => lt (M_put m (tn (I (m + 1) 6)) 2 f I2) (fun (I3 : ow_I) => lt (M_put m (tn (I (m + 1) 6)) 3 (nI 0) I3) (fun (I4 : ow_I) => lt (M_put m (tn (I (m + 1) 6)) 4 (nI 0) I4) (fun (I5 : ow_I) => lt (ow_u I5 (m + 1) 15 (I5 (m + 1) 15 + p)) (fun (I6 : ow_I) => lt (ow_u I6 (m + 1) 6 (I6 (m + 1) 6 + (nI 1))) (fun (I7 : ow_I) => I7)))))))
def M_enqueue (m : Nat) (b : Nat) (I : ow_I) : ow_I :=
  lt (M_putBarrel m b 12 (nI 0) I) (fun (I1 : ow_I) => lt (ow_u I1 (m + 1) (16 + (tn (I (m + 1) 12))) (nI b)) (fun (I2 : ow_I) => lt (ow_u I2 (m + 1) 12 (I2 (m + 1) 12 + (nI 1))) (fun (I3 : ow_I) => I3)))
def M_newBarrel (m : Nat) (r : Int32) (I : ow_I) : Nat × ow_I :=
  lt (M_putBarrel m (tn (I (m + 1) 7)) 0 (nI 0) I) (fun (I1 : ow_I) => lt (M_putBarrel m (tn (I (m + 1) 7)) 10 r I1) (fun (I2 : ow_I) => lt (M_putBarrel m (tn (I (m + 1) 7)) 11 (nI 0) I2) (fun (I3 : ow_I) => lt (M_putBarrel m (tn (I (m + 1) 7)) 13 ((-1)) I3) (fun (I4 : ow_I) => lt (M_putBarrel m (tn (I (m + 1) 7)) 14 ((-1)) I4) (fun (I5 : ow_I) => lt (ow_u I5 (m + 1) 7 (I5 (m + 1) 7 + (nI 1))) (fun (I6 : ow_I) => lt (M_enqueue m (tn (I (m + 1) 7)) I6) (fun (I7 : ow_I) => (tn (I (m + 1) 7), I7))))))))
def M_addEel (m : Nat) (b : Nat) (x : Int32) (I : ow_I) : ow_I :=
  lt (M_putBarrel m b (1 + (tn (M_ofBarrel m b 0 I))) x I) (fun (I1 : ow_I) => lt (M_putBarrel m b 0 (nI (tn (M_ofBarrel m b 0 I) + 1)) I1) (fun (I2 : ow_I) => I2))
def M_totalOf_L4 (m : Nat) (b : Nat) : Nat → ow_I → Int32 → Nat → Int32
  | 0, I, _, _ => default
  | n + 1, I, s, e => if tn (M_ofBarrel m b 0 I) ≤ e then s else M_totalOf_L4 m b n I (s + (M_lengthOf m b e I)) (e + 1)
def M_totalOf (m : Nat) (b : Nat) (I : ow_I) : Int32 :=
  M_totalOf_L4 m b 10 I (nI 0) 0
def M_greatestOf_L4 (m : Nat) (b : Nat) : Nat → ow_I → Int32 → Nat → Int32
  | 0, I, _, _ => default
  | n + 1, I, s, e => if tn (M_ofBarrel m b 0 I) ≤ e then s else if M_lengthOf m b e I ≤ s then M_greatestOf_L4 m b n I s (e + 1) else M_greatestOf_L4 m b n I (M_lengthOf m b e I) (e + 1)
def M_greatestOf (m : Nat) (b : Nat) (I : ow_I) : Int32 :=
  M_greatestOf_L4 m b 10 I (nI 0) 0
def M_shorterThan_L5 (m : Nat) (b : Nat) (x : Int32) : Nat → ow_I → Nat → Nat → Int32
  | 0, I, _, _ => default
  | n + 1, I, c, e => if tn (M_ofBarrel m b 0 I) ≤ e then nI c else if x ≤ M_lengthOf m b e I then M_shorterThan_L5 m b x n I c (e + 1) else M_shorterThan_L5 m b x n I (c + 1) (e + 1)
def M_shorterThan (m : Nat) (b : Nat) (x : Int32) (I : ow_I) : Int32 :=
  M_shorterThan_L5 m b x 10 I 0 0
def M_middleOf_L13 (m : Nat) (b : Nat) : Nat → ow_I → Nat → Int32
  | 0, I, _ => default
  | n + 1, I, e => if tn (M_ofBarrel m b 0 I) ≤ e then (-1) else if nI (((tn (M_ofBarrel m b 0 I)) - 1) / 2) < M_shorterThan m b (M_lengthOf m b e I) I then M_middleOf_L13 m b n I (e + 1) else if M_shorterThan m b (M_lengthOf m b e I + (nI 1)) I ≤ nI (((tn (M_ofBarrel m b 0 I)) - 1) / 2) then M_middleOf_L13 m b n I (e + 1) else M_lengthOf m b e I
def M_middleOf (m : Nat) (b : Nat) (I : ow_I) : Int32 :=
  M_middleOf_L13 m b 10 I 0
def M_worthTo (m : Nat) (b : Nat) (k : Nat) (I : ow_I) : UInt64 :=
  if M_of m b 1 I = nI (1 + 0) then FP.ddiv (FP.i2d ((M_of m b 2 I) * (M_totalOf m k I))) ((4636737291354636288 : UInt64)) else if M_of m b 1 I = nI (1 + 1) then FP.ddiv (FP.i2d ((M_of m b 2 I) * (M_ofBarrel m k 0 I))) ((4621819117588971520 : UInt64)) else if M_of m b 1 I = nI (1 + 2) then FP.ddiv (FP.i2d (((M_of m b 2 I) * (M_greatestOf m k I)) * (M_ofBarrel m k 0 I))) ((4636737291354636288 : UInt64)) else if M_of m b 1 I = nI (1 + 3) then FP.ddiv (FP.i2d ((M_of m b 2 I) * (M_ofBarrel m k 0 I - (M_shorterThan m k (nI 60) I)))) ((4617315517961601024 : UInt64)) else FP.dconst0
def M_isOpenNow (m : Nat) (I : ow_I) : Bool :=
  M_isOpenIn m (I (m + 1) 5) I
def M_blowsIn (m : Nat) (n : Int32) (I : ow_I) : Bool :=
  if M_isOpenIn m n I then false else if M_isOpenIn m (n - (nI 1)) I then true else false
def M_bidNext (m : Nat) (I : ow_I) : Int32 :=
  if 0 ≤ I (m + 1) 10 then I (m + 1) 9 + (I (m + 1) 3) else M_ofBarrel m (tn (I (m + 1) 8)) 10 I
def M_costOfPrice (m : Nat) (p : Int32) (I : ow_I) : Int32 :=
  p + ((p * (I (m + 1) 4)) / (nI 100))
def M_reasonAgainst (m : Nat) (b : Nat) (I : ow_I) : Int32 :=
  if M_isOpenNow m I then if 0 ≤ I (m + 1) 8 then if I (m + 1) 10 = nI b then nI 3 else if M_costOfPrice m (M_bidNext m I) I ≤ M_of m b 0 I then nI 0 else nI 4 else nI 2 else nI 1
def M_nodNow (m : Nat) (b : Nat) (I : ow_I) : Int32 × ow_I :=
  lt (ow_u I (m + 1) 9 (M_bidNext m I)) (fun (I1 : ow_I) => lt (ow_u I1 (m + 1) 10 (nI b)) (fun (I2 : ow_I) => lt (ow_u I2 (m + 1) 11 (nI 0)) (fun (I3 : ow_I) => lt (M_put m b 4 (M_of m b 4 I3 + (nI 1)) I3) (fun (I4 : ow_I) => (I4 (m + 1) 9, I4)))))
end
section
/-! what a block of the reference keeps: period, counts, the open barrel, the leader, the queue, the eels -/
def md_V (A : Nat → Int32) : Prop :=
  ¬ A 0 = 0 ∧ (0 ≤ A 6 ∧ 1 ≤ tn (A 6) ∧ tn (A 6) ≤ 6) ∧ (0 ≤ A 7 ∧ tn (A 7) ≤ 20) ∧
  (A 8 = -1 ∨ (0 ≤ A 8 ∧ tn (A 8) < tn (A 7) ∧ ¬ A (66 + 15 * tn (A 8) + 12) = 0)) ∧
  (A 10 = -1 ∨ (0 ≤ A 10 ∧ tn (A 10) < tn (A 6) ∧ 0 ≤ A 8)) ∧
  (0 ≤ A 12 ∧ tn (A 12) ≤ 20) ∧
  (∀ i, i < tn (A 12) → 0 ≤ A (16 + i) ∧ tn (A (16 + i)) < tn (A 7) ∧ A (66 + 15 * tn (A (16 + i)) + 12) = 0) ∧
  (∀ i j, i < tn (A 12) → j < tn (A 12) → A (16 + i) = A (16 + j) → i = j) ∧
  (∀ k, k < tn (A 7) → A (66 + 15 * k + 12) = 0 → ∃ p, p < tn (A 12) ∧ A (16 + p) = nI k) ∧
  (∀ k, k < tn (A 7) → 0 ≤ A (66 + 15 * k) ∧ 1 ≤ tn (A (66 + 15 * k)) ∧ tn (A (66 + 15 * k)) ≤ 9)
theorem i_nlt {x y : Int32} (h : ¬ x < y) : y ≤ x := by rw [Int32.lt_iff_toInt_lt] at h; rw [Int32.le_iff_toInt_le]; omega
theorem i_lt {x y : Int32} (h : ¬ y ≤ x) : x < y := by rw [Int32.le_iff_toInt_le] at h; rw [Int32.lt_iff_toInt_lt]; omega
theorem i_m1 : ¬ (0 : Int32) ≤ -1 := by decide
theorem nI_ge0 {n : Nat} (h : n < 2 ^ 31) : 0 ≤ nI n := nI_pos' h
theorem m1_add {i : Nat} (h : 1 ≤ i) : (-1 : Int32) + nI i = nI (i - 1) := by
  obtain ⟨j, rfl⟩ : ∃ j, i = j + 1 := ⟨i - 1, by omega⟩
  rw [Int32.add_comm, pk_m1]
  rfl
theorem md_th {A : Nat → Int32} (hv : md_V A) {i : Nat} (h1 : 1 ≤ i) (h2 : i ≤ tn (A 6)) : 0 ≤ A 10 + nI i - (A 10 + nI i) / A 6 * A 6 ∧ tn (A 10 + nI i - (A 10 + nI i) / A 6 * A 6) < tn (A 6) := by
  obtain ⟨-, ⟨g1, g2, g3⟩, -, -, g5, -⟩ := hv
  have e6 := (nI_tn g1).symm
  have key : ∀ j : Nat, j < 2 ^ 20 → A 10 + nI i = nI j → 0 ≤ A 10 + nI i - (A 10 + nI i) / A 6 * A 6 ∧ tn (A 10 + nI i - (A 10 + nI i) / A 6 * A 6) < tn (A 6) := by
    intro j hj e
    rw [e]
    generalize tn (A 6) = n at e6 g2 g3 h2 ⊢
    rw [e6, pk_rem (by omega) (by omega) (by omega)]
    have h3 := Nat.mod_lt j (show 0 < n by omega)
    exact ⟨nI_ge0 (by omega), by rw [tn_nI (by omega)]; exact h3⟩
  rcases g5 with g5 | ⟨g5, g6, -⟩
  · exact key (i - 1) (by omega) (by rw [g5, m1_add h1])
  · exact key (tn (A 10) + i) (by omega) (by rw [← nI_add, nI_tn g5])
theorem mdV_10 {A : Nat → Int32} (hv : md_V A) (h : 0 ≤ A 10) : tn (A 10) < 6 := by
  have h1 := hv.2.1
  rcases hv.2.2.2.2.1 with q | q
  · rw [q] at h; exact absurd h i_m1
  · omega
theorem mdV_8 {A : Nat → Int32} (hv : md_V A) (h : 0 ≤ A 8) : tn (A 8) < 20 := by
  have h1 := hv.2.2.1
  rcases hv.2.2.2.1 with q | q
  · rw [q] at h; exact absurd h i_m1
  · omega
theorem tn_inc {x : Int32} (h : 0 ≤ x) (hb : tn x < 2 ^ 30) : 0 ≤ x + nI 1 ∧ tn (x + nI 1) = tn x + 1 := by
  have e := (nI_tn h).symm
  generalize tn x = n at e hb ⊢
  subst e
  rw [nI_add]
  exact ⟨nI_ge0 (by omega), tn_nI (by omega)⟩
theorem mdV_q0 {A : Nat → Int32} (hv : md_V A) : 0 < tn (A 12) → 0 ≤ A 16 ∧ tn (A 16) < 20 := fun h => by
  have h1 := hv.2.2.2.2.2.2.1 0 h
  have h2 := hv.2.2.1
  exact ⟨h1.1, by have := h1.2.1; simp only [Nat.add_zero] at this; omega⟩
/-! what a block keeps, of its parts -/
theorem pigeon : ∀ (n q : Nat) (f : Nat → Nat), (∀ i, i < q → f i < n) → (∀ i j, i < q → j < q → f i = f j → i = j) → q ≤ n := by
  intro n
  induction n with
  | zero =>
    intro q f h _
    rcases Nat.eq_zero_or_pos q with z | z
    · omega
    · exact absurd (h 0 z) (by omega)
  | succ n ih =>
    intro q f h hj
    by_cases c : ∃ i, i < q ∧ f i = n
    · obtain ⟨p, hp, e⟩ := c
      have r := ih (q - 1) (fun j => f (if j < p then j else j + 1)) (fun i hi => by
        have h1 := h (if i < p then i else i + 1) (by split <;> omega)
        have h2 : f (if i < p then i else i + 1) ≠ n := fun z => by
          have := hj _ _ (by split <;> omega) hp (z.trans e.symm)
          split at this <;> omega
        show f (if i < p then i else i + 1) < n
        omega) (fun i j hi hj2 e2 => by
        have := hj _ _ (by split <;> omega) (by split <;> omega) e2
        split at this <;> split at this <;> omega)
      omega
    · have r := ih q f (fun i hi => by
        have h1 := h i hi
        have h2 : f i ≠ n := fun z => c ⟨i, hi, z⟩
        omega) hj
      omega
def md_VV (a0 a6 a7 a8 a10 a12 : Int32) (Q s e : Nat → Int32) : Prop :=
  ¬ a0 = 0 ∧ (0 ≤ a6 ∧ 1 ≤ tn a6 ∧ tn a6 ≤ 6) ∧ (0 ≤ a7 ∧ tn a7 ≤ 20) ∧
  (a8 = -1 ∨ (0 ≤ a8 ∧ tn a8 < tn a7 ∧ ¬ s (tn a8) = 0)) ∧
  (a10 = -1 ∨ (0 ≤ a10 ∧ tn a10 < tn a6 ∧ 0 ≤ a8)) ∧
  (0 ≤ a12 ∧ tn a12 ≤ 20) ∧
  (∀ i, i < tn a12 → 0 ≤ Q i ∧ tn (Q i) < tn a7 ∧ s (tn (Q i)) = 0) ∧
  (∀ i j, i < tn a12 → j < tn a12 → Q i = Q j → i = j) ∧
  (∀ k, k < tn a7 → s k = 0 → ∃ p, p < tn a12 ∧ Q p = nI k) ∧
  (∀ k, k < tn a7 → 0 ≤ e k ∧ 1 ≤ tn (e k) ∧ tn (e k) ≤ 9)
theorem md_V_eq (A : Nat → Int32) : md_V A = md_VV (A 0) (A 6) (A 7) (A 8) (A 10) (A 12) (fun i => A (16 + i)) (fun k => A (66 + 15 * k + 12)) (fun k => A (66 + 15 * k)) := rfl
section
variable {a0 a6 a7 a8 a10 a12 : Int32} {Q s e Q' s' e' : Nat → Int32}
theorem tn_inj {x y : Int32} (hx : 0 ≤ x) (hy : 0 ≤ y) (h : tn x = tn y) : x = y := by rw [← nI_tn hx, ← nI_tn hy, h]
theorem VV_qle (hv : md_VV a0 a6 a7 a8 a10 a12 Q s e) : tn a12 ≤ tn a7 := by
  obtain ⟨-, -, -, -, -, -, hq, hi, -, -⟩ := hv
  exact pigeon _ _ (fun i => tn (Q i)) (fun i h => (hq i h).2.1) (fun i j h1 h2 z => hi i j h1 h2 (tn_inj (hq i h1).1 (hq j h2).1 z))
theorem VV_qlt (hv : md_VV a0 a6 a7 a8 a10 a12 Q s e) (h8 : 0 ≤ a8) : tn a12 < tn a7 := by
  obtain ⟨-, -, -, ho, -, -, hq, hi, -, -⟩ := hv
  have ho : tn a8 < tn a7 ∧ ¬ s (tn a8) = 0 := by
    rcases ho with z | z
    · rw [z] at h8; exact absurd h8 i_m1
    · exact z.2
  have hne : ∀ i, i < tn a12 → tn (Q i) ≠ tn a8 := fun i h z => ho.2 (by rw [← z]; exact (hq i h).2.2)
  refine pigeon _ (tn a12 + 1) (fun i => if i < tn a12 then tn (Q i) else tn a8) (fun i h => ?_) (fun i j h1 h2 z => ?_)
  · show (if i < tn a12 then tn (Q i) else tn a8) < tn a7
    split
    · exact (hq i (by omega)).2.1
    · exact ho.1
  · split at z <;> split at z
    · exact hi i j (by omega) (by omega) (tn_inj (hq i (by omega)).1 (hq j (by omega)).1 z)
    · exact absurd z (hne i (by omega))
    · exact absurd z.symm (hne j (by omega))
    · omega
theorem VV_congr (hv : md_VV a0 a6 a7 a8 a10 a12 Q s e) (hQ : ∀ i, i < 20 → Q' i = Q i) (hs : ∀ i, i < 20 → s' i = s i) (he : ∀ i, i < 20 → e' i = e i) : md_VV a0 a6 a7 a8 a10 a12 Q' s' e' := by
  obtain ⟨h0, h6, h7, h8, h10, h12, hq, hi, hw, hee⟩ := hv
  refine ⟨h0, h6, h7, ?_, h10, h12, ?_, ?_, ?_, ?_⟩
  · rcases h8 with z | z
    · exact Or.inl z
    · exact Or.inr ⟨z.1, z.2.1, by rw [hs _ (by omega)]; exact z.2.2⟩
  · intro i h
    have q := hq i h
    rw [hQ i (by omega), hs _ (by omega)]
    exact q
  · intro i j h1 h2
    rw [hQ i (by omega), hQ j (by omega)]
    exact hi i j h1 h2
  · intro k h z
    rw [hs k (by omega)] at z
    obtain ⟨p, g1, g2⟩ := hw k h z
    exact ⟨p, g1, by rw [hQ p (by omega)]; exact g2⟩
  · intro k h
    rw [he k (by omega)]
    exact hee k h
theorem VV_shut (hv : md_VV a0 a6 a7 a8 a10 a12 Q s e) (h8 : 0 ≤ a8) {x : Int32} (hx : ¬ x = 0) (hs : ∀ k, k < 20 → s' k = if k = tn a8 then x else s k) : md_VV a0 a6 a7 (-1) (-1) a12 Q s' e := by
  have hv0 := hv
  obtain ⟨h0, h6, h7, ho, h10, h12, hq, hi, hw, hee⟩ := hv
  have ho : tn a8 < tn a7 ∧ ¬ s (tn a8) = 0 := by
    rcases ho with z | z
    · rw [z] at h8; exact absurd h8 i_m1
    · exact z.2
  refine ⟨h0, h6, h7, Or.inl rfl, Or.inl rfl, h12, ?_, hi, ?_, hee⟩
  · intro i h
    have q := hq i h
    refine ⟨q.1, q.2.1, ?_⟩
    rw [hs _ (by omega), if_neg (fun z => ho.2 (by rw [← z]; exact q.2.2))]
    exact q.2.2
  · intro k h z
    rw [hs k (by omega)] at z
    split at z
    · exact absurd z hx
    · exact hw k h z
theorem VV_back (hv : md_VV a0 a6 a7 a8 a10 a12 Q s e) (h8 : 0 ≤ a8) {a' : Int32} (ha : a' = a12 + nI 1) (hQ : ∀ i, i < 20 → Q' i = if i = tn a12 then nI (tn a8) else Q i) (hs : ∀ k, k < 20 → s' k = if k = tn a8 then 0 else s k) : md_VV a0 a6 a7 (-1) (-1) a' Q' s' e := by
  have hlt := VV_qlt hv h8
  obtain ⟨h0, h6, h7, ho, h10, h12, hq, hi, hw, hee⟩ := hv
  have t := tn_inc h12.1 (by omega)
  subst ha
  have ho : tn a8 < tn a7 ∧ ¬ s (tn a8) = 0 := by
    rcases ho with z | z
    · rw [z] at h8; exact absurd h8 i_m1
    · exact z.2
  have hne : ∀ i, i < tn a12 → ¬ Q i = nI (tn a8) := fun i h z => by
    have q := hq i h
    rw [z, tn_nI (by omega)] at q
    exact ho.2 q.2.2
  refine ⟨h0, h6, h7, Or.inl rfl, Or.inl rfl, ⟨t.1, by rw [t.2]; omega⟩, ?_, ?_, ?_, hee⟩
  · intro i h
    rw [t.2] at h
    rw [hQ i (by omega)]
    split
    · rw [tn_nI (by omega), hs _ (by omega), if_pos rfl]
      exact ⟨nI_ge0 (by omega), ho.1, rfl⟩
    · have q := hq i (by omega)
      refine ⟨q.1, q.2.1, ?_⟩
      rw [hs _ (by omega)]
      split
      · rfl
      · exact q.2.2
  · intro i j h1 h2
    rw [t.2] at h1 h2
    rw [hQ i (by omega), hQ j (by omega)]
    split <;> split <;> intro z
    · omega
    · exact absurd z.symm (hne j (by omega))
    · exact absurd z (hne i (by omega))
    · exact hi i j (by omega) (by omega) z
  · intro k h z
    rw [t.2]
    by_cases c : k = tn a8
    · exact ⟨tn a12, by omega, by rw [hQ _ (by omega), if_pos rfl, c]⟩
    · rw [hs k (by omega), if_neg c] at z
      obtain ⟨p, g1, g2⟩ := hw k h z
      exact ⟨p, by omega, by rw [hQ p (by omega), if_neg (by omega)]; exact g2⟩
theorem VV_deq (hv : md_VV a0 a6 a7 a8 a10 a12 Q s e) {p b : Nat} (hp : p < tn a12) (hb : Q p = nI b) (hbb : b < 20) {x a' a8' a10' : Int32} (hx : ¬ x = 0) (ha : a' = nI (tn a12 - 1)) (hQ : ∀ i, i < tn a12 - 1 → Q' i = if i < p then Q i else Q (i + 1)) (hs : ∀ k, k < 20 → s' k = if k = b then x else s k)
  (h810 : (a8' = a8 ∧ a10' = a10) ∨ (a8' = nI b ∧ a10' = -1)) : md_VV a0 a6 a7 a8' a10' a' Q' s' e := by
  obtain ⟨h0, h6, h7, ho, h10, h12, hq, hi, hw, hee⟩ := hv
  have t : tn a' = tn a12 - 1 := by rw [ha, tn_nI (by omega)]
  have hbn : b < tn a7 ∧ s b = 0 := by
    have q := hq p hp
    rw [hb, tn_nI (by omega)] at q
    exact q.2
  have hne : ∀ i, i < tn a12 → i ≠ p → tn (Q i) ≠ b := fun i h hip z => hip (hi i p h hp (by rw [hb, ← z]; exact (nI_tn (hq i h).1).symm))
  refine ⟨h0, h6, h7, ?_, ?_, ⟨by rw [ha]; exact nI_ge0 (by omega), by omega⟩, ?_, ?_, ?_, hee⟩
  · rcases h810 with z | z
    · rw [z.1]
      rcases ho with y | y
      · exact Or.inl y
      · refine Or.inr ⟨y.1, y.2.1, ?_⟩
        rw [hs _ (by omega)]
        split
        · exact hx
        · exact y.2.2
    · refine Or.inr ?_
      rw [z.1, tn_nI (by omega), hs _ (by omega), if_pos rfl]
      exact ⟨nI_ge0 (by omega), hbn.1, hx⟩
  · rcases h810 with z | z
    · rw [z.1, z.2]; exact h10
    · exact Or.inl z.2
  · intro i h
    rw [t] at h
    rw [hQ i h]
    split
    · have q := hq i (by omega)
      refine ⟨q.1, q.2.1, ?_⟩
      rw [hs _ (by omega), if_neg (hne i (by omega) (by omega))]
      exact q.2.2
    · have q := hq (i + 1) (by omega)
      refine ⟨q.1, q.2.1, ?_⟩
      rw [hs _ (by omega), if_neg (hne (i + 1) (by omega) (by omega))]
      exact q.2.2
  · intro i j h1 h2
    rw [t] at h1 h2
    rw [hQ i h1, hQ j h2]
    split <;> split <;> intro z
    · exact hi _ _ (by omega) (by omega) z
    · have := hi _ _ (by omega) (by omega) z; omega
    · have := hi _ _ (by omega) (by omega) z; omega
    · have := hi _ _ (by omega) (by omega) z; omega
  · intro k h z
    rw [hs k (by omega)] at z
    split at z
    · exact absurd z hx
    · rename_i hkb
      obtain ⟨j, g1, g2⟩ := hw k h z
      have hjp : j ≠ p := fun y => by
        rw [y, hb] at g2
        exact hkb ((nI_eq (by omega) (by omega)).1 g2).symm
      rcases Nat.lt_or_ge j p with c | c
      · exact ⟨j, by omega, by rw [hQ j (by omega), if_pos c]; exact g2⟩
      · refine ⟨j - 1, by omega, ?_⟩
        rw [hQ (j - 1) (by omega), if_neg (by omega), show j - 1 + 1 = j by omega]
        exact g2
theorem VV_new (hv : md_VV a0 a6 a7 a8 a10 a12 Q s e) (h20 : tn a7 < 20) {a7' a' : Int32} (ha7 : a7' = a7 + nI 1) (ha : a' = a12 + nI 1) (hQ : ∀ i, i < 20 → Q' i = if i = tn a12 then nI (tn a7) else Q i) (hs : ∀ k, k < 20 → s' k = if k = tn a7 then 0 else s k)
  (he : ∀ k, k < tn a7 + 1 → 0 ≤ e' k ∧ 1 ≤ tn (e' k) ∧ tn (e' k) ≤ 9) : md_VV a0 a6 a7' a8 a10 a' Q' s' e' := by
  have hle := VV_qle hv
  obtain ⟨h0, h6, h7, ho, h10, h12, hq, hi, hw, hee⟩ := hv
  have t := tn_inc h12.1 (by omega)
  have t7 := tn_inc h7.1 (by omega)
  subst ha ha7
  have hne : ∀ i, i < tn a12 → ¬ Q i = nI (tn a7) := fun i h z => by
    have q := hq i h
    rw [z, tn_nI (by omega)] at q
    omega
  refine ⟨h0, h6, ⟨t7.1, by rw [t7.2]; omega⟩, ?_, h10, ⟨t.1, by rw [t.2]; omega⟩, ?_, ?_, ?_, ?_⟩
  · rcases ho with z | z
    · exact Or.inl z
    · refine Or.inr ⟨z.1, by rw [t7.2]; omega, ?_⟩
      rw [hs _ (by omega), if_neg (by omega)]
      exact z.2.2
  · intro i h
    rw [t.2] at h
    rw [hQ i (by omega), t7.2]
    split
    · rw [tn_nI (by omega), hs _ (by omega), if_pos rfl]
      exact ⟨nI_ge0 (by omega), by omega, rfl⟩
    · have q := hq i (by omega)
      refine ⟨q.1, by omega, ?_⟩
      rw [hs _ (by omega), if_neg (by omega)]
      exact q.2.2
  · intro i j h1 h2
    rw [t.2] at h1 h2
    rw [hQ i (by omega), hQ j (by omega)]
    split <;> split <;> intro z
    · omega
    · exact absurd z.symm (hne j (by omega))
    · exact absurd z (hne i (by omega))
    · exact hi i j (by omega) (by omega) z
  · intro k h z
    rw [t7.2] at h
    rw [t.2]
    by_cases c : k = tn a7
    · exact ⟨tn a12, by omega, by rw [hQ _ (by omega), if_pos rfl, c]⟩
    · rw [hs k (by omega), if_neg c] at z
      obtain ⟨p, g1, g2⟩ := hw k (by omega) z
      exact ⟨p, by omega, by rw [hQ p (by omega), if_neg (by omega)]; exact g2⟩
  · intro k h
    rw [t7.2] at h
    exact he k (by omega)
theorem VV_lead (hv : md_VV a0 a6 a7 a8 a10 a12 Q s e) (h8 : 0 ≤ a8) {b : Nat} (hb : b < tn a6) : md_VV a0 a6 a7 a8 (nI b) a12 Q s e := by
  obtain ⟨h0, h6, h7, ho, h10, h12, hq, hi, hw, hee⟩ := hv
  exact ⟨h0, h6, h7, ho, Or.inr ⟨nI_ge0 (by omega), by rw [tn_nI (by omega)]; exact hb, h8⟩, h12, hq, hi, hw, hee⟩
theorem VV_eels (hv : md_VV a0 a6 a7 a8 a10 a12 Q s e) (he : ∀ k, k < tn a7 → 0 ≤ e' k ∧ 1 ≤ tn (e' k) ∧ tn (e' k) ≤ 9) : md_VV a0 a6 a7 a8 a10 a12 Q s e' := by
  obtain ⟨h0, h6, h7, ho, h10, h12, hq, hi, hw, hee⟩ := hv
  exact ⟨h0, h6, h7, ho, h10, h12, hq, hi, hw, he⟩
end
end
section
def M_thinker_L14 (m : Nat) : Nat → ow_I → Nat → Int32
  | 0, I, _ => default
  | n + 1, I, i => if tn (I (m + 1) 6) < i then (-1) else if M_reasonAgainst m (tn ((I (m + 1) 10 + (nI i)) - (I (m + 1) 10 + (nI i)) / (I (m + 1) 6) * (I (m + 1) 6))) I = 0 then if Op.cmpValue (FP.dcmp (M_worthTo m (tn ((I (m + 1) 10 + (nI i)) - (I (m + 1) 10 + (nI i)) / (I (m + 1) 6) * (I (m + 1) 6))) (tn (I (m + 1) 8)) I) (FP.i2d (M_bidNext m I))) .l < 0 then M_thinker_L14 m n I (i + 1) else nI (tn ((I (m + 1) 10 + (nI i)) - (I (m + 1) 10 + (nI i)) / (I (m + 1) 6) * (I (m + 1) 6))) else M_thinker_L14 m n I (i + 1)
def M_thinker (m : Nat) (I : ow_I) : Int32 :=
  if 0 ≤ I (m + 1) 8 then M_thinker_L14 m 8 I 1 else (-1)
def M_sell (m : Nat) (k : Nat) (b : Nat) (I : ow_I) : ow_I :=
  lt (M_put m b 0 (M_of m b 0 I - (M_costOfPrice m (I (m + 1) 9) I)) I) (fun (I1 : ow_I) => lt (M_put m b 3 (M_of m b 3 I1 + (nI 1)) I1) (fun (I2 : ow_I) => lt (ow_u I2 (m + 1) 13 (I2 (m + 1) 13 + (I (m + 1) 9))) (fun (I3 : ow_I) => lt (ow_u I3 (m + 1) 14 (I3 (m + 1) 14 + (M_costOfPrice m (I (m + 1) 9) I - (I (m + 1) 9)))) (fun (I4 : ow_I) => lt (M_putBarrel m k 12 (nI 2) I4) (fun (I5 : ow_I) => lt (M_putBarrel m k 13 (nI b) I5) (fun (I6 : ow_I) => lt (M_putBarrel m k 14 (I (m + 1) 9) I6) (fun (I7 : ow_I) => I7)))))))
def M_turnBack (m : Nat) (b : Nat) (I : ow_I) : ow_I :=
  lt (M_putBarrel m b 11 (M_ofBarrel m b 11 I + (nI 1)) I) (fun (I1 : ow_I) => if M_ofBarrel m b 11 I + (nI 1) = nI 3 then lt (M_putBarrel m b 12 (nI 3) I1) (fun (I3 : ow_I) => I3) else lt (M_enqueue m b I1) (fun (I2 : ow_I) => I2))
def M_dequeue_L34 (m : Nat) (b : Nat) : Nat → ow_I → Nat → ow_I
  | 0, I, _ => I
  | n + 1, I, j => if tn (I (m + 1) 12) ≤ j then I else lt (ow_u I (m + 1) (16 + j) (I (m + 1) (16 + j + 1))) (fun (I2 : ow_I) => M_dequeue_L34 m b n I2 (j + 1))
def M_dequeue_L2 (m : Nat) (b : Nat) : Nat → ow_I → Nat → ow_I
  | 0, I, _ => I
  | n + 1, I, i => if I (m + 1) (16 + i) = nI b then lt (ow_u I (m + 1) 12 (I (m + 1) 12 - (nI 1))) (fun (I1 : ow_I) => M_dequeue_L34 m b 21 I1 i) else M_dequeue_L2 m b n I (i + 1)
def M_dequeue (m : Nat) (b : Nat) (I : ow_I) : ow_I :=
  M_dequeue_L2 m b 21 I 0
def M_closeBarrel (m : Nat) (I : ow_I) : ow_I :=
  if I (m + 1) 10 < 0 then lt (M_turnBack m (tn (I (m + 1) 8)) I) (fun (I1 : ow_I) => lt (ow_u I1 (m + 1) 8 ((-1))) (fun (I2 : ow_I) => lt (ow_u I2 (m + 1) 10 ((-1))) (fun (I3 : ow_I) => lt (ow_u I3 (m + 1) 9 (nI 0)) (fun (I4 : ow_I) => lt (ow_u I4 (m + 1) 11 (nI 0)) (fun (I5 : ow_I) => I5))))) else lt (M_sell m (tn (I (m + 1) 8)) (tn (I (m + 1) 10)) I) (fun (I6 : ow_I) => lt (ow_u I6 (m + 1) 8 ((-1))) (fun (I7 : ow_I) => lt (ow_u I7 (m + 1) 10 ((-1))) (fun (I8 : ow_I) => lt (ow_u I8 (m + 1) 9 (nI 0)) (fun (I9 : ow_I) => lt (ow_u I9 (m + 1) 11 (nI 0)) (fun (I10 : ow_I) => I10)))))
def M_openFirst (m : Nat) (I : ow_I) : ow_I :=
  if tn (I (m + 1) 12) = 0 then I else lt (M_dequeue m (tn (I (m + 1) 16)) I) (fun (I1 : ow_I) => lt (M_putBarrel m (tn (I (m + 1) 16)) 12 (nI 1) I1) (fun (I2 : ow_I) => lt (ow_u I2 (m + 1) 8 (nI (tn (I (m + 1) 16)))) (fun (I3 : ow_I) => lt (ow_u I3 (m + 1) 10 ((-1))) (fun (I4 : ow_I) => lt (ow_u I4 (m + 1) 9 (nI 0)) (fun (I5 : ow_I) => lt (ow_u I5 (m + 1) 11 (nI 0)) (fun (I6 : ow_I) => I6))))))
end
section
/-! pure rows of the reference: what its acts keep -/
theorem mdV_q {A : Nat → Int32} (hv : md_V A) (h8 : 0 ≤ A 8) : tn (A 12) < 20 := by
  have h2 := hv.2.2.1.2
  rw [md_V_eq] at hv
  have h1 := VV_qlt hv h8
  omega
theorem u_one {I : ow_I} {a k j : Nat} {x : Int32} : ow_u I a k x a j = if j = k then x else I a j := by
  by_cases h : j = k <;> simp [ow_u, h]
theorem V_row {m : Nat} {I : ow_I} (hv : md_V (I (m + 1))) {k : Nat} (x : Int32) (hk : k = 5 ∨ k = 11 ∨ k = 3) : md_V (ow_u I (m + 1) k x (m + 1)) := by
  rw [md_V_eq] at hv ⊢
  rw [ow_u_k _ _ _ _ (by omega), ow_u_k _ _ _ _ (by omega), ow_u_k _ _ _ _ (by omega), ow_u_k _ _ _ _ (by omega), ow_u_k _ _ _ _ (by omega), ow_u_k _ _ _ _ (by omega)]
  exact VV_congr hv (fun i _ => ow_u_k _ _ _ _ (by omega) _) (fun i _ => ow_u_k _ _ _ _ (by omega) _) (fun i _ => ow_u_k _ _ _ _ (by omega) _)
theorem V_close {m : Nat} {I : ow_I} (hv : md_V (I (m + 1))) (h8 : 0 ≤ I (m + 1) 8) : md_V (M_closeBarrel m I (m + 1)) := by
  have hb := mdV_8 hv h8
  have hq := mdV_q hv h8
  have h10 := mdV_10 hv
  rw [md_V_eq] at hv ⊢
  simp only [M_closeBarrel, lt_eq]
  split
  · simp only [M_turnBack, lt_eq]
    split
    · simp (disch := omega) only [lt_eq, u_one, M_putBarrel, if_neg, if_pos]
      refine VV_congr (VV_shut hv h8 (x := nI 3) (by decide) (fun k _ => rfl)) (fun i hi => ?_) (fun i hi => ?_) (fun i hi => ?_)
      · simp (disch := omega) only [if_neg]
      · by_cases c : i = tn (I (m + 1) 8)
        · simp (disch := omega) only [if_neg, if_pos c]
          simp [c]
        · simp (disch := omega) only [if_neg]
      · simp (disch := omega) only [if_neg]
    · simp (disch := omega) only [M_enqueue, lt_eq, u_one, M_putBarrel, if_neg, if_pos]
      refine VV_congr (VV_back hv h8 rfl (fun k _ => rfl) (fun k _ => rfl)) (fun i hi => ?_) (fun i hi => ?_) (fun i hi => ?_)
      · by_cases c : i = tn (I (m + 1) 12)
        · simp [c]
        · simp (disch := omega) only [if_neg]
      · by_cases c : i = tn (I (m + 1) 8)
        · simp [c, nI_0]
        · simp (disch := omega) only [if_neg]
      · simp (disch := omega) only [if_neg]
  · rename_i hl
    have hl := h10 (i_nlt hl)
    simp (disch := omega) only [M_sell, lt_eq, u_one, M_putBarrel, M_put, if_neg, if_pos]
    refine VV_congr (VV_shut hv h8 (x := nI 2) (by decide) (fun k _ => rfl)) (fun i hi => ?_) (fun i hi => ?_) (fun i hi => ?_)
    · simp (disch := omega) only [if_neg]
    · by_cases c : i = tn (I (m + 1) 8)
      · simp [c]
      · simp (disch := omega) only [if_neg]
    · simp (disch := omega) only [if_neg]
/-- the queue without the barrel at p -/
theorem dq34 {m b p : Nat} {A : Nat → Int32} : ∀ (n : Nat) (I : ow_I) (j : Nat), p ≤ j → tn (I (m + 1) 12) ≤ 20 → tn (I (m + 1) 12) - j < n →
   (∀ k, k < 16 + j → I (m + 1) k = if 16 + p ≤ k then A (k + 1) else A k) → (∀ k, 16 + j ≤ k → I (m + 1) k = A k) →
   ∀ k, M_dequeue_L34 m b n I j (m + 1) k = if 16 + p ≤ k ∧ k < 16 + max (tn (I (m + 1) 12)) j then A (k + 1) else A k := by
  intro n
  induction n with
  | zero => intro I j hp h20 h; omega
  | succ n ih =>
    intro I j hp h20 h h1 h2 k
    simp only [M_dequeue_L34, lt_eq]
    split
    · rename_i hj
      rcases Nat.lt_or_ge k (16 + j) with c | c
      · rw [h1 k c]
        by_cases d : 16 + p ≤ k
        · rw [if_pos d, if_pos (by omega)]
        · rw [if_neg d, if_neg (by omega)]
      · rw [h2 k c, if_neg (by omega)]
    · rename_i hj
      have e12 : ow_u I (m + 1) (16 + j) (I (m + 1) (16 + j + 1)) (m + 1) 12 = I (m + 1) 12 := ow_u_k _ _ _ _ (by omega) _
      rw [ih _ (j + 1) (by omega) (by rw [e12]; exact h20) (by rw [e12]; omega), e12, show max (tn (I (m + 1) 12)) (j + 1) = max (tn (I (m + 1) 12)) j by omega]
      · intro k hk
        rw [u_one]
        split
        · rename_i e
          rw [e, if_pos (by omega), h2 _ (by omega)]
        · exact h1 k (by omega)
      · intro k hk
        rw [u_one, if_neg (by omega)]
        exact h2 k (by omega)
theorem dq2 {m b p : Nat} : ∀ (n : Nat) (I : ow_I) (i : Nat), i ≤ p → p - i < n → 0 ≤ I (m + 1) 12 → tn (I (m + 1) 12) ≤ 20 → p < tn (I (m + 1) 12) → I (m + 1) (16 + p) = nI b → (∀ j, j < p → ¬ I (m + 1) (16 + j) = nI b) →
   ∀ k, M_dequeue_L2 m b n I i (m + 1) k = if k = 12 then nI (tn (I (m + 1) 12) - 1) else if 16 + p ≤ k ∧ k < 16 + (tn (I (m + 1) 12) - 1) then I (m + 1) (k + 1) else I (m + 1) k := by
  intro n
  induction n with
  | zero => intro I i h1 h2; omega
  | succ n ih =>
    intro I i h1 h2 h0 h20 hp hb hn k
    simp only [M_dequeue_L2, lt_eq]
    split
    · rename_i c
      have e : i = p := by
        rcases Nat.lt_or_ge i p with z | z
        · exact absurd c (hn i z)
        · omega
      subst e
      have e12 : I (m + 1) 12 - nI 1 = nI (tn (I (m + 1) 12) - 1) := by
        rw [← pk_sub (by omega), nI_tn h0]
      have r := @dq34 m b i (fun k => if k = 12 then nI (tn (I (m + 1) 12) - 1) else I (m + 1) k) 21 (ow_u I (m + 1) 12 (nI (tn (I (m + 1) 12) - 1))) i (Nat.le_refl _) (by rw [ow_u_s, tn_nI (by omega)]; omega) (by rw [ow_u_s, tn_nI (by omega)]; omega) (fun k hk => by rw [u_one, if_neg (show ¬ 16 + i ≤ k by omega)]) (fun k hk => by rw [u_one]) k
      rw [e12, r, ow_u_s, tn_nI (by omega), show max (tn (I (m + 1) 12) - 1) i = tn (I (m + 1) 12) - 1 by omega]
      by_cases d : 16 + i ≤ k ∧ k < 16 + (tn (I (m + 1) 12) - 1)
      · simp only [if_pos d]
        rw [if_neg (by omega), if_neg (by omega)]
      · simp only [if_neg d]
    · rename_i c
      have : i ≠ p := fun z => c (by rw [z]; exact hb)
      exact ih I (i + 1) (by omega) (by omega) h0 h20 hp hb hn k
/-- what a dequeuing leaves -/
theorem dq_cells {m b p : Nat} {I : ow_I} (h0 : 0 ≤ I (m + 1) 12) (h20 : tn (I (m + 1) 12) ≤ 20) (hp : p < tn (I (m + 1) 12)) (hb : I (m + 1) (16 + p) = nI b) (hn : ∀ j, j < p → ¬ I (m + 1) (16 + j) = nI b) (k : Nat) :
   M_dequeue m b I (m + 1) k = if k = 12 then nI (tn (I (m + 1) 12) - 1) else if 16 + p ≤ k ∧ k < 16 + (tn (I (m + 1) 12) - 1) then I (m + 1) (k + 1) else I (m + 1) k :=
  dq2 21 I 0 (by omega) (by omega) h0 h20 hp hb hn k
theorem V_openFirst {m : Nat} {I : ow_I} (hv : md_V (I (m + 1))) (h8 : ¬ 0 ≤ I (m + 1) 8) : md_V (M_openFirst m I (m + 1)) := by
  simp only [M_openFirst, lt_eq]
  split
  · exact hv
  · rename_i hne
    have h12 := hv.2.2.2.2.2.1
    have h0 := mdV_q0 hv (by omega)
    rw [md_V_eq] at hv ⊢
    have d := @dq_cells m (tn (I (m + 1) 16)) 0 I h12.1 h12.2 (by omega) (nI_tn h0.1).symm (fun j hj => by omega)
    simp (disch := omega) only [lt_eq, u_one, M_putBarrel, if_neg, ↓reduceIte, d]
    refine VV_congr (VV_deq hv (p := 0) (b := tn (I (m + 1) 16)) (by omega) (nI_tn h0.1).symm h0.2 (x := nI 1) (by decide) rfl (Q' := fun i => if 16 + 0 ≤ 16 + i ∧ 16 + i < 16 + (tn (I (m + 1) 12) - 1) then I (m + 1) (16 + i + 1) else I (m + 1) (16 + i)) (fun i hi => by rw [if_pos (by omega), if_neg (by omega)]; rfl) (fun k hk => rfl) (Or.inr ⟨rfl, rfl⟩)) (fun i hi => ?_) (fun i hi => ?_) (fun i hi => ?_)
    · simp (disch := omega) only [if_neg]
    · by_cases c : i = tn (I (m + 1) 16)
      · simp [c]
      · simp (disch := omega) only [if_neg]
    · simp (disch := omega) only [if_neg]
theorem M_thinker_rng {m : Nat} {I : ow_I} (hv : md_V (I (m + 1))) (h : 0 ≤ M_thinker m I) : tn (M_thinker m I) < tn (I (m + 1) 6) := by
  have key : ∀ (n i : Nat), 1 ≤ i → 0 ≤ M_thinker_L14 m n I i → tn (M_thinker_L14 m n I i) < tn (I (m + 1) 6) := by
    intro n
    induction n with
    | zero => intro i _ _; have := hv.2.1.2.1; simp only [M_thinker_L14]; show tn 0 < _; rw [show tn 0 = 0 from rfl]; omega
    | succ n ih =>
      intro i h1
      simp only [M_thinker_L14]
      split
      · intro h; exact absurd h i_m1
      · have t := md_th hv h1 (by omega)
        split
        · split
          · exact ih _ (by omega)
          · intro _
            rw [nI_tn t.1]
            exact t.2
        · exact ih _ (by omega)
  revert h
  unfold M_thinker
  split
  · exact key 8 1 (by omega)
  · intro h; exact absurd h i_m1
theorem V_nodNow {m b : Nat} {I : ow_I} (hv : md_V (I (m + 1))) (h8 : 0 ≤ I (m + 1) 8) (hb : b < tn (I (m + 1) 6)) : md_V ((M_nodNow m b I).2 (m + 1)) := by
  have h6 := hv.2.1.2.2
  rw [md_V_eq] at hv ⊢
  simp (disch := omega) only [M_nodNow, lt_eq, u_one, M_put, if_neg, if_pos]
  refine VV_congr (VV_lead hv h8 hb) (fun i hi => ?_) (fun i hi => ?_) (fun i hi => ?_)
  · simp (disch := omega) only [if_neg]
  · simp (disch := omega) only [if_neg]
  · simp (disch := omega) only [if_neg]
theorem i_lt0 {x : Int32} (h : ¬ x < 0) : 0 ≤ x := i_nlt h
end
section
def M_think (m : Nat) (I : ow_I) : ow_I :=
  if M_thinker m I < 0 then lt (ow_u I (m + 1) 11 (I (m + 1) 11 + (nI 1))) (fun (I1 : ow_I) => if I1 (m + 1) 11 < I1 (m + 1) 2 then I1 else lt (M_closeBarrel m I1) (fun (I2 : ow_I) => I2)) else lt (M_nodNow m (tn (M_thinker m I)) I) (fun (r3 : Int32 × ow_I) => r3.2)
def M_passOne (m : Nat) (I : ow_I) : ow_I :=
  lt (ow_u I (m + 1) 5 (I (m + 1) 5 + (nI 1))) (fun (I1 : ow_I) => if M_blowsIn m (I1 (m + 1) 5) I1 then if I1 (m + 1) 8 < 0 then if M_isOpenNow m I1 then if 0 ≤ I1 (m + 1) 8 then lt (M_think m I1) (fun (I4 : ow_I) => I4) else lt (M_openFirst m I1) (fun (I5 : ow_I) => I5) else I1 else lt (M_closeBarrel m I1) (fun (I6 : ow_I) => if M_isOpenNow m I6 then if 0 ≤ I6 (m + 1) 8 then lt (M_think m I6) (fun (I7 : ow_I) => I7) else lt (M_openFirst m I6) (fun (I8 : ow_I) => I8) else I6) else if M_isOpenNow m I1 then if 0 ≤ I1 (m + 1) 8 then lt (M_think m I1) (fun (I2 : ow_I) => I2) else lt (M_openFirst m I1) (fun (I3 : ow_I) => I3) else I1)
def M_countState_L4 (m : Nat) (w : Int32) : Nat → ow_I → Nat → Nat → Int32
  | 0, I, _, _ => default
  | n + 1, I, c, e => if tn (I (m + 1) 7) ≤ e then nI c else if M_ofBarrel m e 12 I = w then M_countState_L4 m w n I (c + 1) (e + 1) else M_countState_L4 m w n I c (e + 1)
def M_countState (m : Nat) (w : Int32) (I : ow_I) : Int32 :=
  M_countState_L4 m w 21 I 0 0
end
section
theorem V_think {m : Nat} {I : ow_I} (hv : md_V (I (m + 1))) (h8 : 0 ≤ I (m + 1) 8) : md_V (M_think m I (m + 1)) := by
  simp only [M_think, lt_eq]
  split
  · have hr := V_row hv (I (m + 1) 11 + nI 1) (Or.inr (Or.inl rfl))
    split
    · exact hr
    · exact V_close hr (by rw [ow_u_k _ _ _ _ (by decide)]; exact h8)
  · exact V_nodNow hv h8 (M_thinker_rng hv (i_nlt (by assumption)))
theorem V_passOne {m : Nat} {I : ow_I} (hv : md_V (I (m + 1))) : md_V (M_passOne m I (m + 1)) := by
  have key : ∀ J : ow_I, md_V (J (m + 1)) → md_V ((if M_isOpenNow m J then if 0 ≤ J (m + 1) 8 then M_think m J else M_openFirst m J else J) (m + 1)) := by
    intro J hJ
    split
    · split
      · exact V_think hJ (by assumption)
      · exact V_openFirst hJ (by assumption)
    · exact hJ
  simp only [M_passOne, lt_eq]
  have hr := V_row hv (I (m + 1) 5 + nI 1) (Or.inl rfl)
  split
  · split
    · exact key _ hr
    · exact key _ (V_close hr (i_nlt (by assumption)))
  · exact key _ hr
def M_passAll_L8 (m : Nat) (n2 : Nat) : Nat → ow_I → Int32 → Nat → Int32 × ow_I
  | 0, I, _, _ => (default, I)
  | n + 1, I, c, i => if n2 ≤ i then (M_countState m (nI 2) I - c, I) else lt (M_passOne m I) (fun (I1 : ow_I) => M_passAll_L8 m n2 n I1 c (i + 1))
def M_passAll (m : Nat) (n2 : Nat) (I : ow_I) : Int32 × ow_I :=
  M_passAll_L8 m n2 (n2 + 1) I (M_countState m (nI 2) I) 0
def M_atLeastOne (v : Int32) (I : ow_I) : Int32 :=
  if nI 1 ≤ v then v else nI 1
def M_isWaiting (m : Nat) (b : Nat) (I : ow_I) : Bool :=
  if M_ofBarrel m b 12 I = 0 then true else false
def M_canSplit (m : Nat) (b : Nat) (e : Nat) (I : ow_I) : Bool :=
  if M_isWaiting m b I then if M_ofBarrel m b 0 I ≤ nI e then false else if nI 20 ≤ I (m + 1) 7 then false else true else false
end
section
theorem rdAE0 {m b : Nat} {x : Int32} {I : ow_I} : M_ofBarrel m b 0 (M_addEel m b x I) = nI (tn (M_ofBarrel m b 0 I) + 1) := by
  simp [M_addEel, M_ofBarrel, M_putBarrel, lt_eq, ow_u]
theorem rdNB1 {m : Nat} {r : Int32} {I : ow_I} : (M_newBarrel m r I).1 = tn (I (m + 1) 7) := rfl
theorem rdNB0 {m : Nat} {r : Int32} {I : ow_I} (h : tn (I (m + 1) 12) < 20) : M_ofBarrel m (tn (I (m + 1) 7)) 0 (M_newBarrel m r I).2 = nI 0 := by
  simp (disch := omega) only [M_newBarrel, M_ofBarrel, M_enqueue, M_putBarrel, lt_eq, ow_u_k, ow_u_s]
def M_splitNow_L40 (m : Nat) (b : Nat) (e : Nat) : Nat → ow_I → Nat → Int32 → Int32 → Nat → Nat → Nat × ow_I
  | 0, I, _, _, _, _, _ => (default, I)
  | n + 1, I, n3, r4, s5, p6, j => if n3 ≤ j then lt (M_putBarrel m b 0 (nI (n3 - e)) I) (fun (I2 : ow_I) => lt (M_putBarrel m b 10 (M_atLeastOne (r4 - s5) I2) I2) (fun (I3 : ow_I) => (p6, I3))) else lt (M_addEel m p6 (M_lengthOf m b j I) I) (fun (I4 : ow_I) => M_splitNow_L40 m b e n I4 n3 r4 s5 p6 (j + 1))
def M_splitNow (m : Nat) (b : Nat) (e : Nat) (I : ow_I) : Nat × ow_I :=
  lt (M_newBarrel m (M_atLeastOne (((M_ofBarrel m b 10 I) * (nI e)) / (nI (tn (M_ofBarrel m b 0 I)))) I) I) (fun (r1 : Nat × ow_I) => M_splitNow_L40 m b e 10 r1.2 (tn (M_ofBarrel m b 0 I)) (M_ofBarrel m b 10 I) (((M_ofBarrel m b 10 I) * (nI e)) / (nI (tn (M_ofBarrel m b 0 I)))) r1.1 ((tn (M_ofBarrel m b 0 I)) - e))
def M_withdrawNow (m : Nat) (b : Nat) (I : ow_I) : Int32 × ow_I :=
  lt (M_dequeue m b I) (fun (I1 : ow_I) => lt (M_putBarrel m b 12 (nI 3) I1) (fun (I2 : ow_I) => (I2 (m + 1) 12, I2)))
def M_fundNow (m : Nat) (b : Nat) (x : Int32) (I : ow_I) : Int32 × ow_I :=
  if nI 99999 - (M_of m b 0 I) ≤ x then lt (M_put m b 0 (M_of m b 0 I + (nI 99999 - (M_of m b 0 I))) I) (fun (I1 : ow_I) => lt (ow_u I1 (m + 1) 15 (I1 (m + 1) 15 + (nI 99999 - (M_of m b 0 I)))) (fun (I2 : ow_I) => (M_of m b 0 I2, I2))) else lt (M_put m b 0 (M_of m b 0 I + x) I) (fun (I3 : ow_I) => lt (ow_u I3 (m + 1) 15 (I3 (m + 1) 15 + x)) (fun (I4 : ow_I) => (M_of m b 0 I4, I4)))
def M_keep (m : Nat) (b : Nat) (I : ow_I) : ow_I :=
  if tn (I m 2) = 8 then lt (ow_u I m 1 (nI ((tn (I m 1) + 1) % 8))) (fun (I3 : ow_I) => lt (M_copyBlock m b (1 + ((((tn (I m 1) + 1) % 8 + (tn (I m 2))) - 1) % 8)) I3) (fun (I4 : ow_I) => I4)) else lt (ow_u I m 2 (nI (tn (I m 2) + 1))) (fun (I1 : ow_I) => lt (M_copyBlock m b (1 + (((tn (I m 1) + (tn (I m 2) + 1)) - 1) % 8)) I1) (fun (I2 : ow_I) => I2))
end
section
theorem sh8 {c : Nat} (h : 1 ≤ c) : nI (8 * c) - 8 + Int32.ofInt (-8) = nI (8 * (c - 1)) - 8 := by
  obtain ⟨d, rfl⟩ : ∃ d, c = d + 1 := ⟨c - 1, by omega⟩
  rw [show 8 * (d + 1) = 8 * d + 8 by omega, ← nI_add, show nI 8 = (8 : Int32) from rfl, show d + 1 - 1 = d by omega, Int32.add_sub_cancel, Int32.sub_eq_add_neg]
  rfl
theorem sh8_c {c : Nat} {s : Int32} (hs : s = nI (8 * c) - 8) (h : ¬ s < 0) : 1 ≤ c := by
  rcases Nat.eq_zero_or_pos c with z | z
  · exact absurd (by rw [hs, z]; decide) h
  · exact z
def M_appendWord_L3 (m : Nat) (w : Int32) : Nat → ow_I → Int32 → ow_I
  | 0, I, _ => I
  | n + 1, I, s => if s < 0 then I else lt (ow_u I (m + 3) (tn (I m 5)) (((w >>> (s &&& 31)).toInt8.toInt32).toInt8.toInt32)) (fun (I1 : ow_I) => lt (ow_u I1 m 5 (I1 m 5 + (nI 1))) (fun (I2 : ow_I) => M_appendWord_L3 m w n I2 (s + Int32.ofInt (-8))))
def M_appendWord (m : Nat) (w : Int32) (I : ow_I) : ow_I :=
  M_appendWord_L3 m w 5 I (nI 24)
def M_byteAt (m : Nat) (i : Nat) (I : ow_I) : Int32 :=
  if tn (I m 5) ≤ i then (-1000) else I (m + 3) i
def M_isLetter (m : Nat) (i : Nat) (I : ow_I) : Bool :=
  M_in (M_byteAt m i I) (nI 97) (nI 122) I
def M_isDigit (m : Nat) (i : Nat) (I : ow_I) : Bool :=
  M_in (M_byteAt m i I) (nI 48) (nI 57) I
end
end
section
section
/-! the reference's texts: what its reading keeps -/
def md_T (m : Nat) (I : ow_I) : Prop := (0 ≤ I m 5 ∧ tn (I m 5) ≤ 500) ∧ (0 ≤ I m 8 ∧ tn (I m 8) ≤ tn (I m 5))
def md_W (m : Nat) (I : ow_I) : Prop := md_T m I ∧ 0 ≤ I m 10 ∧ tn (I m 10) ≤ tn (I m 8)
theorem byteAt_lt {m n : Nat} {I : ow_I} (h : ¬ M_byteAt m n I = -1000) : n < tn (I m 5) := by
  by_cases q : tn (I m 5) ≤ n
  · exact absurd (by simp [M_byteAt, q]) h
  · omega
theorem isLetter_lt {m n : Nat} {I : ow_I} (h : M_isLetter m n I = true) : n < tn (I m 5) := by
  by_cases q : tn (I m 5) ≤ n
  · have e : M_byteAt m n I = -1000 := by simp [M_byteAt, q]
    unfold M_isLetter at h
    rw [e] at h
    exact absurd h (by unfold M_in; decide)
  · omega
theorem isDigit_lt {m n : Nat} {I : ow_I} (h : M_isDigit m n I = true) : n < tn (I m 5) := by
  by_cases q : tn (I m 5) ≤ n
  · have e : M_byteAt m n I = -1000 := by simp [M_byteAt, q]
    unfold M_isDigit at h
    rw [e] at h
    exact absurd h (by unfold M_in; decide)
  · omega
theorem mdT_o {m : Nat} {I : ow_I} (ht : md_T m I) {k : Nat} (x : Int32) (h5 : k ≠ 5) (h8 : k ≠ 8) : md_T m (ow_u I m k x) := by
  unfold md_T
  rw [ow_u_k _ _ _ _ (Ne.symm h5), ow_u_k _ _ _ _ (Ne.symm h8)]
  exact ht
theorem mdT_n {m : Nat} {I : ow_I} (ht : md_T m I) (h : tn (I m 8) < tn (I m 5)) : md_T m (ow_u I m 8 (I m 8 + nI 1)) := by
  obtain ⟨h1, h2⟩ := ht
  unfold md_T
  rw [ow_u_k _ _ _ _ (by decide), ow_u_s, (tn_inc h2.1 (by omega)).2]
  exact ⟨h1, (tn_inc h2.1 (by omega)).1, by omega⟩
theorem mdT_a {m a k : Nat} {I : ow_I} (ht : md_T m I) (x : Int32) (h : m ≠ a) : md_T m (ow_u I a k x) := by
  unfold md_T
  rw [ow_u_a _ _ _ _ h, ow_u_a _ _ _ _ h]
  exact ht
end
section
def M_readNumber_L5 (m : Nat) : Nat → ow_I → ow_I
  | 0, I => I
  | n + 1, I => if M_isDigit m (tn (I m 8)) I then lt (ow_u I m 11 ((I m 11) * (nI 10) + (I (m + 3) (tn (I m 8))) - (nI 48))) (fun (I2 : ow_I) => if I2 m 11 ≤ nI 10000000 then lt (ow_u I2 m 8 (I2 m 8 + (nI 1))) (fun (I3 : ow_I) => M_readNumber_L5 m n I3 ) else lt (ow_u I2 m 11 (nI 10000000)) (fun (I4 : ow_I) => lt (ow_u I4 m 8 (I4 m 8 + (nI 1))) (fun (I5 : ow_I) => M_readNumber_L5 m n I5 ))) else I
def M_readNumber (m : Nat) (I : ow_I) : ow_I :=
  lt (ow_u I m 11 (nI 0)) (fun (I1 : ow_I) => M_readNumber_L5 m 501 I1 )
def M_readToken_L69 (m : Nat) : Nat → ow_I → ow_I
  | 0, I => I
  | n + 1, I => if M_isLetter m (tn (I m 8)) I then lt (ow_u I m 8 (I m 8 + (nI 1))) (fun (I9 : ow_I) => M_readToken_L69 m n I9 ) else I
def M_readToken_L0 (m : Nat) : Nat → ow_I → ow_I
  | 0, I => I
  | n + 1, I => if M_byteAt m (tn (I m 8)) I = nI 32 then lt (ow_u I m 8 (I m 8 + (nI 1))) (fun (I11 : ow_I) => M_readToken_L0 m n I11 ) else lt (ow_u I m 10 (I m 8)) (fun (I1 : ow_I) => if I1 m 8 = I1 m 5 then lt (ow_u I1 m 9 (nI 0)) (fun (I10 : ow_I) => I10) else if M_isLetter m (tn (I m 8)) I1 then lt (ow_u I1 m 9 (nI 1)) (fun (I8 : ow_I) => M_readToken_L69 m 501 I8 ) else if M_isDigit m (tn (I m 8)) I1 then lt (ow_u I1 m 9 (nI 2)) (fun (I6 : ow_I) => lt (M_readNumber m I6) (fun (I7 : ow_I) => I7)) else if M_byteAt m (tn (I m 8)) I1 = nI 59 then lt (ow_u I1 m 9 (nI 3)) (fun (I4 : ow_I) => lt (ow_u I4 m 8 (I4 m 8 + (nI 1))) (fun (I5 : ow_I) => I5)) else lt (ow_u I1 m 9 (nI 4)) (fun (I2 : ow_I) => lt (ow_u I2 m 8 (I2 m 8 + (nI 1))) (fun (I3 : ow_I) => I3)))
def M_readToken (m : Nat) (I : ow_I) : ow_I :=
  M_readToken_L0 m 501 I 
end
section
def M_isWordNumber_L20 (m : Nat) (w : Nat) : Nat → ow_I → Nat → Nat → Bool
  | 0, I, _, _ => default
  | n + 1, I, l, i => if 8 ≤ i then true else if l ≤ i then if I (m + 7) (8 * w + i) = nI 32 then M_isWordNumber_L20 m w n I l (i + 1) else false else if I (m + 3) (tn (I m 10) + i) = I (m + 7) (8 * w + i) then M_isWordNumber_L20 m w n I l (i + 1) else false
def M_isWordNumber (m : Nat) (w : Nat) (I : ow_I) : Bool :=
  if (tn (I m 8)) - (tn (I m 10)) ≤ 8 then M_isWordNumber_L20 m w 9 I ((tn (I m 8)) - (tn (I m 10))) 0 else false
def M_wordOf_L13 (m : Nat) : Nat → ow_I → Nat → Int32
  | 0, I, _ => default
  | n + 1, I, i => if 8 ≤ i then nI 8 else if M_isWordNumber m i I then nI i else M_wordOf_L13 m n I (i + 1)
def M_wordOf (m : Nat) (I : ow_I) : Int32 :=
  if I m 9 = nI 1 then M_wordOf_L13 m 9 I 0 else nI 8
def M_fails (m : Nat) (c : Int32) (I : ow_I) : Bool × ow_I :=
  lt (ow_u I m 6 c) (fun (I1 : ow_I) => lt (ow_u I1 m 7 (I1 m 10)) (fun (I2 : ow_I) => (true, I2)))
def M_beginText (m : Nat) (I : ow_I) : ow_I :=
  lt (ow_u I m 8 (nI 0)) (fun (I1 : ow_I) => lt (ow_u I1 m 6 (nI 0)) (fun (I2 : ow_I) => lt (ow_u I2 m 7 ((-1))) (fun (I3 : ow_I) => lt (ow_u I3 m 15 (nI 0)) (fun (I4 : ow_I) => lt (M_readToken m I4) (fun (I5 : ow_I) => I5)))))
end
section
/-! the reference's texts: what its reading leaves -/
theorem rr_rnL {m a : Nat} (h : a ≠ m) : ∀ (n : Nat) (I : ow_I), M_readNumber_L5 m n I a = I a := by
  intro n
  induction n with
  | zero => intro I; rfl
  | succ n ih =>
    intro I
    funext j
    simp only [M_readNumber_L5, lt_eq]
    (repeat' split) <;> simp [ih, ow_u_a, h]
theorem fr_rnL {m k : Nat} (h8 : k ≠ 8) (h11 : k ≠ 11) : ∀ (n : Nat) (I : ow_I), M_readNumber_L5 m n I m k = I m k := by
  intro n
  induction n with
  | zero => intro I; rfl
  | succ n ih =>
    intro I
    simp only [M_readNumber_L5, lt_eq]
    (repeat' split) <;> simp [ih, ow_u_k, h8, h11]
theorem rr_rt69 {m a : Nat} (h : a ≠ m) : ∀ (n : Nat) (I : ow_I), M_readToken_L69 m n I a = I a := by
  intro n
  induction n with
  | zero => intro I; rfl
  | succ n ih =>
    intro I
    funext j
    simp only [M_readToken_L69, lt_eq]
    (repeat' split) <;> simp [ih, ow_u_a, h]
theorem fr_rt69 {m k : Nat} (h8 : k ≠ 8) : ∀ (n : Nat) (I : ow_I), M_readToken_L69 m n I m k = I m k := by
  intro n
  induction n with
  | zero => intro I; rfl
  | succ n ih =>
    intro I
    simp only [M_readToken_L69, lt_eq]
    (repeat' split) <;> simp [ih, ow_u_k, h8]
theorem rr_rt0 {m a : Nat} (h : a ≠ m) : ∀ (n : Nat) (I : ow_I), M_readToken_L0 m n I a = I a := by
  intro n
  induction n with
  | zero => intro I; rfl
  | succ n ih =>
    intro I
    funext j
    simp only [M_readToken_L0, M_readNumber, lt_eq]
    (repeat' split) <;> simp [ih, ow_u_a, h, rr_rt69 h, rr_rnL h]
theorem fr_rt0 {m k : Nat} (h : k < 8 ∨ 11 < k) : ∀ (n : Nat) (I : ow_I), M_readToken_L0 m n I m k = I m k := by
  have h8 : k ≠ 8 := by omega
  have h9 : k ≠ 9 := by omega
  have h10 : k ≠ 10 := by omega
  have h11 : k ≠ 11 := by omega
  intro n
  induction n with
  | zero => intro I; rfl
  | succ n ih =>
    intro I
    simp only [M_readToken_L0, M_readNumber, lt_eq]
    (repeat' split) <;> simp [ih, ow_u_k, h8, h9, h10, h11, fr_rt69 h8, fr_rnL h8 h11]
theorem rr_readToken {m a : Nat} {I : ow_I} (h : a ≠ m) : M_readToken m I a = I a := rr_rt0 h _ _
theorem fr_readToken {m k : Nat} {I : ow_I} (h : k < 8 ∨ 11 < k) : M_readToken m I m k = I m k := fr_rt0 h _ _
theorem W_rnL {m : Nat} : ∀ (n : Nat) (I : ow_I), md_T m I → tn (I m 5) - tn (I m 8) < n → md_T m (M_readNumber_L5 m n I) ∧ tn (I m 8) ≤ tn (M_readNumber_L5 m n I m 8) := by
  intro n
  induction n with
  | zero => intro I ht hn; omega
  | succ n ih =>
    intro I ht hn
    have g1 := ht.1
    have g2 := ht.2
    simp only [M_readNumber_L5, lt_eq]
    split
    · rename_i hd
      have hlt := isDigit_lt hd
      have key : ∀ J : ow_I, md_T m J → J m 8 = I m 8 → J m 5 = I m 5 → md_T m (M_readNumber_L5 m n (ow_u J m 8 (J m 8 + nI 1))) ∧ tn (I m 8) ≤ tn (M_readNumber_L5 m n (ow_u J m 8 (J m 8 + nI 1)) m 8) := by
        intro J hJ e8 e5
        have hJ2 := mdT_n hJ (by rw [e8, e5]; exact hlt)
        have e1 : tn (ow_u J m 8 (J m 8 + nI 1) m 8) = tn (I m 8) + 1 := by rw [ow_u_s, e8]; exact (tn_inc g2.1 (by omega)).2
        have e2 : ow_u J m 8 (J m 8 + nI 1) m 5 = I m 5 := by rw [ow_u_k _ _ _ _ (by decide)]; exact e5
        have r := ih _ hJ2 (by rw [e1, e2]; omega)
        rw [e1] at r
        exact ⟨r.1, by omega⟩
      split
      · exact key _ (mdT_o ht _ (by decide) (by decide)) (by rw [ow_u_k _ _ _ _ (by decide)]) (by rw [ow_u_k _ _ _ _ (by decide)])
      · exact key _ (mdT_o (mdT_o ht _ (by decide) (by decide)) _ (by decide) (by decide)) (by rw [ow_u_k _ _ _ _ (by decide), ow_u_k _ _ _ _ (by decide)]) (by rw [ow_u_k _ _ _ _ (by decide), ow_u_k _ _ _ _ (by decide)])
    · exact ⟨ht, Nat.le_refl _⟩
theorem W_rt69 {m : Nat} : ∀ (n : Nat) (I : ow_I), md_T m I → tn (I m 5) - tn (I m 8) < n → md_T m (M_readToken_L69 m n I) ∧ tn (I m 8) ≤ tn (M_readToken_L69 m n I m 8) := by
  intro n
  induction n with
  | zero => intro I ht hn; omega
  | succ n ih =>
    intro I ht hn
    have g1 := ht.1
    have g2 := ht.2
    simp only [M_readToken_L69, lt_eq]
    split
    · rename_i hd
      have hlt := isLetter_lt hd
      have hJ2 := mdT_n ht hlt
      have e1 : tn (ow_u I m 8 (I m 8 + nI 1) m 8) = tn (I m 8) + 1 := by rw [ow_u_s]; exact (tn_inc g2.1 (by omega)).2
      have e2 : ow_u I m 8 (I m 8 + nI 1) m 5 = I m 5 := by rw [ow_u_k _ _ _ _ (by decide)]
      have r := ih _ hJ2 (by rw [e1, e2]; omega)
      rw [e1] at r
      exact ⟨r.1, by omega⟩
    · exact ⟨ht, Nat.le_refl _⟩
theorem readNumber_eq {m : Nat} {I : ow_I} : M_readNumber m I = M_readNumber_L5 m 501 (ow_u I m 11 (nI 0)) := by simp only [M_readNumber, lt_eq]
theorem fr10_rnL {m : Nat} (n : Nat) (I : ow_I) : M_readNumber_L5 m n I m 10 = I m 10 := fr_rnL (by decide) (by decide) n I
theorem fr10_69 {m : Nat} (n : Nat) (I : ow_I) : M_readToken_L69 m n I m 10 = I m 10 := fr_rt69 (by decide) n I
theorem W_rt0 {m : Nat} : ∀ (n : Nat) (I : ow_I), md_T m I → tn (I m 5) - tn (I m 8) < n → md_W m (M_readToken_L0 m n I) := by
  intro n
  induction n with
  | zero => intro I ht hn; omega
  | succ n ih =>
    intro I ht hn
    have g1 := ht.1
    have g2 := ht.2
    simp only [M_readToken_L0, lt_eq]
    have hA : ∀ (J : ow_I), md_T m J → J m 10 = I m 8 → J m 8 = I m 8 → md_W m J := fun J hJ e10 e8 => ⟨hJ, by rw [e10]; exact g2.1, by rw [e10, e8]; exact Nat.le_refl _⟩
    have hB : ∀ (J : ow_I), md_T m J → J m 10 = I m 8 → J m 8 = I m 8 → J m 5 = I m 5 → ¬ I m 8 = I m 5 → md_W m (ow_u J m 8 (J m 8 + nI 1)) := by
      intro J hJ e10 e8 e5 hne
      have hlt : tn (J m 8) < tn (J m 5) := by
        rw [e8, e5]
        rcases Nat.lt_or_ge (tn (I m 8)) (tn (I m 5)) with q | q
        · exact q
        · exact absurd (by rw [← nI_tn g2.1, ← nI_tn g1.1, show tn (I m 8) = tn (I m 5) by omega]) hne
      have h2 := mdT_n hJ hlt
      refine ⟨h2, ?_, ?_⟩
      · rw [ow_u_k _ _ _ _ (by decide), e10]; exact g2.1
      · rw [ow_u_k _ _ _ _ (by decide), e10, ow_u_s, e8, (tn_inc g2.1 (by omega)).2]; omega
    split
    · rename_i hd
      have hlt := byteAt_lt (m := m) (n := tn (I m 8)) (I := I) (by rw [hd]; decide)
      have hJ2 := mdT_n ht hlt
      have e1 : tn (ow_u I m 8 (I m 8 + nI 1) m 8) = tn (I m 8) + 1 := by rw [ow_u_s]; exact (tn_inc g2.1 (by omega)).2
      have e2 : ow_u I m 8 (I m 8 + nI 1) m 5 = I m 5 := by rw [ow_u_k _ _ _ _ (by decide)]
      exact ih _ hJ2 (by rw [e1, e2]; omega)
    · have hT1 : ∀ x : Int32, md_T m (ow_u (ow_u I m 10 (I m 8)) m 9 x) := fun x => mdT_o (mdT_o ht _ (by decide) (by decide)) _ (by decide) (by decide)
      have f10 : ∀ x : Int32, ow_u (ow_u I m 10 (I m 8)) m 9 x m 10 = I m 8 := fun x => by rw [ow_u_k _ _ _ _ (by decide), ow_u_s]
      have f8 : ∀ x : Int32, ow_u (ow_u I m 10 (I m 8)) m 9 x m 8 = I m 8 := fun x => by rw [ow_u_k _ _ _ _ (by decide), ow_u_k _ _ _ _ (by decide)]
      have f5 : ∀ x : Int32, ow_u (ow_u I m 10 (I m 8)) m 9 x m 5 = I m 5 := fun x => by rw [ow_u_k _ _ _ _ (by decide), ow_u_k _ _ _ _ (by decide)]
      split
      · exact hA _ (hT1 _) (f10 _) (f8 _)
      · rename_i hne
        have hne : ¬ I m 8 = I m 5 := by
          rw [ow_u_k _ _ _ _ (by decide), ow_u_k _ _ _ _ (by decide)] at hne
          exact hne
        split
        · have r := W_rt69 501 _ (hT1 (nI 1)) (by rw [f5, f8]; omega)
          refine ⟨r.1, ?_, ?_⟩
          · rw [fr10_69, f10]; exact g2.1
          · rw [fr10_69, f10]; have := r.2; rw [f8] at this; exact this
        · split
          · have hT2 : md_T m (ow_u (ow_u (ow_u I m 10 (I m 8)) m 9 (nI 2)) m 11 (nI 0)) := mdT_o (hT1 _) _ (by decide) (by decide)
            have e8 : ow_u (ow_u (ow_u I m 10 (I m 8)) m 9 (nI 2)) m 11 (nI 0) m 8 = I m 8 := by rw [ow_u_k _ _ _ _ (by decide), f8]
            have e5 : ow_u (ow_u (ow_u I m 10 (I m 8)) m 9 (nI 2)) m 11 (nI 0) m 5 = I m 5 := by rw [ow_u_k _ _ _ _ (by decide), f5]
            have e10 : ow_u (ow_u (ow_u I m 10 (I m 8)) m 9 (nI 2)) m 11 (nI 0) m 10 = I m 8 := by rw [ow_u_k _ _ _ _ (by decide), f10]
            have r := W_rnL 501 _ hT2 (by rw [e5, e8]; omega)
            rw [readNumber_eq]
            refine ⟨r.1, ?_, ?_⟩
            · rw [fr10_rnL, e10]; exact g2.1
            · rw [fr10_rnL, e10]; have := r.2; rw [e8] at this; exact this
          · split
            · exact hB _ (hT1 _) (f10 _) (f8 _) (f5 _) hne
            · exact hB _ (hT1 _) (f10 _) (f8 _) (f5 _) hne
theorem W_readToken {m : Nat} {I : ow_I} (ht : md_T m I) : md_W m (M_readToken m I) := W_rt0 501 I ht (by have := ht.1; omega)
theorem mdW_row {m : Nat} {I J : ow_I} (hw : md_W m I) (h : J m = I m) : md_W m J := by
  unfold md_W md_T at hw ⊢
  rw [h]
  exact hw
theorem mdT_row {m : Nat} {I J : ow_I} (hw : md_T m I) (h : J m = I m) : md_T m J := by
  unfold md_T at hw ⊢
  rw [h]
  exact hw
theorem mdW_o {m : Nat} {I : ow_I} (ht : md_W m I) {k : Nat} (x : Int32) (h5 : k ≠ 5) (h8 : k ≠ 8) (h10 : k ≠ 10) : md_W m (ow_u I m k x) := by
  refine ⟨mdT_o ht.1 x h5 h8, ?_, ?_⟩
  · rw [ow_u_k _ _ _ _ (Ne.symm h10)]; exact ht.2.1
  · rw [ow_u_k _ _ _ _ (Ne.symm h10), ow_u_k _ _ _ _ (Ne.symm h8)]; exact ht.2.2
theorem fr_fails {m k : Nat} {c : Int32} {I : ow_I} (h : k < 6 ∨ 7 < k) : (M_fails m c I).2 m k = I m k := by
  simp (disch := omega) only [M_fails, lt_eq, ow_u_k]
theorem rr_fails {m a : Nat} {c : Int32} {I : ow_I} (h : a ≠ m) : (M_fails m c I).2 a = I a := by
  funext j
  simp only [M_fails, lt_eq, ow_u_a _ _ _ _ h]
theorem W_fails {m : Nat} {c : Int32} {I : ow_I} (hw : md_W m I) : md_W m (M_fails m c I).2 := mdW_o (mdW_o hw _ (by decide) (by decide) (by decide)) _ (by decide) (by decide) (by decide)
end
section
def M_failsAtThis (m : Nat) (p : Nat) (lo : Int32) (hi : Int32) (I : ow_I) : Bool × ow_I :=
  if I m 9 = nI 2 then if M_in (I m 11) lo hi I then lt (ow_u I (m + 4) p (I m 11)) (fun (I1 : ow_I) => (false, I1)) else lt (M_fails m (nI 2) I) (fun (r2 : Bool × ow_I) => (r2.1, r2.2)) else lt (M_fails m (nI 1) I) (fun (r3 : Bool × ow_I) => (r3.1, r3.2))
def M_failsAtNumber (m : Nat) (p : Nat) (lo : Int32) (hi : Int32) (I : ow_I) : Bool × ow_I :=
  lt (M_readToken m I) (fun (I1 : ow_I) => lt (M_failsAtThis m p lo hi I1) (fun (r2 : Bool × ow_I) => (r2.1, r2.2)))
def M_failsAtEnd (m : Nat) (I : ow_I) : Bool × ow_I :=
  if I m 9 = nI 3 then lt (M_readToken m I) (fun (I1 : ow_I) => (false, I1)) else lt (M_fails m (nI 1) I) (fun (r2 : Bool × ow_I) => (r2.1, r2.2))
def M_failsAtNext (m : Nat) (I : ow_I) : Bool × ow_I :=
  lt (M_readToken m I) (fun (I1 : ow_I) => lt (M_failsAtEnd m I1) (fun (r2 : Bool × ow_I) => (r2.1, r2.2)))
def M_beginMarket_L3 (m : Nat) (a0 : Int32) (a1 : Int32) (a2 : Int32) (a3 : Int32) (a4 : Int32) : Nat → ow_I → Nat → ow_I
  | 0, I, _ => I
  | n + 1, I, i => if 370 ≤ i then lt (ow_u I (m + 1) 0 a0) (fun (I1 : ow_I) => lt (ow_u I1 (m + 1) 1 a1) (fun (I2 : ow_I) => lt (ow_u I2 (m + 1) 2 a2) (fun (I3 : ow_I) => lt (ow_u I3 (m + 1) 3 a3) (fun (I4 : ow_I) => lt (ow_u I4 (m + 1) 4 a4) (fun (I5 : ow_I) => lt (ow_u I5 (m + 1) 8 ((-1))) (fun (I6 : ow_I) => lt (ow_u I6 (m + 1) 10 ((-1))) (fun (I7 : ow_I) => I7))))))) else lt (ow_u I (m + 1) i (nI 0)) (fun (I8 : ow_I) => M_beginMarket_L3 m a0 a1 a2 a3 a4 n I8 (i + 1))
def M_beginMarket (m : Nat) (a0 : Int32) (a1 : Int32) (a2 : Int32) (a3 : Int32) (a4 : Int32) (I : ow_I) : ow_I :=
  M_beginMarket_L3 m a0 a1 a2 a3 a4 371 I 0
end
section
theorem fr_this {m p k : Nat} {lo hi : Int32} {I : ow_I} (h : k < 6 ∨ 7 < k) : (M_failsAtThis m p lo hi I).2 m k = I m k := by
  simp only [M_failsAtThis, lt_eq]
  (repeat' split) <;> simp (disch := omega) only [fr_fails, ow_u_a]
theorem rr_this {m p a : Nat} {lo hi : Int32} {I : ow_I} (h : a ≠ m) (h4 : a ≠ m + 4) : (M_failsAtThis m p lo hi I).2 a = I a := by
  funext j
  simp only [M_failsAtThis, lt_eq]
  (repeat' split) <;> simp (disch := omega) only [rr_fails, ow_u_a]
theorem W_this {m p : Nat} {lo hi : Int32} {I : ow_I} (hw : md_W m I) : md_W m (M_failsAtThis m p lo hi I).2 := by
  simp only [M_failsAtThis, lt_eq]
  (repeat' split)
  · exact mdW_row hw (by funext j; exact ow_u_a _ _ _ _ (by omega) j)
  · exact W_fails hw
  · exact W_fails hw
theorem fr_num {m p k : Nat} {lo hi : Int32} {I : ow_I} (h : k < 6 ∨ 11 < k) : (M_failsAtNumber m p lo hi I).2 m k = I m k := by
  simp (disch := omega) only [M_failsAtNumber, lt_eq, fr_this, fr_readToken]
theorem rr_num {m p a : Nat} {lo hi : Int32} {I : ow_I} (h : a ≠ m) (h4 : a ≠ m + 4) : (M_failsAtNumber m p lo hi I).2 a = I a := by
  simp only [M_failsAtNumber, lt_eq, rr_this h h4, rr_readToken h]
theorem W_num {m p : Nat} {lo hi : Int32} {I : ow_I} (ht : md_T m I) : md_W m (M_failsAtNumber m p lo hi I).2 := W_this (W_readToken ht)
theorem fr_end {m k : Nat} {I : ow_I} (h : k < 6 ∨ 11 < k) : (M_failsAtEnd m I).2 m k = I m k := by
  simp only [M_failsAtEnd, lt_eq]
  (repeat' split) <;> simp (disch := omega) only [fr_fails, fr_readToken]
theorem rr_end {m a : Nat} {I : ow_I} (h : a ≠ m) : (M_failsAtEnd m I).2 a = I a := by
  simp only [M_failsAtEnd, lt_eq]
  (repeat' split) <;> simp only [rr_fails h, rr_readToken h]
theorem W_end {m : Nat} {I : ow_I} (hw : md_W m I) : md_W m (M_failsAtEnd m I).2 := by
  simp only [M_failsAtEnd, lt_eq]
  (repeat' split)
  · exact W_readToken hw.1
  · exact W_fails hw
theorem fr_next {m k : Nat} {I : ow_I} (h : k < 6 ∨ 11 < k) : (M_failsAtNext m I).2 m k = I m k := by
  simp (disch := omega) only [M_failsAtNext, lt_eq, fr_end, fr_readToken]
theorem rr_next {m a : Nat} {I : ow_I} (h : a ≠ m) : (M_failsAtNext m I).2 a = I a := by
  simp only [M_failsAtNext, lt_eq, rr_end h, rr_readToken h]
theorem W_next {m : Nat} {I : ow_I} (ht : md_T m I) : md_W m (M_failsAtNext m I).2 := W_end (W_readToken ht)
theorem rr_bmL {m a : Nat} {a0 a1 a2 a3 a4 : Int32} (h : a ≠ m + 1) : ∀ (n : Nat) (I : ow_I) (i : Nat), M_beginMarket_L3 m a0 a1 a2 a3 a4 n I i a = I a := by
  intro n
  induction n with
  | zero => intro I i; rfl
  | succ n ih =>
    intro I i
    funext j
    simp only [M_beginMarket_L3, lt_eq]
    (repeat' split) <;> simp [ih, ow_u_a, h]
theorem rr_begin {m a : Nat} {a0 a1 a2 a3 a4 : Int32} {I : ow_I} (h : a ≠ m + 1) : M_beginMarket m a0 a1 a2 a3 a4 I a = I a := rr_bmL h _ _ _
theorem rr_put {m b w a : Nat} {x : Int32} {I : ow_I} (h : a ≠ m + 1) : M_put m b w x I a = I a := by
  funext j; exact ow_u_a _ _ _ _ h j
theorem rr_putB {m b w a : Nat} {x : Int32} {I : ow_I} (h : a ≠ m + 1) : M_putBarrel m b w x I a = I a := by
  funext j; exact ow_u_a _ _ _ _ h j
theorem rr_u {f : ow_I} {a b k : Nat} {x : Int32} (h : a ≠ b) : ow_u f b k x a = f a := by
  funext j; exact ow_u_a _ _ _ _ h j
theorem rr_addBuyer {m a : Nat} {p s f : Int32} {I : ow_I} (h : a ≠ m + 1) : M_addBuyer m p s f I a = I a := by
  simp only [M_addBuyer, lt_eq, rr_u h, rr_put h]
theorem rr_enqueue {m b a : Nat} {I : ow_I} (h : a ≠ m + 1) : M_enqueue m b I a = I a := by
  simp only [M_enqueue, lt_eq, rr_u h, rr_putB h]
theorem rr_newBarrel {m a : Nat} {r : Int32} {I : ow_I} (h : a ≠ m + 1) : (M_newBarrel m r I).2 a = I a := by
  simp only [M_newBarrel, lt_eq, rr_u h, rr_putB h, rr_enqueue h]
theorem rr_addEel {m b a : Nat} {x : Int32} {I : ow_I} (h : a ≠ m + 1) : M_addEel m b x I a = I a := by
  simp only [M_addEel, lt_eq, rr_putB h]
end
section
def M_failsAtMarket (m : Nat) (I : ow_I) : Bool × ow_I :=
  if M_wordOf m I = 0 then lt (M_failsAtNumber m 0 (nI 5) (nI 60) I) (fun (r1 : Bool × ow_I) => if r1.1 then (true, r1.2) else lt (M_failsAtNumber m 1 (nI 1) (r1.2 (m + 4) 0) r1.2) (fun (r2 : Bool × ow_I) => if r2.1 then (true, r2.2) else lt (M_failsAtNumber m 2 (nI 1) (nI 9) r2.2) (fun (r3 : Bool × ow_I) => if r3.1 then (true, r3.2) else lt (M_failsAtNumber m 3 (nI 1) (nI 50) r3.2) (fun (r4 : Bool × ow_I) => if r4.1 then (true, r4.2) else lt (M_failsAtNumber m 4 (nI 0) (nI 50) r4.2) (fun (r5 : Bool × ow_I) => if r5.1 then (true, r5.2) else lt (M_beginMarket m (r5.2 (m + 4) 0) (r5.2 (m + 4) 1) (r5.2 (m + 4) 2) (r5.2 (m + 4) 3) (r5.2 (m + 4) 4) r5.2) (fun (I6 : ow_I) => lt (M_failsAtNext m I6) (fun (r7 : Bool × ow_I) => (r7.1, r7.2)))))))) else lt (M_fails m (nI 1) I) (fun (r8 : Bool × ow_I) => (r8.1, r8.2))
def M_failsAtBuyer (m : Nat) (I : ow_I) : Bool × ow_I :=
  if M_wordOf m I = nI 1 then if I (m + 1) 6 = nI 6 then lt (M_fails m (nI 3) I) (fun (r6 : Bool × ow_I) => (r6.1, r6.2)) else lt (M_failsAtNumber m 0 (nI 0) (nI 9999) I) (fun (r1 : Bool × ow_I) => if r1.1 then (true, r1.2) else lt (M_failsAtNumber m 1 (nI 0) (nI 4) r1.2) (fun (r2 : Bool × ow_I) => if r2.1 then (true, r2.2) else lt (M_failsAtNumber m 2 (nI 1) (nI 999) r2.2) (fun (r3 : Bool × ow_I) => if r3.1 then (true, r3.2) else lt (M_addBuyer m (r3.2 (m + 4) 0) (r3.2 (m + 4) 1) (r3.2 (m + 4) 2) r3.2) (fun (I4 : ow_I) => lt (M_failsAtNext m I4) (fun (r5 : Bool × ow_I) => (r5.1, r5.2)))))) else lt (M_fails m (nI 1) I) (fun (r7 : Bool × ow_I) => (r7.1, r7.2))
def M_failsAtBarrel_L23 (m : Nat) : Nat → ow_I → Bool × ow_I
  | 0, I => (default, I)
  | n + 1, I => if tn (I m 13) = 1 then lt (M_failsAtThis m (tn (I m 13)) (nI 10) (nI 150) I) (fun (r4 : Bool × ow_I) => if r4.1 then (true, r4.2) else if tn (I m 13) ≤ 9 then lt (ow_u r4.2 m 13 (r4.2 m 13 + (nI 1))) (fun (I5 : ow_I) => lt (M_readToken m I5) (fun (I6 : ow_I) => M_failsAtBarrel_L23 m n I6 )) else lt (M_fails m (nI 3) r4.2) (fun (r7 : Bool × ow_I) => (r7.1, r7.2))) else if I m 9 = nI 2 then lt (M_failsAtThis m (tn (I m 13)) (nI 10) (nI 150) I) (fun (r8 : Bool × ow_I) => if r8.1 then (true, r8.2) else if tn (I m 13) ≤ 9 then lt (ow_u r8.2 m 13 (r8.2 m 13 + (nI 1))) (fun (I9 : ow_I) => lt (M_readToken m I9) (fun (I10 : ow_I) => M_failsAtBarrel_L23 m n I10 )) else lt (M_fails m (nI 3) r8.2) (fun (r11 : Bool × ow_I) => (r11.1, r11.2))) else (false, I)
def M_failsAtBarrel (m : Nat) (I : ow_I) : Bool × ow_I :=
  lt (M_failsAtNumber m 0 (nI 1) (nI 999) I) (fun (r1 : Bool × ow_I) => if r1.1 then (true, r1.2) else lt (ow_u r1.2 m 13 (nI 1)) (fun (I2 : ow_I) => lt (M_readToken m I2) (fun (I3 : ow_I) => M_failsAtBarrel_L23 m 11 I3 )))
end
section
/-! the reference's texts: markets, buyers, barrels -/
theorem tf_abs {x : ow_I} {P : Prop} (h : ((true, x) : Bool × ow_I).1 = false) : P := Bool.noConfusion h
theorem tf2 {P : Prop} (h : true = false) : P := Bool.noConfusion h
theorem md_WT {m : Nat} {I : ow_I} (h : md_W m I) : md_T m I := h.1
theorem th_rng {m p : Nat} {lo hi : Int32} {I : ow_I} (h : (M_failsAtThis m p lo hi I).1 = false) : lo ≤ (M_failsAtThis m p lo hi I).2 (m + 4) p ∧ (M_failsAtThis m p lo hi I).2 (m + 4) p ≤ hi := by
  revert h
  simp only [M_failsAtThis, lt_eq]
  split
  · split
    · rename_i h2
      intro _
      simp only [ow_u_s]
      unfold M_in at h2
      split at h2
      · exact absurd h2 (by decide)
      · split at h2
        · exact absurd h2 (by decide)
        · exact ⟨i_nlt (by assumption), i_nlt (by assumption)⟩
    · intro h; exact absurd h (by simp [M_fails, lt_eq])
  · intro h; exact absurd h (by simp [M_fails, lt_eq])
theorem th_oth {m p q : Nat} {lo hi : Int32} {I : ow_I} (h : q ≠ p) : (M_failsAtThis m p lo hi I).2 (m + 4) q = I (m + 4) q := by
  simp only [M_failsAtThis, M_fails, lt_eq]
  (repeat' split) <;> simp (disch := omega) only [ow_u_k, ow_u_a]
theorem nu_rng {m p : Nat} {lo hi : Int32} {I : ow_I} (h : (M_failsAtNumber m p lo hi I).1 = false) : lo ≤ (M_failsAtNumber m p lo hi I).2 (m + 4) p ∧ (M_failsAtNumber m p lo hi I).2 (m + 4) p ≤ hi := by
  simp only [M_failsAtNumber, lt_eq] at h ⊢
  exact th_rng h
theorem nu_oth {m p q : Nat} {lo hi : Int32} {I : ow_I} (h : q ≠ p) : (M_failsAtNumber m p lo hi I).2 (m + 4) q = I (m + 4) q := by
  simp only [M_failsAtNumber, lt_eq, th_oth h, rr_readToken (show m + 4 ≠ m by omega)]
theorem rr_mkt {m a : Nat} {I : ow_I} (h : a ≠ m) (h1 : a ≠ m + 1) (h4 : a ≠ m + 4) : (M_failsAtMarket m I).2 a = I a := by
  simp only [M_failsAtMarket, lt_eq]
  (repeat' split) <;> simp only [rr_num h h4, rr_next h, rr_begin h1, rr_fails h]
theorem fr_mkt {m k : Nat} {I : ow_I} (h : k < 6 ∨ 11 < k) : (M_failsAtMarket m I).2 m k = I m k := by
  simp only [M_failsAtMarket, lt_eq]
  (repeat' split) <;> simp (disch := omega) only [fr_num, fr_next, rr_begin, fr_fails]
theorem W_mkt {m : Nat} {I : ow_I} (hw : md_W m I) : md_W m (M_failsAtMarket m I).2 := by
  simp only [M_failsAtMarket, lt_eq]
  (repeat' split) <;> (repeat (with_reducible first | exact hw | refine W_fails ?_ | refine W_num ?_ | refine W_next ?_ | refine mdT_row ?_ (rr_begin (by omega)) | refine md_WT ?_))
theorem rr_byr {m a : Nat} {I : ow_I} (h : a ≠ m) (h1 : a ≠ m + 1) (h4 : a ≠ m + 4) : (M_failsAtBuyer m I).2 a = I a := by
  simp only [M_failsAtBuyer, lt_eq]
  (repeat' split) <;> simp only [rr_num h h4, rr_next h, rr_addBuyer h1, rr_fails h]
theorem fr_byr {m k : Nat} {I : ow_I} (h : k < 6 ∨ 11 < k) : (M_failsAtBuyer m I).2 m k = I m k := by
  simp only [M_failsAtBuyer, lt_eq]
  (repeat' split) <;> simp (disch := omega) only [fr_num, fr_next, rr_addBuyer, fr_fails]
theorem W_byr {m : Nat} {I : ow_I} (hw : md_W m I) : md_W m (M_failsAtBuyer m I).2 := by
  simp only [M_failsAtBuyer, lt_eq]
  (repeat' split) <;> (repeat (with_reducible first | exact hw | refine W_fails ?_ | refine W_num ?_ | refine W_next ?_ | refine mdT_row ?_ (rr_addBuyer (by omega)) | refine md_WT ?_))
theorem rr_brL {m a : Nat} (h : a ≠ m) (h4 : a ≠ m + 4) : ∀ (n : Nat) (I : ow_I), (M_failsAtBarrel_L23 m n I).2 a = I a := by
  intro n
  induction n with
  | zero => intro I; rfl
  | succ n ih =>
    intro I
    simp only [M_failsAtBarrel_L23, lt_eq]
    (repeat' split) <;> simp only [ih, rr_readToken h, rr_u h, rr_this h h4, rr_fails h]
theorem fr_brL {m k : Nat} (h : k < 6 ∨ k = 12 ∨ 13 < k) : ∀ (n : Nat) (I : ow_I), (M_failsAtBarrel_L23 m n I).2 m k = I m k := by
  intro n
  induction n with
  | zero => intro I; rfl
  | succ n ih =>
    intro I
    simp only [M_failsAtBarrel_L23, lt_eq]
    (repeat' split) <;> simp (disch := omega) only [ih, fr_readToken, ow_u_k, fr_this, fr_fails]
theorem W_brL {m : Nat} : ∀ (n : Nat) (I : ow_I), md_W m I → md_W m (M_failsAtBarrel_L23 m n I).2 := by
  intro n
  induction n with
  | zero => intro I hw; exact hw
  | succ n ih =>
    intro I hw
    have g := @W_readToken m
    simp only [M_failsAtBarrel_L23, lt_eq]
    (repeat' split) <;> (repeat (with_reducible first | exact hw | refine ih _ ?_ | refine W_readToken ?_ | refine mdT_o ?_ _ (by decide) (by decide) | refine W_this ?_ | refine W_fails ?_ | refine md_WT ?_))
theorem N13_brL {m : Nat} : ∀ (n : Nat) (I : ow_I), 0 ≤ I m 13 → 1 ≤ tn (I m 13) → tn (I m 13) ≤ 10 → 0 ≤ (M_failsAtBarrel_L23 m n I).2 m 13 ∧ 1 ≤ tn ((M_failsAtBarrel_L23 m n I).2 m 13) ∧ tn ((M_failsAtBarrel_L23 m n I).2 m 13) ≤ 10 := by
  intro n
  induction n with
  | zero => intro I h0 h1 h2; exact ⟨h0, h1, h2⟩
  | succ n ih =>
    intro I h0 h1 h2
    have key : ∀ J : ow_I, J m 13 = I m 13 → tn (I m 13) ≤ 9 → 0 ≤ (M_failsAtBarrel_L23 m n (M_readToken m (ow_u J m 13 (J m 13 + nI 1)))).2 m 13 ∧ 1 ≤ tn ((M_failsAtBarrel_L23 m n (M_readToken m (ow_u J m 13 (J m 13 + nI 1)))).2 m 13) ∧ tn ((M_failsAtBarrel_L23 m n (M_readToken m (ow_u J m 13 (J m 13 + nI 1)))).2 m 13) ≤ 10 := by
      intro J hJ h9
      have e : (M_readToken m (ow_u J m 13 (J m 13 + nI 1))) m 13 = I m 13 + nI 1 := by
        rw [fr_readToken (by omega), ow_u_s, hJ]
      have t := tn_inc h0 (by omega)
      exact ih _ (by rw [e]; exact t.1) (by rw [e, t.2]; omega) (by rw [e, t.2]; omega)
    have f : ∀ p lo hi, (M_failsAtThis m p lo hi I).2 m 13 = I m 13 := fun p lo hi => fr_this (by omega)
    simp only [M_failsAtBarrel_L23, lt_eq]
    (repeat' split)
    · simp only [f]; exact ⟨h0, h1, h2⟩
    · exact key _ (f _ _ _) (by assumption)
    · simp (disch := omega) only [fr_fails, f]; exact ⟨h0, h1, h2⟩
    · simp only [f]; exact ⟨h0, h1, h2⟩
    · exact key _ (f _ _ _) (by assumption)
    · simp (disch := omega) only [fr_fails, f]; exact ⟨h0, h1, h2⟩
    · exact ⟨h0, h1, h2⟩
theorem rr_brl {m a : Nat} {I : ow_I} (h : a ≠ m) (h4 : a ≠ m + 4) : (M_failsAtBarrel m I).2 a = I a := by
  simp only [M_failsAtBarrel, lt_eq]
  (repeat' split) <;> simp only [rr_brL h h4, rr_num h h4, rr_readToken h, rr_u h]
theorem fr_brl {m k : Nat} {I : ow_I} (h : k < 6 ∨ k = 12 ∨ 13 < k) : (M_failsAtBarrel m I).2 m k = I m k := by
  simp only [M_failsAtBarrel, lt_eq]
  (repeat' split) <;> simp (disch := omega) only [fr_brL, fr_num, fr_readToken, ow_u_k]
theorem W_brl {m : Nat} {I : ow_I} (ht : md_T m I) : md_W m (M_failsAtBarrel m I).2 := by
  simp only [M_failsAtBarrel, lt_eq]
  (repeat' split) <;> (repeat (with_reducible first | exact ht | refine W_brL _ _ ?_ | refine W_num ?_ | refine W_readToken ?_ | refine mdT_o ?_ _ (by decide) (by decide) | refine md_WT ?_))
theorem N13_brl {m : Nat} {I : ow_I} (h : (M_failsAtBarrel m I).1 = false) : 0 ≤ (M_failsAtBarrel m I).2 m 13 ∧ 1 ≤ tn ((M_failsAtBarrel m I).2 m 13) ∧ tn ((M_failsAtBarrel m I).2 m 13) ≤ 10 := by
  revert h
  simp only [M_failsAtBarrel, lt_eq]
  (repeat' split)
  · intro h; exact tf_abs h
  · intro h
    have e : ∀ J : ow_I, (M_readToken m (ow_u J m 13 (nI 1))) m 13 = nI 1 := fun J => by rw [fr_readToken (by omega), ow_u_s]
    exact N13_brL _ _ (by rw [e]; decide) (by rw [e]; decide) (by rw [e]; decide)
theorem rr_tx {m a : Nat} {I : ow_I} (h : a ≠ m) : M_beginText m I a = I a := by
  simp only [M_beginText, lt_eq, rr_readToken h, rr_u h]
theorem fr_tx {m k : Nat} {I : ow_I} (h : k < 6 ∨ (11 < k ∧ k ≠ 15)) : M_beginText m I m k = I m k := by
  simp (disch := omega) only [M_beginText, lt_eq, fr_readToken, ow_u_k]
theorem fr_tx15 {m : Nat} {I : ow_I} : M_beginText m I m 15 = nI 0 := by
  simp (disch := omega) only [M_beginText, lt_eq, fr_readToken, ow_u_s]
theorem W_tx {m : Nat} {I : ow_I} (hl : 0 ≤ I m 5) (hlb : tn (I m 5) ≤ 500) : md_W m (M_beginText m I) := by
  simp only [M_beginText, lt_eq]
  refine W_readToken ?_
  unfold md_T
  simp (disch := omega) only [ow_u_k, ow_u_s]
  exact ⟨⟨hl, hlb⟩, nI_ge0 (by decide), by rw [tn_nI (by decide)]; omega⟩
def md_B (A : Nat → Int32) : Prop := ¬ A 0 = 0 ∧ (0 ≤ A 6 ∧ tn (A 6) ≤ 6) ∧ (0 ≤ A 7 ∧ tn (A 7) ≤ 20) ∧ A 8 = -1 ∧ A 10 = -1 ∧ A 12 = A 7 ∧ ∀ i, i < tn (A 7) → A (16 + i) = nI i ∧ A (66 + 15 * i + 12) = 0 ∧ 0 ≤ A (66 + 15 * i) ∧ 1 ≤ tn (A (66 + 15 * i)) ∧ tn (A (66 + 15 * i)) ≤ 9
theorem tn_ne {x : Int32} {n : Nat} (h0 : 0 ≤ x) (h : ¬ x = nI n) : tn x ≠ n := fun z => h (by rw [← z]; exact (nI_tn h0).symm)
theorem B_lt {A : Nat → Int32} (hB : md_B A) (h : ¬ A 7 = nI 20) : tn (A 7) < 20 := by
  have := tn_ne hB.2.2.1.1 h
  have := hB.2.2.1.2
  omega
theorem B_V {A : Nat → Int32} (hB : md_B A) (h6 : 1 ≤ tn (A 6)) : md_V A := by
  obtain ⟨h0, h1, h2, h3, h4, h5, hq⟩ := hB
  refine ⟨h0, ⟨h1.1, h6, h1.2⟩, h2, Or.inl h3, Or.inl h4, by rw [h5]; exact h2, ?_, ?_, ?_, ?_⟩
  · intro i hi
    rw [h5] at hi
    have q := hq i hi
    rw [q.1, tn_nI (by omega)]
    exact ⟨nI_ge0 (by omega), hi, q.2.1⟩
  · intro i j hi hj e
    rw [h5] at hi hj
    rw [(hq i hi).1, (hq j hj).1] at e
    exact (nI_eq (by omega) (by omega)).1 e
  · intro k hk hs
    exact ⟨k, by rw [h5]; exact hk, (hq k hk).1⟩
  · intro k hk
    exact (hq k hk).2.2
theorem bm_cells {m : Nat} {a0 a1 a2 a3 a4 : Int32} {I : ow_I} {k : Nat} : M_beginMarket m a0 a1 a2 a3 a4 I (m + 1) k = if k = 10 then -1 else if k = 8 then -1 else if k = 4 then a4 else if k = 3 then a3 else if k = 2 then a2 else if k = 1 then a1 else if k = 0 then a0 else if k < 370 then 0 else I (m + 1) k := by
  have key : ∀ (n : Nat) (I : ow_I) (i : Nat), 370 - i < n → i ≤ 370 → (∀ j, j < i → I (m + 1) j = 0) → M_beginMarket_L3 m a0 a1 a2 a3 a4 n I i (m + 1) k = if k = 10 then -1 else if k = 8 then -1 else if k = 4 then a4 else if k = 3 then a3 else if k = 2 then a2 else if k = 1 then a1 else if k = 0 then a0 else if k < 370 then 0 else I (m + 1) k := by
    intro n
    induction n with
    | zero => intro I i h; omega
    | succ n ih =>
      intro I i h h2 h3
      simp only [M_beginMarket_L3, lt_eq]
      split
      · have e : i = 370 := by omega
        subst e
        simp only [ow_u, true_and]
        have e : nI 0 = (0 : Int32) := by decide
        by_cases hk : k < 370
        · simp [h3 k hk, hk]
        · simp [hk]
      · rw [ih _ _ (by omega) (by omega)]
        · have e : ∀ x, ow_u I (m + 1) i x (m + 1) k = if k = i then x else I (m + 1) k := fun x => by by_cases hh : k = i <;> simp [ow_u, hh]
          by_cases hk : k < 370
          · simp [hk]
          · have : k ≠ i := by omega
            simp [hk, ow_u, this]
        · intro j hj
          by_cases hh : j = i
          · subst hh; rw [ow_u_s]; decide
          · rw [ow_u_k _ _ _ _ hh]; exact h3 j (by omega)
  exact key 371 I 0 (by omega) (by omega) (fun j hj => by omega)
theorem B_bm {m : Nat} {a0 a1 a2 a3 a4 : Int32} {I : ow_I} (h : ¬ a0 = 0) : md_B (M_beginMarket m a0 a1 a2 a3 a4 I (m + 1)) ∧ M_beginMarket m a0 a1 a2 a3 a4 I (m + 1) 6 = 0 ∧ M_beginMarket m a0 a1 a2 a3 a4 I (m + 1) 7 = 0 := by
  have e0 : M_beginMarket m a0 a1 a2 a3 a4 I (m + 1) 0 = a0 := by rw [bm_cells]; simp
  have e6 : M_beginMarket m a0 a1 a2 a3 a4 I (m + 1) 6 = 0 := by rw [bm_cells]; simp
  have e7 : M_beginMarket m a0 a1 a2 a3 a4 I (m + 1) 7 = 0 := by rw [bm_cells]; simp
  have e8 : M_beginMarket m a0 a1 a2 a3 a4 I (m + 1) 8 = -1 := by rw [bm_cells]; simp
  have e10 : M_beginMarket m a0 a1 a2 a3 a4 I (m + 1) 10 = -1 := by rw [bm_cells]; simp
  have e12 : M_beginMarket m a0 a1 a2 a3 a4 I (m + 1) 12 = 0 := by rw [bm_cells]; simp
  refine ⟨?_, e6, e7⟩
  unfold md_B
  rw [e0, e6, e7, e8, e10, e12]
  have t : tn 0 = 0 := rfl
  refine ⟨h, ⟨by decide, by rw [t]; omega⟩, ⟨by decide, by rw [t]; omega⟩, rfl, rfl, rfl, ?_⟩
  intro i hi
  rw [t] at hi
  omega
theorem B_mkt {m : Nat} {I : ow_I} (h : (M_failsAtMarket m I).1 = false) : md_B ((M_failsAtMarket m I).2 (m + 1)) ∧ (M_failsAtMarket m I).2 (m + 1) 6 = 0 ∧ (M_failsAtMarket m I).2 (m + 1) 7 = 0 := by
  revert h
  simp only [M_failsAtMarket, lt_eq]
  (repeat' split) <;> first | (intro h; with_reducible exact tf_abs h) | skip
  · intro h
    rename_i g1 g2 g3 g4 g5
    simp (disch := omega) only [rr_next (show m + 1 ≠ m by omega)]
    refine B_bm ?_
    simp only [nu_oth (show 0 ≠ 4 by decide), nu_oth (show 0 ≠ 3 by decide), nu_oth (show 0 ≠ 2 by decide), nu_oth (show 0 ≠ 1 by decide)]
    intro z
    have := (nu_rng (Bool.eq_false_iff.2 g1)).1
    rw [z] at this
    exact absurd this (by decide)
  · intro h; exact absurd h (by simp [M_fails, lt_eq])
theorem B_of {A A' : Nat → Int32} (hB : md_B A) (h6 : 0 ≤ A' 6 ∧ tn (A' 6) ≤ 6) (hs : ∀ k, (k = 0 ∨ k = 7 ∨ k = 8 ∨ k = 10 ∨ k = 12 ∨ (16 ≤ k ∧ k < 36) ∨ (66 ≤ k ∧ k < 366)) → A' k = A k) : md_B A' := by
  obtain ⟨h0, h1, h2, h3, h4, h5, hq⟩ := hB
  refine ⟨by rw [hs 0 (by omega)]; exact h0, h6, by rw [hs 7 (by omega)]; exact h2, by rw [hs 8 (by omega)]; exact h3, by rw [hs 10 (by omega)]; exact h4, by rw [hs 12 (by omega), hs 7 (by omega)]; exact h5, ?_⟩
  intro i hi
  rw [hs 7 (by omega)] at hi
  rw [hs (16 + i) (by omega), hs (66 + 15 * i + 12) (by omega), hs (66 + 15 * i) (by omega)]
  exact hq i hi
theorem ab_6 {m : Nat} {p s f : Int32} {I : ow_I} (h6 : 0 ≤ I (m + 1) 6) (h6b : tn (I (m + 1) 6) < 6) : 0 ≤ M_addBuyer m p s f I (m + 1) 6 ∧ tn (M_addBuyer m p s f I (m + 1) 6) = tn (I (m + 1) 6) + 1 := by
  simp (disch := omega) only [M_addBuyer, lt_eq, M_put, u_one, if_neg, if_pos]
  exact tn_inc h6 (by omega)
theorem ab_o {m k : Nat} {p s f : Int32} {I : ow_I} (h6b : tn (I (m + 1) 6) < 6) (hk : k < 6 ∨ (6 < k ∧ k < 15) ∨ (15 < k ∧ k < 36) ∨ 66 ≤ k) : M_addBuyer m p s f I (m + 1) k = I (m + 1) k := by
  simp (disch := omega) only [M_addBuyer, lt_eq, M_put, u_one, if_neg, if_pos]
theorem B_byr {m : Nat} {I : ow_I} (hB : md_B (I (m + 1))) : md_B ((M_failsAtBuyer m I).2 (m + 1)) ∧ ((M_failsAtBuyer m I).1 = false → tn ((M_failsAtBuyer m I).2 (m + 1) 6) = tn (I (m + 1) 6) + 1) := by
  have f1 : ∀ p lo hi (J : ow_I), (M_failsAtNumber m p lo hi J).2 (m + 1) = J (m + 1) := fun p lo hi J => rr_num (by omega) (by omega)
  have f2 : ∀ (J : ow_I), (M_failsAtNext m J).2 (m + 1) = J (m + 1) := fun J => rr_next (by omega)
  have f3 : ∀ c (J : ow_I), (M_fails m c J).2 (m + 1) = J (m + 1) := fun c J => rr_fails (by omega)
  simp only [M_failsAtBuyer, lt_eq]
  (repeat' split) <;> simp only [f1, f2, f3] <;> first | with_reducible exact ⟨hB, fun h => tf2 h⟩ | skip
  · exact ⟨hB, fun h => absurd h (by simp [M_fails, lt_eq])⟩
  · rename_i h6 _ _ _
    have h6 := tn_ne hB.2.1.1 h6
    have h6b : ∀ J : ow_I, J (m + 1) = I (m + 1) → 0 ≤ J (m + 1) 6 ∧ tn (J (m + 1) 6) < 6 := fun J hJ => by rw [hJ]; have := hB.2.1; exact ⟨this.1, by omega⟩
    have hJ : (M_failsAtNumber m 2 (nI 1) (nI 999) (M_failsAtNumber m 1 (nI 0) (nI 4) (M_failsAtNumber m 0 (nI 0) (nI 9999) I).2).2).2 (m + 1) = I (m + 1) := by rw [f1, f1, f1]
    have t := h6b _ hJ
    have a6 := fun p s f => @ab_6 m p s f _ t.1 t.2
    rw [← hJ] at hB ⊢
    refine ⟨B_of hB ⟨(a6 _ _ _).1, by rw [(a6 _ _ _).2]; omega⟩ (fun k hk => ab_o t.2 (by omega)), fun _ => (a6 _ _ _).2⟩
  · exact ⟨hB, fun h => absurd h (by simp [M_fails, lt_eq])⟩
/-- a barrel that is being filled: the last one has c eels -/
def md_E (A : Nat → Int32) (b c : Nat) : Prop := ¬ A 0 = 0 ∧ (0 ≤ A 6 ∧ tn (A 6) ≤ 6) ∧ (A 7 = nI (b + 1) ∧ b < 20) ∧ A 8 = -1 ∧ A 10 = -1 ∧ A 12 = A 7 ∧ (∀ i, i < b + 1 → A (16 + i) = nI i ∧ A (66 + 15 * i + 12) = 0) ∧ (∀ i, i < b → 0 ≤ A (66 + 15 * i) ∧ 1 ≤ tn (A (66 + 15 * i)) ∧ tn (A (66 + 15 * i)) ≤ 9) ∧ A (66 + 15 * b) = nI c
theorem E_B {A : Nat → Int32} {b c : Nat} (h : md_E A b c) (h1 : 1 ≤ c) (h9 : c ≤ 9) : md_B A := by
  obtain ⟨g0, g1, g2, g3, g4, g5, g6, g7, g8⟩ := h
  have e : tn (A 7) = b + 1 := by rw [g2.1, tn_nI (by omega)]
  refine ⟨g0, g1, ⟨by rw [g2.1]; exact nI_ge0 (by omega), by omega⟩, g3, g4, g5, ?_⟩
  intro i hi
  rw [e] at hi
  refine ⟨(g6 i hi).1, (g6 i hi).2, ?_⟩
  by_cases z : i = b
  · rw [z, g8, tn_nI (by omega)]; exact ⟨nI_ge0 (by omega), h1, h9⟩
  · exact g7 i (by omega)
theorem E_new {m : Nat} {r : Int32} {I : ow_I} (hB : md_B (I (m + 1))) (h7 : tn (I (m + 1) 7) < 20) : md_E ((M_newBarrel m r I).2 (m + 1)) (tn (I (m + 1) 7)) 0 := by
  obtain ⟨h0, h1, h2, h3, h4, h5, hq⟩ := hB
  have e12 : tn (I (m + 1) 12) = tn (I (m + 1) 7) := by rw [h5]
  have e7 : I (m + 1) 7 + nI 1 = nI (tn (I (m + 1) 7) + 1) := by rw [← nI_add, nI_tn h2.1]
  unfold md_E
  simp (disch := omega) only [M_newBarrel, M_enqueue, lt_eq, u_one, M_putBarrel, if_neg, if_pos]
  refine ⟨h0, h1, ⟨e7, h7⟩, h3, h4, by rw [h5], ?_, ?_, trivial⟩
  · intro i hi
    by_cases c : i = tn (I (m + 1) 7)
    · refine ⟨?_, ?_⟩
      · simp (disch := omega) only [if_neg, if_pos]; rw [c]
      · simp (disch := omega) only [if_pos]; decide
    · simp (disch := omega) only [if_neg]
      exact ⟨(hq i (by omega)).1, (hq i (by omega)).2.1⟩
  · intro i hi
    simp (disch := omega) only [if_neg]
    exact (hq i (by omega)).2.2
theorem E_add {m b c : Nat} {x : Int32} {I : ow_I} (h : md_E (I (m + 1)) b c) (hc : c < 9) : md_E (M_addEel m b x I (m + 1)) b (c + 1) := by
  obtain ⟨g0, g1, g2, g3, g4, g5, g6, g7, g8⟩ := h
  have e : tn (M_ofBarrel m b 0 I) = c := by show tn (I (m + 1) (66 + 15 * b)) = c; rw [g8, tn_nI (by omega)]
  unfold md_E
  simp (disch := omega) only [M_addEel, lt_eq, u_one, M_putBarrel, if_neg, if_pos, e]
  refine ⟨g0, g1, g2, g3, g4, g5, ?_, ?_, trivial⟩
  · intro i hi
    simp (disch := omega) only [if_neg]
    exact g6 i hi
  · intro i hi
    simp (disch := omega) only [if_neg]
    exact g7 i hi
end
section
def M_failsAtFirstBarrel_L40 (m : Nat) : Nat → ow_I → Nat → Nat → Bool × ow_I
  | 0, I, _, _ => (default, I)
  | n + 1, I, b, i => if tn (I m 13) ≤ i then lt (M_failsAtEnd m I) (fun (r3 : Bool × ow_I) => (r3.1, r3.2)) else lt (M_addEel m b (I (m + 4) i) I) (fun (I4 : ow_I) => M_failsAtFirstBarrel_L40 m n I4 b (i + 1))
def M_failsAtFirstBarrel (m : Nat) (I : ow_I) : Bool × ow_I :=
  if I (m + 1) 7 = nI 20 then lt (M_fails m (nI 3) I) (fun (r5 : Bool × ow_I) => (r5.1, r5.2)) else lt (M_failsAtBarrel m I) (fun (r1 : Bool × ow_I) => if r1.1 then (true, r1.2) else lt (M_newBarrel m (r1.2 (m + 4) 0) r1.2) (fun (r2 : Nat × ow_I) => M_failsAtFirstBarrel_L40 m 11 r2.2 r2.1 1))
end
section
/-! the reference's texts: first barrels -/
theorem rr_1L {m a : Nat} (h : a ≠ m) (h1 : a ≠ m + 1) : ∀ (n : Nat) (I : ow_I) (b i : Nat), (M_failsAtFirstBarrel_L40 m n I b i).2 a = I a := by
  intro n
  induction n with
  | zero => intro I b i; rfl
  | succ n ih =>
    intro I b i
    simp only [M_failsAtFirstBarrel_L40, lt_eq]
    (repeat' split) <;> simp only [ih, rr_end h, rr_addEel h1]
theorem fr_1L {m k : Nat} (h : k < 6 ∨ 11 < k) : ∀ (n : Nat) (I : ow_I) (b i : Nat), (M_failsAtFirstBarrel_L40 m n I b i).2 m k = I m k := by
  intro n
  induction n with
  | zero => intro I b i; rfl
  | succ n ih =>
    intro I b i
    simp only [M_failsAtFirstBarrel_L40, lt_eq]
    (repeat' split) <;> simp (disch := omega) only [ih, fr_end, rr_addEel]
theorem W_1L {m : Nat} : ∀ (n : Nat) (I : ow_I) (b i : Nat), md_W m I → md_W m (M_failsAtFirstBarrel_L40 m n I b i).2 := by
  intro n
  induction n with
  | zero => intro I b i hw; exact hw
  | succ n ih =>
    intro I b i hw
    simp only [M_failsAtFirstBarrel_L40, lt_eq]
    split
    · exact W_end hw
    · exact ih _ _ _ (mdW_row hw (rr_addEel (by omega)))
theorem B_1L {m : Nat} : ∀ (n : Nat) (I : ow_I) (b i : Nat), md_E (I (m + 1)) b (i - 1) → 1 ≤ i → i ≤ tn (I m 13) → 2 ≤ tn (I m 13) → tn (I m 13) ≤ 10 → 10 - i < n → md_B ((M_failsAtFirstBarrel_L40 m n I b i).2 (m + 1)) ∧ (M_failsAtFirstBarrel_L40 m n I b i).2 (m + 1) 7 = I (m + 1) 7 ∧ (M_failsAtFirstBarrel_L40 m n I b i).2 (m + 1) 6 = I (m + 1) 6 := by
  intro n
  induction n with
  | zero => intro I b i _ _ _ _ _ h; omega
  | succ n ih =>
    intro I b i hE h1 hi h2 h10 hn
    simp only [M_failsAtFirstBarrel_L40, lt_eq]
    split
    · rw [rr_end (by omega)]
      exact ⟨E_B hE (by omega) (by omega), rfl, rfl⟩
    · have e : ∀ x, (M_addEel m b x I) m = I m := fun x => rr_addEel (by omega)
      have hE' := fun x => @E_add m b (i - 1) x I hE (by omega)
      rw [show i - 1 + 1 = i + 1 - 1 by omega] at hE'
      have r := ih (M_addEel m b (I (m + 4) i) I) b (i + 1) (hE' _) (by omega) (by rw [e]; omega) (by rw [e]; omega) (by rw [e]; omega) (by omega)
      have e7 : ∀ k, k < 66 → M_addEel m b (I (m + 4) i) I (m + 1) k = I (m + 1) k := fun k hk => by
        simp (disch := omega) only [M_addEel, lt_eq, u_one, M_putBarrel, if_neg]
      rw [e7 7 (by omega), e7 6 (by omega)] at r
      exact r
theorem N13b_brL {m : Nat} : ∀ (n : Nat) (I : ow_I), 0 ≤ I m 13 → 1 ≤ tn (I m 13) → tn (I m 13) ≤ 10 → 10 - tn (I m 13) < n → (M_failsAtBarrel_L23 m n I).1 = false → 2 ≤ tn ((M_failsAtBarrel_L23 m n I).2 m 13) := by
  intro n
  induction n with
  | zero => intro I h0 h1 h2 h3; omega
  | succ n ih =>
    intro I h0 h1 h2 h3
    have key : ∀ J : ow_I, J m 13 = I m 13 → tn (I m 13) ≤ 9 → (M_failsAtBarrel_L23 m n (M_readToken m (ow_u J m 13 (J m 13 + nI 1)))).1 = false → 2 ≤ tn ((M_failsAtBarrel_L23 m n (M_readToken m (ow_u J m 13 (J m 13 + nI 1)))).2 m 13) := by
      intro J hJ h9
      have e : (M_readToken m (ow_u J m 13 (J m 13 + nI 1))) m 13 = I m 13 + nI 1 := by
        rw [fr_readToken (by omega), ow_u_s, hJ]
      have t := tn_inc h0 (by omega)
      exact ih _ (by rw [e]; exact t.1) (by rw [e, t.2]; omega) (by rw [e, t.2]; omega) (by rw [e, t.2]; omega)
    have f : ∀ p lo hi, (M_failsAtThis m p lo hi I).2 m 13 = I m 13 := fun p lo hi => fr_this (by omega)
    simp only [M_failsAtBarrel_L23, lt_eq]
    (repeat' split)
    · intro h; exact tf_abs h
    · exact key _ (f _ _ _) (by assumption)
    · intro h; exact absurd h (by simp [M_fails, lt_eq])
    · intro h; exact tf_abs h
    · exact key _ (f _ _ _) (by assumption)
    · intro h; exact absurd h (by simp [M_fails, lt_eq])
    · intro _; show 2 ≤ tn (I m 13); omega
theorem N13b_brl {m : Nat} {I : ow_I} (h : (M_failsAtBarrel m I).1 = false) : 2 ≤ tn ((M_failsAtBarrel m I).2 m 13) := by
  revert h
  simp only [M_failsAtBarrel, lt_eq]
  split
  · intro h; exact tf_abs h
  · have e : ∀ J : ow_I, (M_readToken m (ow_u J m 13 (nI 1))) m 13 = nI 1 := fun J => by rw [fr_readToken (by omega), ow_u_s]
    exact N13b_brL _ _ (by rw [e]; decide) (by rw [e]; decide) (by rw [e]; decide) (by rw [e, tn_nI (by decide)]; omega)
theorem rr_1st {m a : Nat} {I : ow_I} (h : a ≠ m) (h1 : a ≠ m + 1) (h4 : a ≠ m + 4) : (M_failsAtFirstBarrel m I).2 a = I a := by
  simp only [M_failsAtFirstBarrel, lt_eq]
  (repeat' split) <;> simp only [rr_1L h h1, rr_newBarrel h1, rr_brl h h4, rr_fails h]
theorem fr_1st {m k : Nat} {I : ow_I} (h : k < 6 ∨ k = 12 ∨ 13 < k) : (M_failsAtFirstBarrel m I).2 m k = I m k := by
  simp only [M_failsAtFirstBarrel, lt_eq]
  (repeat' split) <;> simp (disch := omega) only [fr_1L, rr_newBarrel, fr_brl, fr_fails]
theorem W_1st {m : Nat} {I : ow_I} (hw : md_W m I) : md_W m (M_failsAtFirstBarrel m I).2 := by
  simp only [M_failsAtFirstBarrel, lt_eq]
  (repeat' split) <;> (repeat (with_reducible first | exact hw | refine W_fails ?_ | refine W_1L _ _ _ _ ?_ | refine mdW_row ?_ (rr_newBarrel (by omega)) | refine W_brl ?_ | refine md_WT ?_))
theorem B_1st {m : Nat} {I : ow_I} (hB : md_B (I (m + 1))) (h : (M_failsAtFirstBarrel m I).1 = false) : md_B ((M_failsAtFirstBarrel m I).2 (m + 1)) ∧ tn ((M_failsAtFirstBarrel m I).2 (m + 1) 7) = tn (I (m + 1) 7) + 1 ∧ (M_failsAtFirstBarrel m I).2 (m + 1) 6 = I (m + 1) 6 := by
  revert h
  simp only [M_failsAtFirstBarrel, lt_eq]
  (repeat' split)
  · intro h; exact absurd h (by simp [M_fails, lt_eq])
  · intro h; exact tf_abs h
  · intro hz
    rename_i h7 hf
    have hf := Bool.eq_false_iff.2 hf
    have eJ : (M_failsAtBarrel m I).2 (m + 1) = I (m + 1) := rr_brl (by omega) (by omega)
    have h7 := B_lt hB h7
    have n1 := N13_brl hf
    have n2 := N13b_brl hf
    generalize (M_failsAtBarrel m I).2 = J at eJ n1 n2 ⊢
    rw [← eJ] at hB h7 ⊢
    have em : (M_newBarrel m (J (m + 4) 0) J).2 m = J m := rr_newBarrel (by omega)
    have r := B_1L 11 (M_newBarrel m (J (m + 4) 0) J).2 (tn (J (m + 1) 7)) 1 (E_new hB h7) (by omega) (by rw [em]; omega) (by rw [em]; omega) (by rw [em]; omega) (by omega)
    have e6 : (M_newBarrel m (J (m + 4) 0) J).2 (m + 1) 6 = J (m + 1) 6 := by
      simp (disch := omega) only [M_newBarrel, M_enqueue, lt_eq, u_one, M_putBarrel, if_neg]
    have e7 : (M_newBarrel m (J (m + 4) 0) J).2 (m + 1) 7 = J (m + 1) 7 + nI 1 := by
      simp (disch := omega) only [M_newBarrel, M_enqueue, lt_eq, u_one, M_putBarrel, if_neg, ↓reduceIte]
    refine ⟨r.1, ?_, ?_⟩
    · rw [rdNB1, r.2.1, e7, (tn_inc hB.2.2.1.1 (by omega)).2]
    · rw [rdNB1, r.2.2, e6]
theorem byr_6 {m : Nat} {I : ow_I} (hB : md_B (I (m + 1))) (h : (M_failsAtBuyer m I).1 = false) : tn ((M_failsAtBuyer m I).2 (m + 1) 6) = tn (I (m + 1) 6) + 1 := (B_byr hB).2 h
end
section
def M_failsAtSetup_L37 (m : Nat) : Nat → ow_I → Bool × ow_I
  | 0, I => (default, I)
  | n + 1, I => if M_wordOf m I = nI 2 then lt (M_failsAtFirstBarrel m I) (fun (r5 : Bool × ow_I) => if r5.1 then (true, r5.2) else M_failsAtSetup_L37 m n r5.2 ) else if I m 9 = 0 then (false, I) else lt (M_fails m (nI 1) I) (fun (r4 : Bool × ow_I) => if r4.1 then (true, r4.2) else (false, r4.2))
def M_failsAtSetup_L20 (m : Nat) : Nat → ow_I → Bool × ow_I
  | 0, I => (default, I)
  | n + 1, I => if M_wordOf m I = nI 1 then lt (M_failsAtBuyer m I) (fun (r6 : Bool × ow_I) => if r6.1 then (true, r6.2) else M_failsAtSetup_L20 m n r6.2 ) else M_failsAtSetup_L37 m 21 I 
def M_failsAtSetup (m : Nat) (I : ow_I) : Bool × ow_I :=
  lt (M_beginText m I) (fun (I1 : ow_I) => lt (M_failsAtMarket m I1) (fun (r2 : Bool × ow_I) => if r2.1 then (true, r2.2) else lt (M_failsAtBuyer m r2.2) (fun (r3 : Bool × ow_I) => if r3.1 then (true, r3.2) else M_failsAtSetup_L20 m 7 r3.2 )))
def M_failsAtBuyerNumber (m : Nat) (I : ow_I) : Bool × ow_I :=
  lt (M_failsAtNumber m 0 (nI 0) (I (m + 1) 6 - (nI 1)) I) (fun (r1 : Bool × ow_I) => (r1.1, r1.2))
def M_failsAtBarrelNumber (m : Nat) (I : ow_I) : Bool × ow_I :=
  lt (M_failsAtNumber m 0 (nI 0) (nI 19) I) (fun (r1 : Bool × ow_I) => (r1.1, r1.2))
end
section
/-! the reference's texts: setups as a whole -/
theorem rr_s37 {m a : Nat} (h : a ≠ m) (h1 : a ≠ m + 1) (h4 : a ≠ m + 4) : ∀ (n : Nat) (I : ow_I), (M_failsAtSetup_L37 m n I).2 a = I a := by
  intro n
  induction n with
  | zero => intro I; rfl
  | succ n ih =>
    intro I
    simp only [M_failsAtSetup_L37, lt_eq]
    (repeat' split) <;> simp only [ih, rr_1st h h1 h4, rr_fails h]
theorem rr_s20 {m a : Nat} (h : a ≠ m) (h1 : a ≠ m + 1) (h4 : a ≠ m + 4) : ∀ (n : Nat) (I : ow_I), (M_failsAtSetup_L20 m n I).2 a = I a := by
  intro n
  induction n with
  | zero => intro I; rfl
  | succ n ih =>
    intro I
    simp only [M_failsAtSetup_L20, lt_eq]
    (repeat' split) <;> simp only [ih, rr_byr h h1 h4, rr_s37 h h1 h4]
theorem rr_set {m a : Nat} {I : ow_I} (h : a ≠ m) (h1 : a ≠ m + 1) (h4 : a ≠ m + 4) : (M_failsAtSetup m I).2 a = I a := by
  simp only [M_failsAtSetup, lt_eq]
  (repeat' split) <;> simp only [rr_s20 h h1 h4, rr_byr h h1 h4, rr_mkt h h1 h4, rr_tx h]
theorem fr_s37 {m k : Nat} (h : k < 6 ∨ k = 12 ∨ 13 < k) : ∀ (n : Nat) (I : ow_I), (M_failsAtSetup_L37 m n I).2 m k = I m k := by
  intro n
  induction n with
  | zero => intro I; rfl
  | succ n ih =>
    intro I
    simp only [M_failsAtSetup_L37, lt_eq]
    (repeat' split) <;> simp (disch := omega) only [ih, fr_1st, fr_fails]
theorem fr_s20 {m k : Nat} (h : k < 6 ∨ k = 12 ∨ 13 < k) : ∀ (n : Nat) (I : ow_I), (M_failsAtSetup_L20 m n I).2 m k = I m k := by
  intro n
  induction n with
  | zero => intro I; rfl
  | succ n ih =>
    intro I
    simp only [M_failsAtSetup_L20, lt_eq]
    (repeat' split) <;> simp (disch := omega) only [ih, fr_byr, fr_s37]
theorem fr_set {m k : Nat} {I : ow_I} (h : k < 6 ∨ k = 12 ∨ (13 < k ∧ k ≠ 15)) : (M_failsAtSetup m I).2 m k = I m k := by
  simp only [M_failsAtSetup, lt_eq]
  (repeat' split) <;> simp (disch := omega) only [fr_s20, fr_byr, fr_mkt, fr_tx]
theorem ae_o {m b k c : Nat} {x : Int32} {I : ow_I} (h : I (m + 1) (66 + 15 * b) = nI c) (hc : c < 9) (hk : k < 66 + 15 * b ∨ 66 + 15 * b + 10 ≤ k) : M_addEel m b x I (m + 1) k = I (m + 1) k := by
  have e : tn (M_ofBarrel m b 0 I) = c := by show tn (I (m + 1) (66 + 15 * b)) = c; rw [h, tn_nI (by omega)]
  simp (disch := omega) only [M_addEel, lt_eq, u_one, M_putBarrel, if_neg, e]
theorem nb_o {m k : Nat} {r : Int32} {I : ow_I} (h7 : tn (I (m + 1) 7) < 20) (h12 : tn (I (m + 1) 12) < 20) (hk : k < 7 ∨ (7 < k ∧ k < 12) ∨ (12 < k ∧ k < 16) ∨ (36 ≤ k ∧ k < 66 + 15 * tn (I (m + 1) 7)) ∨ 66 + 15 * tn (I (m + 1) 7) + 15 ≤ k) : (M_newBarrel m r I).2 (m + 1) k = I (m + 1) k := by
  simp (disch := omega) only [M_newBarrel, M_enqueue, lt_eq, u_one, M_putBarrel, if_neg]
theorem fb_byr {m k : Nat} {I : ow_I} (hB : md_B (I (m + 1))) (hk : 370 ≤ k) : (M_failsAtBuyer m I).2 (m + 1) k = I (m + 1) k := by
  have f1 : ∀ p lo hi (J : ow_I), (M_failsAtNumber m p lo hi J).2 (m + 1) = J (m + 1) := fun p lo hi J => rr_num (by omega) (by omega)
  have f2 : ∀ (J : ow_I), (M_failsAtNext m J).2 (m + 1) = J (m + 1) := fun J => rr_next (by omega)
  have f3 : ∀ c (J : ow_I), (M_fails m c J).2 (m + 1) = J (m + 1) := fun c J => rr_fails (by omega)
  simp only [M_failsAtBuyer, lt_eq]
  (repeat' split) <;> simp only [f1, f2, f3]
  rename_i h6 _ _ _
  have h6 := tn_ne hB.2.1.1 h6
  have := hB.2.1.2
  rw [ab_o (by rw [f1, f1, f1]; omega) (by omega), f1, f1, f1]
theorem fb_1L {m k : Nat} (hk : 370 ≤ k) : ∀ (n : Nat) (I : ow_I) (b i : Nat), md_E (I (m + 1)) b (i - 1) → 1 ≤ i → tn (I m 13) ≤ 10 → (M_failsAtFirstBarrel_L40 m n I b i).2 (m + 1) k = I (m + 1) k := by
  intro n
  induction n with
  | zero => intro I b i _ _ _; rfl
  | succ n ih =>
    intro I b i hE h1 h10
    simp only [M_failsAtFirstBarrel_L40, lt_eq]
    split
    · show (M_failsAtEnd m I).2 (m + 1) k = _
      rw [rr_end (by omega)]
    · have e : ∀ x, (M_addEel m b x I) m = I m := fun x => rr_addEel (by omega)
      have hE' := fun x => @E_add m b (i - 1) x I hE (by omega)
      rw [show i - 1 + 1 = i + 1 - 1 by omega] at hE'
      rw [ih _ _ _ (hE' _) (by omega) (by rw [e]; exact h10), ae_o hE.2.2.2.2.2.2.2.2 (by omega) (by have := hE.2.2.1.2; omega)]
theorem fb_1st {m k : Nat} {I : ow_I} (hB : md_B (I (m + 1))) (hk : 370 ≤ k) : (M_failsAtFirstBarrel m I).2 (m + 1) k = I (m + 1) k := by
  simp only [M_failsAtFirstBarrel, lt_eq]
  (repeat' split)
  · show (M_fails m (nI 3) I).2 (m + 1) k = _
    rw [rr_fails (by omega)]
  · show (M_failsAtBarrel m I).2 (m + 1) k = _
    rw [rr_brl (by omega) (by omega)]
  · rename_i h7 hf
    have hf := Bool.eq_false_iff.2 hf
    have eJ : (M_failsAtBarrel m I).2 (m + 1) = I (m + 1) := rr_brl (by omega) (by omega)
    have h7 := B_lt hB h7
    have n1 := N13_brl hf
    generalize (M_failsAtBarrel m I).2 = J at eJ n1 ⊢
    rw [← eJ] at hB h7 ⊢
    have em : (M_newBarrel m (J (m + 4) 0) J).2 m = J m := rr_newBarrel (by omega)
    rw [fb_1L hk 11 _ _ 1 (by rw [rdNB1]; exact E_new hB h7) (by omega) (by rw [em]; omega)]
    exact nb_o h7 (by rw [hB.2.2.2.2.2.1]; exact h7) (by omega)
theorem fb_s37 {m k : Nat} (hk : 370 ≤ k) : ∀ (n : Nat) (I : ow_I), md_B (I (m + 1)) → (M_failsAtSetup_L37 m n I).2 (m + 1) k = I (m + 1) k := by
  intro n
  induction n with
  | zero => intro I _; rfl
  | succ n ih =>
    intro I hB
    simp only [M_failsAtSetup_L37, lt_eq]
    (repeat' split)
    · exact fb_1st hB hk
    · rename_i h
      rw [ih _ (B_1st hB (Bool.eq_false_iff.2 h)).1, fb_1st hB hk]
    · rfl
    · show (M_fails m (nI 1) I).2 (m + 1) k = _
      rw [rr_fails (by omega)]
    · show (M_fails m (nI 1) I).2 (m + 1) k = _
      rw [rr_fails (by omega)]
theorem fb_s20 {m k : Nat} (hk : 370 ≤ k) : ∀ (n : Nat) (I : ow_I), md_B (I (m + 1)) → (M_failsAtSetup_L20 m n I).2 (m + 1) k = I (m + 1) k := by
  intro n
  induction n with
  | zero => intro I _; rfl
  | succ n ih =>
    intro I hB
    simp only [M_failsAtSetup_L20, lt_eq]
    (repeat' split)
    · exact fb_byr hB hk
    · rw [ih _ (B_byr hB).1, fb_byr hB hk]
    · exact fb_s37 hk _ _ hB
theorem fb_mkt {m k : Nat} {I : ow_I} (hk : 370 ≤ k) : (M_failsAtMarket m I).2 (m + 1) k = I (m + 1) k := by
  have f1 : ∀ p lo hi (J : ow_I), (M_failsAtNumber m p lo hi J).2 (m + 1) = J (m + 1) := fun p lo hi J => rr_num (by omega) (by omega)
  have f2 : ∀ (J : ow_I), (M_failsAtNext m J).2 (m + 1) = J (m + 1) := fun J => rr_next (by omega)
  have f3 : ∀ c (J : ow_I), (M_fails m c J).2 (m + 1) = J (m + 1) := fun c J => rr_fails (by omega)
  simp only [M_failsAtMarket, lt_eq]
  (repeat' split) <;> simp (disch := omega) only [f1, f2, f3, bm_cells, if_neg]
theorem fb_set {m k : Nat} {I : ow_I} (hk : 370 ≤ k) : (M_failsAtSetup m I).2 (m + 1) k = I (m + 1) k := by
  have f : M_beginText m I (m + 1) = I (m + 1) := rr_tx (by omega)
  simp only [M_failsAtSetup, lt_eq]
  (repeat' split)
  · dsimp only
    rw [fb_mkt hk, f]
  · rename_i h _
    dsimp only
    rw [fb_byr (B_mkt (Bool.eq_false_iff.2 h)).1 hk, fb_mkt hk, f]
  · rename_i h _
    rw [fb_s20 hk _ _ (B_byr (B_mkt (Bool.eq_false_iff.2 h)).1).1, fb_byr (B_mkt (Bool.eq_false_iff.2 h)).1 hk, fb_mkt hk, f]
theorem B_s37 {m : Nat} : ∀ (n : Nat) (I : ow_I), md_B (I (m + 1)) → 20 - tn (I (m + 1) 7) < n → (M_failsAtSetup_L37 m n I).1 = false → md_B ((M_failsAtSetup_L37 m n I).2 (m + 1)) ∧ (M_failsAtSetup_L37 m n I).2 (m + 1) 6 = I (m + 1) 6 := by
  intro n
  induction n with
  | zero => intro I _ h; omega
  | succ n ih =>
    intro I hB hn
    simp only [M_failsAtSetup_L37, lt_eq]
    (repeat' split)
    · intro h; exact tf_abs h
    · rename_i h
      have b := B_1st hB (Bool.eq_false_iff.2 h)
      intro hz
      have := b.1.2.2.1.2
      have r := ih _ b.1 (by omega) hz
      rw [b.2.2] at r
      exact r
    · intro _; exact ⟨hB, rfl⟩
    · intro h; exact tf_abs h
    · rename_i h; exact absurd rfl (show ¬ true = true from h)
theorem B_s20 {m : Nat} : ∀ (n : Nat) (I : ow_I), md_B (I (m + 1)) → 1 ≤ tn (I (m + 1) 6) → 6 - tn (I (m + 1) 6) < n → (M_failsAtSetup_L20 m n I).1 = false → md_B ((M_failsAtSetup_L20 m n I).2 (m + 1)) ∧ 1 ≤ tn ((M_failsAtSetup_L20 m n I).2 (m + 1) 6) := by
  intro n
  induction n with
  | zero => intro I _ _ h; omega
  | succ n ih =>
    intro I hB h1 hn
    simp only [M_failsAtSetup_L20, lt_eq]
    (repeat' split)
    · intro h; exact tf_abs h
    · rename_i h
      have e := byr_6 hB (Bool.eq_false_iff.2 h)
      have b := (B_byr hB).1
      have := b.2.1.2
      intro hz
      exact ih _ b (by omega) (by omega) hz
    · intro hz
      have r := B_s37 21 I hB (by omega) hz
      exact ⟨r.1, by rw [r.2]; exact h1⟩
theorem V_set {m : Nat} {I : ow_I} (h : (M_failsAtSetup m I).1 = false) : md_V ((M_failsAtSetup m I).2 (m + 1)) := by
  revert h
  simp only [M_failsAtSetup, lt_eq]
  (repeat' split)
  · intro h; exact tf_abs h
  · intro h; exact tf_abs h
  · rename_i h hb
    intro hz
    have b := B_mkt (Bool.eq_false_iff.2 h)
    have e := byr_6 b.1 (Bool.eq_false_iff.2 hb)
    have r := B_s20 7 _ (B_byr b.1).1 (by omega) (by omega) hz
    exact B_V r.1 r.2
/-- what a copied block holds -/
theorem cb_cells {m f t : Nat} {I : ow_I} (h : f ≠ t) (k : Nat) : M_copyBlock m f t I (m + 1) k = if 370 * t ≤ k ∧ k < 370 * t + 370 then I (m + 1) (370 * f + (k - 370 * t)) else I (m + 1) k := by
  have key : ∀ (n : Nat) (J : ow_I) (i : Nat), 370 - i < n → i ≤ 370 → (∀ k, J (m + 1) k = if 370 * t ≤ k ∧ k < 370 * t + i then I (m + 1) (370 * f + (k - 370 * t)) else I (m + 1) k) → M_copyBlock_L2 m f t n J i (m + 1) k = if 370 * t ≤ k ∧ k < 370 * t + 370 then I (m + 1) (370 * f + (k - 370 * t)) else I (m + 1) k := by
    intro n
    induction n with
    | zero => intro J i h; omega
    | succ n ih =>
      intro J i h1 h2 h3
      simp only [M_copyBlock_L2, lt_eq]
      split
      · rw [h3, show i = 370 by omega]
      · refine ih _ _ (by omega) (by omega) (fun j => ?_)
        rw [u_one]
        split
        · rename_i e
          rw [h3, if_neg (by omega), if_pos (by omega), e, show 370 * t + i - 370 * t = i by omega]
        · rw [h3]
          by_cases c : 370 * t ≤ j ∧ j < 370 * t + i
          · rw [if_pos c, if_pos (by omega)]
          · rw [if_neg c, if_neg (by omega)]
  exact key 371 I 0 (by omega) (by omega) (fun k => by rw [if_neg (by omega)])
theorem rr_cbL {m a f t : Nat} (h : a ≠ m + 1) : ∀ (n : Nat) (I : ow_I) (i : Nat), M_copyBlock_L2 m f t n I i a = I a := by
  intro n
  induction n with
  | zero => intro I i; rfl
  | succ n ih =>
    intro I i
    simp only [M_copyBlock_L2, lt_eq]
    (repeat' split) <;> simp only [ih, rr_u h]
theorem rr_cb {m a f t : Nat} {I : ow_I} (h : a ≠ m + 1) : M_copyBlock m f t I a = I a := rr_cbL h _ _ _
theorem fr_thr {m k : Nat} {b : Bool} {w : Int32} {I : ow_I} (h : k ≠ 18) : (M_throwsIf m b w I).2 m k = I m k := by
  simp only [M_throwsIf, lt_eq]
  split
  · exact ow_u_k _ _ _ _ h _
  · rfl
theorem rr_thr {m a : Nat} {b : Bool} {w : Int32} {I : ow_I} (h : a ≠ m) : (M_throwsIf m b w I).2 a = I a := by
  simp only [M_throwsIf, lt_eq]
  split
  · exact rr_u h
  · rfl
theorem thr_b {m : Nat} {b : Bool} {w : Int32} {I : ow_I} : (M_throwsIf m b w I).1 = b := by
  simp only [M_throwsIf, lt_eq]
  split <;> rfl
theorem in_rng {v lo hi : Int32} {I : ow_I} (h : M_in v lo hi I = true) : lo ≤ v ∧ v ≤ hi := by
  unfold M_in at h
  split at h
  · exact absurd h (by decide)
  · split at h
    · exact absurd h (by decide)
    · exact ⟨i_nlt (by assumption), i_nlt (by assumption)⟩
end
end
section
section
def M_loadSetup (m : Nat) (I : ow_I) : Int32 × ow_I :=
  lt (ow_u I m 18 (nI 0)) (fun (I1 : ow_I) => lt (M_copyBlock m 0 11 I1) (fun (I2 : ow_I) => lt (M_failsAtSetup m I2) (fun (r3 : Bool × ow_I) => lt (ow_u r3.2 m 5 (nI 0)) (fun (I4 : ow_I) => if r3.1 then lt (M_copyBlock m 11 0 I4) (fun (I7 : ow_I) => lt (M_throwsIf m r3.1 (nI 1) I7) (fun (r8 : Bool × ow_I) => if r8.1 then (nI 0, r8.2) else lt (M_keep m 11 r8.2) (fun (I9 : ow_I) => (I9 (m + 1) 7, I9)))) else lt (M_throwsIf m r3.1 (nI 1) I4) (fun (r5 : Bool × ow_I) => if r5.1 then (nI 0, r5.2) else lt (M_keep m 11 r5.2) (fun (I6 : ow_I) => (I6 (m + 1) 7, I6)))))))
def M_failsAtRest (m : Nat) (c : Int32) (I : ow_I) : Bool × ow_I :=
  if c = nI (3 + 0) then lt (M_failsAtBuyerNumber m I) (fun (r1 : Bool × ow_I) => (r1.1, r1.2)) else if c = nI (3 + 1) then lt (M_failsAtNumber m 0 (nI 1) (nI 200) I) (fun (r2 : Bool × ow_I) => (r2.1, r2.2)) else if c = nI (3 + 2) then lt (M_failsAtBarrelNumber m I) (fun (r3 : Bool × ow_I) => if r3.1 then (true, r3.2) else lt (M_failsAtNumber m 1 (nI 1) (nI 8) r3.2) (fun (r4 : Bool × ow_I) => if r4.1 then (true, r4.2) else (false, r4.2))) else if c = nI (3 + 3) then lt (M_failsAtBuyerNumber m I) (fun (r5 : Bool × ow_I) => if r5.1 then (true, r5.2) else lt (M_failsAtNumber m 1 (nI 1) (nI 9999) r5.2) (fun (r6 : Bool × ow_I) => if r6.1 then (true, r6.2) else (false, r6.2))) else lt (M_failsAtBarrelNumber m I) (fun (r7 : Bool × ow_I) => (r7.1, r7.2))
end
section
/-! the reference's texts: commands -/
theorem rr_rest {m a : Nat} {c : Int32} {I : ow_I} (h : a ≠ m) (h4 : a ≠ m + 4) : (M_failsAtRest m c I).2 a = I a := by
  simp only [M_failsAtRest, M_failsAtBuyerNumber, M_failsAtBarrelNumber, lt_eq]
  (repeat' split) <;> simp only [rr_num h h4]
theorem fr_rest {m k : Nat} {c : Int32} {I : ow_I} (h : k < 6 ∨ 11 < k) : (M_failsAtRest m c I).2 m k = I m k := by
  simp only [M_failsAtRest, M_failsAtBuyerNumber, M_failsAtBarrelNumber, lt_eq]
  (repeat' split) <;> simp only [fr_num h]
theorem W_rest {m : Nat} {c : Int32} {I : ow_I} (hw : md_W m I) : md_W m (M_failsAtRest m c I).2 := by
  simp only [M_failsAtRest, M_failsAtBuyerNumber, M_failsAtBarrelNumber, lt_eq]
  (repeat' split) <;> (repeat (with_reducible first | exact hw | refine W_num ?_ | refine md_WT ?_))
theorem i32_le {x : Int32} {a b : Nat} (hb : b < 2 ^ 31) (ha : a ≤ b) (h1 : nI a ≤ x) (h2 : x ≤ nI b) : 0 ≤ x ∧ a ≤ tn x ∧ tn x ≤ b := by
  have h0 : 0 ≤ x := by
    have := nI_ge0 (n := a) (by omega)
    rw [Int32.le_iff_toInt_le] at *
    omega
  rw [← nI_tn h0] at h1 h2
  have e : ∀ n : Nat, n < 2 ^ 31 → (nI n).toInt = n := fun n hn => nI_toInt hn
  have hx : tn x < 2 ^ 31 := by unfold tn Int32.toNatClampNeg; have := Int32.toInt_lt x; omega
  rw [Int32.le_iff_toInt_le, e _ (by omega), e _ hx] at h1
  rw [Int32.le_iff_toInt_le, e _ hx, e _ hb] at h2
  exact ⟨h0, by omega, by omega⟩
/-- a command that can be executed -/
def md_CC (n6 : Int32) (f : Nat → Int32) : Prop :=
  (f 0 = nI 2 ∧ 0 ≤ f 1 ∧ 2 ≤ tn (f 1) ∧ tn (f 1) ≤ 10) ∨ (f 0 = nI 3 ∧ 0 ≤ f 2 ∧ tn (f 2) < tn n6) ∨ (f 0 = nI 4 ∧ 0 ≤ f 2 ∧ 1 ≤ tn (f 2) ∧ tn (f 2) ≤ 200) ∨
  (f 0 = nI 5 ∧ (0 ≤ f 2 ∧ tn (f 2) ≤ 19) ∧ 0 ≤ f 3 ∧ 1 ≤ tn (f 3) ∧ tn (f 3) ≤ 8) ∨ (f 0 = nI 6 ∧ (0 ≤ f 2 ∧ tn (f 2) < tn n6) ∧ 0 ≤ f 3 ∧ 1 ≤ tn (f 3) ∧ tn (f 3) ≤ 9999) ∨ (f 0 = nI 7 ∧ 0 ≤ f 2 ∧ tn (f 2) ≤ 19)
theorem CC2 {n6 : Int32} {f : Nat → Int32} (h : md_CC n6 f) (e : f 0 = nI 2) : 0 ≤ f 1 ∧ 2 ≤ tn (f 1) ∧ tn (f 1) ≤ 10 := by
  rcases h with q | q | q | q | q | q
  · exact q.2
  all_goals exact absurd (e.symm.trans q.1) (by decide)
theorem CC3 {n6 : Int32} {f : Nat → Int32} (h : md_CC n6 f) (e : f 0 = nI 3) : 0 ≤ f 2 ∧ tn (f 2) < tn n6 := by
  rcases h with q | q | q | q | q | q
  · exact absurd (e.symm.trans q.1) (by decide)
  · exact q.2
  all_goals exact absurd (e.symm.trans q.1) (by decide)
theorem CC5 {n6 : Int32} {f : Nat → Int32} (h : md_CC n6 f) (e : f 0 = nI 5) : (0 ≤ f 2 ∧ tn (f 2) ≤ 19) ∧ 0 ≤ f 3 ∧ 1 ≤ tn (f 3) ∧ tn (f 3) ≤ 8 := by
  rcases h with q | q | q | q | q | q
  · exact absurd (e.symm.trans q.1) (by decide)
  · exact absurd (e.symm.trans q.1) (by decide)
  · exact absurd (e.symm.trans q.1) (by decide)
  · exact q.2
  all_goals exact absurd (e.symm.trans q.1) (by decide)
theorem CC6 {n6 : Int32} {f : Nat → Int32} (h : md_CC n6 f) (e : f 0 = nI 6) : (0 ≤ f 2 ∧ tn (f 2) < tn n6) ∧ 0 ≤ f 3 ∧ 1 ≤ tn (f 3) ∧ tn (f 3) ≤ 9999 := by
  rcases h with q | q | q | q | q | q
  · exact absurd (e.symm.trans q.1) (by decide)
  · exact absurd (e.symm.trans q.1) (by decide)
  · exact absurd (e.symm.trans q.1) (by decide)
  · exact absurd (e.symm.trans q.1) (by decide)
  · exact q.2
  · exact absurd (e.symm.trans q.1) (by decide)
theorem CC7 {n6 : Int32} {f : Nat → Int32} (h : md_CC n6 f) (e : f 0 = nI 7) : 0 ≤ f 2 ∧ tn (f 2) ≤ 19 := by
  rcases h with q | q | q | q | q | q
  case inr.inr.inr.inr.inr => exact q.2
  all_goals exact absurd (e.symm.trans q.1) (by decide)
theorem CC4 {n6 : Int32} {f : Nat → Int32} (h : md_CC n6 f) (e2 : ¬ f 0 = nI 2) (e3 : ¬ f 0 = nI 3) (e5 : ¬ f 0 = nI 5) (e6 : ¬ f 0 = nI 6) (e7 : ¬ f 0 = nI 7) : 0 ≤ f 2 ∧ 1 ≤ tn (f 2) ∧ tn (f 2) ≤ 200 := by
  rcases h with q | q | q | q | q | q
  · exact absurd q.1 e2
  · exact absurd q.1 e3
  · exact q.2
  · exact absurd q.1 e5
  · exact absurd q.1 e6
  · exact absurd q.1 e7
end
section
def M_failsAtCommand_L104 (m : Nat) : Nat → ow_I → Nat → Nat → Bool × ow_I
  | 0, I, _, _ => (default, I)
  | n + 1, I, a, i => if tn (I m 13) ≤ i then lt (ow_u I m 15 (I m 15 + (nI 1))) (fun (I5 : ow_I) => lt (M_failsAtEnd m I5) (fun (r6 : Bool × ow_I) => (r6.1, r6.2))) else lt (ow_u I (m + 5) (a + 2 + i) (I (m + 4) i)) (fun (I7 : ow_I) => M_failsAtCommand_L104 m n I7 a (i + 1))
def M_failsAtCommand (m : Nat) (I : ow_I) : Bool × ow_I :=
  if M_in (M_wordOf m I) (nI 2) (nI 7) I then if I m 15 = nI 20 then lt (M_fails m (nI 3) I) (fun (r17 : Bool × ow_I) => (r17.1, r17.2)) else lt (ow_u I m 13 (nI 2)) (fun (I1 : ow_I) => if M_wordOf m I = nI 2 then lt (M_failsAtBarrel m I1) (fun (r11 : Bool × ow_I) => if r11.1 then (true, r11.2) else if M_wordOf m I = nI 2 then lt (ow_u r11.2 (m + 5) (13 * (tn (I m 15))) (M_wordOf m I)) (fun (I12 : ow_I) => lt (ow_u I12 (m + 5) (13 * (tn (I m 15)) + 1) (I12 m 13)) (fun (I13 : ow_I) => M_failsAtCommand_L104 m 11 I13 (13 * (tn (I m 15))) 0)) else lt (M_readToken m r11.2) (fun (I14 : ow_I) => lt (ow_u I14 (m + 5) (13 * (tn (I m 15))) (M_wordOf m I)) (fun (I15 : ow_I) => lt (ow_u I15 (m + 5) (13 * (tn (I m 15)) + 1) (I15 m 13)) (fun (I16 : ow_I) => M_failsAtCommand_L104 m 11 I16 (13 * (tn (I m 15))) 0)))) else lt (M_failsAtRest m (M_wordOf m I) I1) (fun (r2 : Bool × ow_I) => if r2.1 then (true, r2.2) else if M_wordOf m I = nI 2 then lt (ow_u r2.2 (m + 5) (13 * (tn (I m 15))) (M_wordOf m I)) (fun (I3 : ow_I) => lt (ow_u I3 (m + 5) (13 * (tn (I m 15)) + 1) (I3 m 13)) (fun (I4 : ow_I) => M_failsAtCommand_L104 m 11 I4 (13 * (tn (I m 15))) 0)) else lt (M_readToken m r2.2) (fun (I8 : ow_I) => lt (ow_u I8 (m + 5) (13 * (tn (I m 15))) (M_wordOf m I)) (fun (I9 : ow_I) => lt (ow_u I9 (m + 5) (13 * (tn (I m 15)) + 1) (I9 m 13)) (fun (I10 : ow_I) => M_failsAtCommand_L104 m 11 I10 (13 * (tn (I m 15))) 0))))) else lt (M_fails m (nI 1) I) (fun (r18 : Bool × ow_I) => (r18.1, r18.2))
end
section
/-! the reference's texts: what a command's reading leaves -/
def md_st (m : Nat) (w : Int32) (c : Nat) (J : ow_I) : Bool × ow_I := M_failsAtCommand_L104 m 11 (ow_u (ow_u J (m + 5) (13 * c) w) (m + 5) (13 * c + 1) (J m 13)) (13 * c) 0
theorem cmd_eq (m : Nat) (I : ow_I) : M_failsAtCommand m I = if M_in (M_wordOf m I) (nI 2) (nI 7) I then (if I m 15 = nI 20 then M_fails m (nI 3) I else
    if M_wordOf m I = nI 2 then (if (M_failsAtBarrel m (ow_u I m 13 (nI 2))).1 then (true, (M_failsAtBarrel m (ow_u I m 13 (nI 2))).2) else md_st m (M_wordOf m I) (tn (I m 15)) (M_failsAtBarrel m (ow_u I m 13 (nI 2))).2)
    else (if (M_failsAtRest m (M_wordOf m I) (ow_u I m 13 (nI 2))).1 then (true, (M_failsAtRest m (M_wordOf m I) (ow_u I m 13 (nI 2))).2) else md_st m (M_wordOf m I) (tn (I m 15)) (M_readToken m (M_failsAtRest m (M_wordOf m I) (ow_u I m 13 (nI 2))).2))) else M_fails m (nI 1) I := by
  have e : ∀ (J : ow_I) k x, ow_u J (m + 5) k x m = J m := fun J k x => rr_u (by omega)
  by_cases h : M_wordOf m I = nI 2
  · simp only [M_failsAtCommand, lt_eq, md_st, if_pos h, e]
  · simp only [M_failsAtCommand, lt_eq, md_st, if_neg h, e]
section
variable {m : Nat}
theorem rr_cmL {a' : Nat} (h : a' ≠ m) (h5 : a' ≠ m + 5) : ∀ (n : Nat) (I : ow_I) (a i : Nat), (M_failsAtCommand_L104 m n I a i).2 a' = I a' := by
  intro n
  induction n with
  | zero => intro I a i; rfl
  | succ n ih =>
    intro I a i
    simp only [M_failsAtCommand_L104, lt_eq]
    split
    · dsimp only
      rw [rr_end h, rr_u h]
    · rw [ih, rr_u h5]
theorem fr_cmL {k : Nat} (h : k < 6 ∨ (11 < k ∧ k ≠ 15)) : ∀ (n : Nat) (I : ow_I) (a i : Nat), (M_failsAtCommand_L104 m n I a i).2 m k = I m k := by
  intro n
  induction n with
  | zero => intro I a i; rfl
  | succ n ih =>
    intro I a i
    simp only [M_failsAtCommand_L104, lt_eq]
    split
    · dsimp only
      rw [fr_end (by omega), ow_u_k _ _ _ _ (by omega)]
    · rw [ih, rr_u (by omega)]
theorem W_cmL : ∀ (n : Nat) (I : ow_I) (a i : Nat), md_W m I → md_W m (M_failsAtCommand_L104 m n I a i).2 := by
  intro n
  induction n with
  | zero => intro I a i hw; exact hw
  | succ n ih =>
    intro I a i hw
    simp only [M_failsAtCommand_L104, lt_eq]
    split
    · exact W_end (mdW_o hw _ (by decide) (by decide) (by decide))
    · exact ih _ _ _ (mdW_row hw (rr_u (by omega)))
theorem cmL_15 : ∀ (n : Nat) (I : ow_I) (a i : Nat), tn (I m 13) ≤ 10 → 10 - i < n → (M_failsAtCommand_L104 m n I a i).2 m 15 = I m 15 + nI 1 ∧ (∀ k, (M_failsAtCommand_L104 m n I a i).2 (m + 5) k = if a + 2 + i ≤ k ∧ k < a + 2 + tn (I m 13) then I (m + 4) (k - (a + 2)) else I (m + 5) k) := by
  intro n
  induction n with
  | zero => intro I a i _ h; omega
  | succ n ih =>
    intro I a i h10 hn
    simp only [M_failsAtCommand_L104, lt_eq]
    split
    · dsimp only
      refine ⟨by rw [fr_end (by decide), ow_u_s], fun k => ?_⟩
      rw [rr_end (by omega), rr_u (by omega), if_neg (by omega)]
    · have em : ∀ x, ow_u I (m + 5) (a + 2 + i) x m = I m := fun x => rr_u (by omega)
      have e4 : ∀ x, ow_u I (m + 5) (a + 2 + i) x (m + 4) = I (m + 4) := fun x => rr_u (by omega)
      have r := ih (ow_u I (m + 5) (a + 2 + i) (I (m + 4) i)) a (i + 1) (by rw [em]; exact h10) (by omega)
      rw [em] at r
      refine ⟨r.1, fun k => ?_⟩
      rw [r.2 k, e4, u_one]
      by_cases c : k = a + 2 + i
      · rw [if_neg (by omega), if_pos c, if_pos (by omega), c, show a + 2 + i - (a + 2) = i by omega]
      · by_cases d : a + 2 + (i + 1) ≤ k ∧ k < a + 2 + tn (I m 13)
        · rw [if_pos d, if_pos (by omega)]
        · rw [if_neg d, if_neg c, if_neg (by omega)]
theorem rr_st {w : Int32} {c a' : Nat} {J : ow_I} (h : a' ≠ m) (h5 : a' ≠ m + 5) : (md_st m w c J).2 a' = J a' := by
  unfold md_st
  rw [rr_cmL h h5, rr_u h5, rr_u h5]
theorem fr_st {w : Int32} {c k : Nat} {J : ow_I} (h : k < 6 ∨ (11 < k ∧ k ≠ 15)) : (md_st m w c J).2 m k = J m k := by
  unfold md_st
  rw [fr_cmL h, rr_u (by omega), rr_u (by omega)]
theorem W_st {w : Int32} {c : Nat} {J : ow_I} (hw : md_W m J) : md_W m (md_st m w c J).2 := W_cmL _ _ _ _ (mdW_row (mdW_row hw (rr_u (by omega))) (rr_u (by omega)))
theorem st_15 {w : Int32} {c : Nat} {J : ow_I} (h : tn (J m 13) ≤ 10) : (md_st m w c J).2 m 15 = J m 15 + nI 1 := by
  have e : ∀ x y, ow_u (ow_u J (m + 5) (13 * c) x) (m + 5) (13 * c + 1) y m = J m := fun x y => by rw [rr_u (by omega), rr_u (by omega)]
  have r := cmL_15 (m := m) 11 (ow_u (ow_u J (m + 5) (13 * c) w) (m + 5) (13 * c + 1) (J m 13)) (13 * c) 0 (by rw [e]; exact h) (by omega)
  rw [e] at r
  exact r.1
theorem st_5 {w : Int32} {c k : Nat} {J : ow_I} (h : tn (J m 13) ≤ 10) : (md_st m w c J).2 (m + 5) k = if 13 * c + 2 ≤ k ∧ k < 13 * c + 2 + tn (J m 13) then J (m + 4) (k - (13 * c + 2)) else if k = 13 * c + 1 then J m 13 else if k = 13 * c then w else J (m + 5) k := by
  have e : ∀ x y, ow_u (ow_u J (m + 5) (13 * c) x) (m + 5) (13 * c + 1) y m = J m := fun x y => by rw [rr_u (by omega), rr_u (by omega)]
  have e4 : ∀ x y, ow_u (ow_u J (m + 5) (13 * c) x) (m + 5) (13 * c + 1) y (m + 4) = J (m + 4) := fun x y => by rw [rr_u (by omega), rr_u (by omega)]
  have r := (cmL_15 (m := m) 11 (ow_u (ow_u J (m + 5) (13 * c) w) (m + 5) (13 * c + 1) (J m 13)) (13 * c) 0 (by rw [e]; exact h) (by omega)).2 k
  rw [e, e4, u_one, u_one] at r
  exact r
theorem rr_cmd {a : Nat} {I : ow_I} (h : a ≠ m) (h4 : a ≠ m + 4) (h5 : a ≠ m + 5) : (M_failsAtCommand m I).2 a = I a := by
  rw [cmd_eq]
  (repeat' split) <;> simp only [rr_fails h, rr_brl h h4, rr_rest h h4, rr_readToken h, rr_st h h5, rr_u h]
theorem fr_cmd {k : Nat} {I : ow_I} (h : k < 6 ∨ k = 12 ∨ (13 < k ∧ k ≠ 15)) : (M_failsAtCommand m I).2 m k = I m k := by
  rw [cmd_eq]
  (repeat' split) <;> simp (disch := omega) only [fr_fails, fr_brl, fr_rest, fr_readToken, fr_st, ow_u_k]
theorem W_cmd {I : ow_I} (hw : md_W m I) : md_W m (M_failsAtCommand m I).2 := by
  rw [cmd_eq]
  (repeat' split) <;> (repeat (with_reducible first | exact hw | refine W_fails ?_ | refine W_st ?_ | refine W_rest ?_ | refine W_brl ?_ | refine W_readToken ?_ | refine mdW_o ?_ _ (by decide) (by decide) (by decide) | refine md_WT ?_))
theorem cmd_15 {I : ow_I} (h0 : 0 ≤ I m 15) (h20 : tn (I m 15) ≤ 20) (h : (M_failsAtCommand m I).1 = false) : 0 ≤ (M_failsAtCommand m I).2 m 15 ∧ tn ((M_failsAtCommand m I).2 m 15) = tn (I m 15) + 1 ∧ tn (I m 15) < 20 := by
  rw [cmd_eq] at h ⊢
  revert h
  (repeat' split)
  · intro h; exact absurd h (by simp [M_fails, lt_eq])
  · intro h; exact tf_abs h
  · intro hz
    rename_i h20' _ hb
    have hlt : tn (I m 15) < 20 := by have := tn_ne h0 h20'; omega
    have t := tn_inc h0 (by omega)
    have e : (M_failsAtBarrel m (ow_u I m 13 (nI 2))).2 m 15 = I m 15 := by rw [fr_brl (by decide), ow_u_k _ _ _ _ (by decide)]
    rw [st_15 (N13_brl (Bool.eq_false_iff.2 hb)).2.2, e]
    exact ⟨t.1, t.2, hlt⟩
  · intro h; exact tf_abs h
  · intro hz
    rename_i h20' _ hb
    have hlt : tn (I m 15) < 20 := by have := tn_ne h0 h20'; omega
    have t := tn_inc h0 (by omega)
    have e : ∀ k, k = 13 ∨ k = 15 → (M_readToken m (M_failsAtRest m (M_wordOf m I) (ow_u I m 13 (nI 2))).2) m k = ow_u I m 13 (nI 2) m k := fun k hk => by rw [fr_readToken (by omega), fr_rest (by omega)]
    rw [st_15 (by rw [e 13 (by omega), ow_u_s]; decide), e 15 (by omega), ow_u_k _ _ _ _ (by decide)]
    exact ⟨t.1, t.2, hlt⟩
  · intro h; exact absurd h (by simp [M_fails, lt_eq])
end
end
section
def M_failsAtScript_L6 (m : Nat) : Nat → ow_I → Nat → Bool × ow_I
  | 0, I, _ => (default, I)
  | n + 1, I, i => if 500 < i then (false, I) else if I m 9 = 0 then (false, I) else lt (M_failsAtCommand m I) (fun (r2 : Bool × ow_I) => if r2.1 then (true, r2.2) else M_failsAtScript_L6 m n r2.2 (i + 1))
def M_failsAtScript (m : Nat) (I : ow_I) : Bool × ow_I :=
  lt (M_beginText m I) (fun (I1 : ow_I) => M_failsAtScript_L6 m 502 I1 0)
def M_isBarrel (m : Nat) (b : Int32) (I : ow_I) : Bool :=
  if b < 0 then false else if I (m + 1) 7 ≤ b then false else true
end
section
/-! the reference's acts: what they ask for -/
theorem mdV_8' {A : Nat → Int32} (hv : md_V A) : tn (A 8) < 20 := by
  have h1 := hv.2.2.1
  rcases hv.2.2.2.1 with q | q
  · rw [q]; decide
  · omega
theorem mdV_qlt {A : Nat → Int32} (hv : md_V A) (h7 : tn (A 7) < 20) : tn (A 12) < 20 := by
  rw [md_V_eq] at hv
  have := VV_qle hv
  omega
theorem isB {m : Nat} {x : Int32} {I : ow_I} (h : M_isBarrel m x I = true) (h7 : 0 ≤ I (m + 1) 7) : 0 ≤ x ∧ tn x < tn (I (m + 1) 7) := by
  unfold M_isBarrel at h
  split at h
  · exact absurd h (by decide)
  · split at h
    · exact absurd h (by decide)
    · rename_i h1 h2
      have h0 := i_nlt h1
      refine ⟨h0, ?_⟩
      have h2 := i_lt h2
      rw [Int32.lt_iff_toInt_lt] at h2
      rw [Int32.le_iff_toInt_le] at h0 h7
      have z : (0 : Int32).toInt = 0 := by decide
      unfold tn Int32.toNatClampNeg
      omega
theorem RA_8 {m b : Nat} {I : ow_I} (h : M_reasonAgainst m b I ≤ 0) : 0 ≤ I (m + 1) 8 := by
  unfold M_reasonAgainst at h
  split at h
  · split at h
    · assumption
    · exact absurd h (by decide)
  · exact absurd h (by decide)
theorem cS {m b e : Nat} {I : ow_I} (h : M_canSplit m b e I = true) : M_isWaiting m b I = true ∧ nI e < M_ofBarrel m b 0 I ∧ I (m + 1) 7 < nI 20 := by
  unfold M_canSplit at h
  revert h
  (repeat' split) <;> intro h
  case isTrue.isFalse.isFalse => exact ⟨by assumption, i_lt (by assumption), i_lt (by assumption)⟩
  all_goals exact absurd h (by decide)
theorem lt_tn {x y : Int32} (h : x < y) (hx : 0 ≤ x) : 0 ≤ y ∧ tn x < tn y := by
  rw [Int32.lt_iff_toInt_lt] at h
  rw [Int32.le_iff_toInt_le] at hx ⊢
  have z : (0 : Int32).toInt = 0 := by decide
  unfold tn Int32.toNatClampNeg
  omega
theorem isW {m b : Nat} {I : ow_I} (h : M_isWaiting m b I = true) : I (m + 1) (66 + 15 * b + 12) = 0 := by
  unfold M_isWaiting at h
  split at h
  · assumption
  · exact absurd h (by decide)
theorem V_wait {m b : Nat} {I : ow_I} (hv : md_V (I (m + 1))) (hb : b < tn (I (m + 1) 7)) (h : M_isWaiting m b I = true) : ∃ p, p < tn (I (m + 1) 12) ∧ I (m + 1) (16 + p) = nI b := hv.2.2.2.2.2.2.2.2.1 b hb (isW h)
theorem CC4a {n6 : Int32} {f : Nat → Int32} (h : md_CC n6 f) (e : f 0 = nI 4) : 0 ≤ f 2 ∧ 1 ≤ tn (f 2) ∧ tn (f 2) ≤ 200 :=
  CC4 h (fun z => absurd (e.symm.trans z) (by decide)) (fun z => absurd (e.symm.trans z) (by decide)) (fun z => absurd (e.symm.trans z) (by decide)) (fun z => absurd (e.symm.trans z) (by decide)) (fun z => absurd (e.symm.trans z) (by decide))
theorem ae_0 {m b c : Nat} {x : Int32} {I : ow_I} (h : I (m + 1) (66 + 15 * b) = nI c) (hc : c < 9) : M_addEel m b x I (m + 1) (66 + 15 * b) = nI (c + 1) := by
  have e : tn (M_ofBarrel m b 0 I) = c := by show tn (I (m + 1) (66 + 15 * b)) = c; rw [h, tn_nI (by omega)]
  simp (disch := omega) only [M_addEel, lt_eq, u_one, M_putBarrel, if_pos, e, Nat.add_zero, ↓reduceIte]
theorem nb_0 {m : Nat} {r : Int32} {I : ow_I} (h7 : tn (I (m + 1) 7) < 20) (h12 : tn (I (m + 1) 12) < 20) : (M_newBarrel m r I).2 (m + 1) (66 + 15 * tn (I (m + 1) 7)) = nI 0 := by
  simp (disch := omega) only [M_newBarrel, M_enqueue, lt_eq, u_one, M_putBarrel, if_neg, if_pos, Nat.add_zero, ↓reduceIte]
end
section
theorem B20 {A : Nat → Int32} (hv : md_V A) (h : ¬ A 7 = nI 20) : tn (A 7) < 20 := by
  have := tn_ne hv.2.2.1.1 h
  have := hv.2.2.1.2
  omega
theorem cS7 {m b e : Nat} {I : ow_I} (hv : md_V (I (m + 1))) (h : M_canSplit m b e I = true) : tn (I (m + 1) 7) < 20 := by
  have := (lt_tn (cS h).2.2 hv.2.2.1.1).2
  rw [tn_nI (by decide)] at this
  exact this
def M_runBarrel_L29 (m : Nat) (a : Nat) : Nat → ow_I → Nat → Nat → Bool × ow_I
  | 0, I, _, _ => (default, I)
  | n + 1, I, b, i => if tn (I (m + 5) (a + 1)) ≤ i then (true, I) else lt (M_addEel m b (I (m + 5) (a + 2 + i)) I) (fun (I2 : ow_I) => M_runBarrel_L29 m a n I2 b (i + 1))
def M_runBarrel (m : Nat) (a : Nat) (I : ow_I) : Bool × ow_I :=
  if I (m + 1) 7 = nI 20 then (false, I) else lt (M_newBarrel m (I (m + 5) (a + 2)) I) (fun (r1 : Nat × ow_I) => M_runBarrel_L29 m a 11 r1.2 r1.1 1)
def M_runNod (m : Nat) (b : Nat) (I : ow_I) : Bool × ow_I :=
  if M_reasonAgainst m b I ≤ 0 then lt (M_nodNow m b I) (fun (r1 : Int32 × ow_I) => (true, r1.2)) else (false, I)
def M_runSplit (m : Nat) (b : Int32) (e : Nat) (I : ow_I) : Bool × ow_I :=
  if M_isBarrel m b I then if M_canSplit m (tn b) e I then lt (M_splitNow m (tn b) e I) (fun (r1 : Nat × ow_I) => (true, r1.2)) else (false, I) else (false, I)
def M_runWithdraw (m : Nat) (b : Int32) (I : ow_I) : Bool × ow_I :=
  if M_isBarrel m b I then if M_isWaiting m (tn b) I then lt (M_withdrawNow m (tn b) I) (fun (r1 : Int32 × ow_I) => (true, r1.2)) else (false, I) else (false, I)
def M_execute (m : Nat) (a : Nat) (I : ow_I) : Bool × ow_I :=
  if I (m + 5) a = nI (2 + 0) then lt (M_runBarrel m a I) (fun (r1 : Bool × ow_I) => (r1.1, r1.2)) else if I (m + 5) a = nI (2 + 1) then lt (M_runNod m (tn (I (m + 5) (a + 2))) I) (fun (r2 : Bool × ow_I) => (r2.1, r2.2)) else if I (m + 5) a = nI (2 + 2) then lt (M_passAll m (tn (I (m + 5) (a + 2))) I) (fun (r3 : Int32 × ow_I) => (true, r3.2)) else if I (m + 5) a = nI (2 + 3) then lt (M_runSplit m (I (m + 5) (a + 2)) (tn (I (m + 5) (a + 3))) I) (fun (r4 : Bool × ow_I) => (r4.1, r4.2)) else if I (m + 5) a = nI (2 + 4) then lt (M_fundNow m (tn (I (m + 5) (a + 2))) (I (m + 5) (a + 3)) I) (fun (r5 : Int32 × ow_I) => (true, r5.2)) else if I (m + 5) a = nI (2 + 5) then lt (M_runWithdraw m (I (m + 5) (a + 2)) I) (fun (r6 : Bool × ow_I) => (r6.1, r6.2)) else lt (M_passAll m (tn (I (m + 5) (a + 2))) I) (fun (r7 : Int32 × ow_I) => (true, r7.2))
end
section
/-! the reference's acts: what they leave -/
/-- a barrel with eels put behind those that it has -/
def md_fill (A : Nat → Int32) (p c : Nat) (src : Nat → Int32) (cnt : Nat) : Nat → Int32 := fun k => if k = 66 + 15 * p then nI (c + cnt) else if 67 + 15 * p + c ≤ k ∧ k < 67 + 15 * p + c + cnt then src (k - (67 + 15 * p + c)) else A k
theorem fill_0 {A : Nat → Int32} {p c : Nat} {src : Nat → Int32} (h : A (66 + 15 * p) = nI c) : md_fill A p c src 0 = A := by
  funext k
  unfold md_fill
  by_cases z : k = 66 + 15 * p
  · rw [if_pos z, z, h, Nat.add_zero]
  · rw [if_neg z, if_neg (by omega)]
theorem ae_cells {m b c : Nat} {x : Int32} {I : ow_I} (h : I (m + 1) (66 + 15 * b) = nI c) (hc : c < 9) (k : Nat) : M_addEel m b x I (m + 1) k = if k = 66 + 15 * b then nI (c + 1) else if k = 67 + 15 * b + c then x else I (m + 1) k := by
  have e : tn (M_ofBarrel m b 0 I) = c := by show tn (I (m + 1) (66 + 15 * b)) = c; rw [h, tn_nI (by omega)]
  simp only [M_addEel, lt_eq, u_one, M_putBarrel, e, Nat.add_zero]
  by_cases z : k = 66 + 15 * b
  · simp only [if_pos z]
  · simp only [if_neg z]
    by_cases y : k = 67 + 15 * b + c
    · rw [if_pos y, if_pos (by omega)]
    · rw [if_neg y, if_neg (by omega)]
theorem fill_s {m b c cnt : Nat} {src : Nat → Int32} {I : ow_I} (h : I (m + 1) (66 + 15 * b) = nI c) (hc : c + cnt < 9) : md_fill (M_addEel m b (src 0) I (m + 1)) b (c + 1) (fun j => src (j + 1)) cnt = md_fill (I (m + 1)) b c src (cnt + 1) := by
  funext k
  unfold md_fill
  by_cases z : k = 66 + 15 * b
  · rw [if_pos z, if_pos z, show c + 1 + cnt = c + (cnt + 1) by omega]
  · rw [if_neg z, if_neg z]
    rw [ae_cells h (by omega), if_neg z]
    by_cases y : 67 + 15 * b + (c + 1) ≤ k ∧ k < 67 + 15 * b + (c + 1) + cnt
    · rw [if_pos y, if_pos (by omega)]
      show src (k - (67 + 15 * b + (c + 1)) + 1) = _
      rw [show k - (67 + 15 * b + (c + 1)) + 1 = k - (67 + 15 * b + c) by omega]
    · rw [if_neg y]
      by_cases x : k = 67 + 15 * b + c
      · rw [if_pos x, if_pos (by omega), show k - (67 + 15 * b + c) = 0 by omega]
      · rw [if_neg x, if_neg (by omega)]
theorem nb_cells {m : Nat} {r : Int32} {I : ow_I} (h7 : tn (I (m + 1) 7) < 20) (h12 : tn (I (m + 1) 12) < 20) (k : Nat) : (M_newBarrel m r I).2 (m + 1) k = if k = 12 then I (m + 1) 12 + nI 1 else if k = 16 + tn (I (m + 1) 12) then nI (tn (I (m + 1) 7)) else if k = 78 + 15 * tn (I (m + 1) 7) then nI 0 else if k = 7 then I (m + 1) 7 + nI 1 else if k = 80 + 15 * tn (I (m + 1) 7) then -1 else if k = 79 + 15 * tn (I (m + 1) 7) then -1 else if k = 77 + 15 * tn (I (m + 1) 7) then nI 0 else if k = 76 + 15 * tn (I (m + 1) 7) then r else if k = 66 + 15 * tn (I (m + 1) 7) then nI 0 else I (m + 1) k := by
  simp (disch := omega) only [M_newBarrel, M_enqueue, lt_eq, u_one, M_putBarrel, if_neg, ↓reduceIte, Nat.add_zero]
  simp only [show ∀ x : Nat, 66 + 15 * x + 12 = 78 + 15 * x by omega, show ∀ x : Nat, 66 + 15 * x + 14 = 80 + 15 * x by omega, show ∀ x : Nat, 66 + 15 * x + 13 = 79 + 15 * x by omega, show ∀ x : Nat, 66 + 15 * x + 11 = 77 + 15 * x by omega, show ∀ x : Nat, 66 + 15 * x + 10 = 76 + 15 * x by omega]
theorem fill_o {A : Nat → Int32} {p c cnt k : Nat} {src : Nat → Int32} (h : k < 66 + 15 * p ∨ 67 + 15 * p + c + cnt ≤ k) : md_fill A p c src cnt k = A k := by
  unfold md_fill
  rw [if_neg (by omega), if_neg (by omega)]
theorem V_nb {m cnt : Nat} {r : Int32} {src : Nat → Int32} {I : ow_I} (hv : md_V (I (m + 1))) (h7 : tn (I (m + 1) 7) < 20) (h1 : 1 ≤ cnt) (h9 : cnt ≤ 9) : md_V (md_fill ((M_newBarrel m r I).2 (m + 1)) (tn (I (m + 1) 7)) 0 src cnt) := by
  have h12 := mdV_qlt hv h7
  have hE := hv.2.2.2.2.2.2.2.2.2
  rw [md_V_eq] at hv ⊢
  have o : ∀ k, k < 66 → md_fill ((M_newBarrel m r I).2 (m + 1)) (tn (I (m + 1) 7)) 0 src cnt k = (M_newBarrel m r I).2 (m + 1) k := fun k hk => fill_o (by omega)
  rw [o 0 (by omega), o 6 (by omega), o 7 (by omega), o 8 (by omega), o 10 (by omega), o 12 (by omega)]
  have e7 : (M_newBarrel m r I).2 (m + 1) 7 = I (m + 1) 7 + nI 1 := by rw [nb_cells h7 h12]; simp (disch := omega) only [if_neg, ↓reduceIte]
  have e12 : (M_newBarrel m r I).2 (m + 1) 12 = I (m + 1) 12 + nI 1 := by rw [nb_cells h7 h12]; simp only [↓reduceIte]
  rw [nb_o (k := 0) h7 h12 (by omega), nb_o (k := 6) h7 h12 (by omega), nb_o (k := 8) h7 h12 (by omega), nb_o (k := 10) h7 h12 (by omega)]
  refine VV_new hv h7 e7 e12 (fun i hi => ?_) (fun k hk => ?_) (fun k hk => ?_)
  · rw [o _ (by omega), nb_cells h7 h12, if_neg (by omega)]
    by_cases z : i = tn (I (m + 1) 12)
    · rw [if_pos (by omega), if_pos z]
    · simp (disch := omega) only [if_neg]
  · by_cases z : k = tn (I (m + 1) 7)
    · rw [if_pos z, fill_o (by omega), nb_cells h7 h12, if_neg (by omega), if_neg (by omega), if_pos (by omega)]
      decide
    · rw [if_neg z]
      show md_fill _ _ _ _ _ _ = _
      rcases Nat.lt_or_ge k (tn (I (m + 1) 7)) with y | y
      · rw [fill_o (by omega), nb_o h7 h12 (by omega)]
      · rw [fill_o (by omega), nb_o h7 h12 (by omega)]
  · show 0 ≤ md_fill _ _ _ _ _ (66 + 15 * k) ∧ _
    by_cases z : k = tn (I (m + 1) 7)
    · have e : md_fill ((M_newBarrel m r I).2 (m + 1)) (tn (I (m + 1) 7)) 0 src cnt (66 + 15 * k) = nI cnt := by
        unfold md_fill
        rw [if_pos (by omega), Nat.zero_add]
      rw [e, tn_nI (by omega)]
      exact ⟨nI_ge0 (by omega), h1, h9⟩
    · have e : md_fill ((M_newBarrel m r I).2 (m + 1)) (tn (I (m + 1) 7)) 0 src cnt (66 + 15 * k) = I (m + 1) (66 + 15 * k) := by
        rw [fill_o (by omega), nb_o h7 h12 (by omega)]
      rw [e]
      exact hE k (by omega)
/-- a barrel that a command brings -/
theorem rbL {m a : Nat} : ∀ (n : Nat) (I : ow_I) (b i : Nat), I (m + 1) (66 + 15 * b) = nI (i - 1) → 1 ≤ i → i ≤ tn (I (m + 5) (a + 1)) → tn (I (m + 5) (a + 1)) ≤ 10 → 10 - i < n →
    (M_runBarrel_L29 m a n I b i).2 (m + 1) = md_fill (I (m + 1)) b (i - 1) (fun j => I (m + 5) (a + 2 + i + j)) (tn (I (m + 5) (a + 1)) - i) ∧ (M_runBarrel_L29 m a n I b i).1 = true := by
  intro n
  induction n with
  | zero => intro I b i _ _ _ _ h; omega
  | succ n ih =>
    intro I b i h1 h2 h3 h4 hn
    simp only [M_runBarrel_L29, lt_eq]
    split
    · rw [show tn (I (m + 5) (a + 1)) - i = 0 by omega, fill_0 h1]
      exact ⟨rfl, rfl⟩
    · have e5 : ∀ x, M_addEel m b x I (m + 5) = I (m + 5) := fun x => rr_addEel (by omega)
      have r := ih (M_addEel m b (I (m + 5) (a + 2 + i)) I) b (i + 1) (by rw [ae_0 h1 (by omega), show i - 1 + 1 = i + 1 - 1 by omega]) (by omega) (by rw [e5]; omega) (by rw [e5]; omega) (by omega)
      refine ⟨?_, r.2⟩
      rw [r.1, e5]
      have f := fill_s (src := fun j => I (m + 5) (a + 2 + i + j)) (cnt := tn (I (m + 5) (a + 1)) - (i + 1)) h1 (by omega)
      rw [show tn (I (m + 5) (a + 1)) - (i + 1) + 1 = tn (I (m + 5) (a + 1)) - i by omega, show i - 1 + 1 = i + 1 - 1 by omega] at f
      rw [← f]
      have g : (fun j => I (m + 5) (a + 2 + (i + 1) + j)) = fun j => I (m + 5) (a + 2 + i + (j + 1)) := by
        funext j
        rw [show a + 2 + (i + 1) + j = a + 2 + i + (j + 1) by omega]
      rw [g]
      rfl
theorem rr_rbL {m a a' : Nat} (h : a' ≠ m + 1) : ∀ (n : Nat) (I : ow_I) (b i : Nat), (M_runBarrel_L29 m a n I b i).2 a' = I a' := by
  intro n
  induction n with
  | zero => intro I b i; rfl
  | succ n ih =>
    intro I b i
    simp only [M_runBarrel_L29, lt_eq]
    split
    · rfl
    · rw [ih, rr_addEel h]
theorem rr_rb {m a a' : Nat} {I : ow_I} (h : a' ≠ m + 1) : (M_runBarrel m a I).2 a' = I a' := by
  simp only [M_runBarrel, lt_eq]
  split
  · rfl
  · rw [rr_rbL h, rr_newBarrel h]
theorem rb_eq {m a : Nat} {I : ow_I} (h7 : tn (I (m + 1) 7) < 20) (h12 : tn (I (m + 1) 12) < 20) (h2 : 1 ≤ tn (I (m + 5) (a + 1))) (h10 : tn (I (m + 5) (a + 1)) ≤ 10) : (M_runBarrel_L29 m a 11 (M_newBarrel m (I (m + 5) (a + 2)) I).2 (M_newBarrel m (I (m + 5) (a + 2)) I).1 1).2 (m + 1) = md_fill ((M_newBarrel m (I (m + 5) (a + 2)) I).2 (m + 1)) (tn (I (m + 1) 7)) 0 (fun j => I (m + 5) (a + 3 + j)) (tn (I (m + 5) (a + 1)) - 1) ∧ (M_runBarrel_L29 m a 11 (M_newBarrel m (I (m + 5) (a + 2)) I).2 (M_newBarrel m (I (m + 5) (a + 2)) I).1 1).1 = true := by
  have e5 : ∀ x, (M_newBarrel m x I).2 (m + 5) = I (m + 5) := fun x => rr_newBarrel (by omega)
  have r := rbL (m := m) (a := a) 11 (M_newBarrel m (I (m + 5) (a + 2)) I).2 (tn (I (m + 1) 7)) 1 (nb_0 h7 h12) (by omega) (by rw [e5]; omega) (by rw [e5]; omega) (by omega)
  rw [e5] at r
  exact r
theorem V_runBarrel {m a : Nat} {I : ow_I} (hv : md_V (I (m + 1))) (h2 : 2 ≤ tn (I (m + 5) (a + 1))) (h10 : tn (I (m + 5) (a + 1)) ≤ 10) : md_V ((M_runBarrel m a I).2 (m + 1)) := by
  simp only [M_runBarrel, lt_eq]
  split
  · exact hv
  · rename_i h7
    have h7 := B20 hv h7
    rw [(rb_eq h7 (mdV_qlt hv h7) (by omega) h10).1]
    exact V_nb hv h7 (by omega) (by omega)
theorem V_runNod {m b : Nat} {I : ow_I} (hv : md_V (I (m + 1))) (hb : b < tn (I (m + 1) 6)) : md_V ((M_runNod m b I).2 (m + 1)) := by
  simp only [M_runNod, lt_eq]
  split
  · exact V_nodNow hv (RA_8 (by assumption)) hb
  · exact hv
theorem V_withdraw {m b p : Nat} {I : ow_I} (hv : md_V (I (m + 1))) (hb : b < 20) (hp : p < tn (I (m + 1) 12)) (hpm : I (m + 1) (16 + p) = nI b) : md_V ((M_withdrawNow m b I).2 (m + 1)) := by
  have h12 := hv.2.2.2.2.2.1
  have hinj := hv.2.2.2.2.2.2.2.1
  have d := @dq_cells m b p I h12.1 h12.2 hp hpm (fun j hj z => absurd (hinj j p (by omega) hp (z.trans hpm.symm)) (by omega))
  rw [md_V_eq] at hv ⊢
  simp (disch := omega) only [M_withdrawNow, lt_eq, u_one, M_putBarrel, if_neg, ↓reduceIte, d]
  refine VV_congr (VV_deq hv hp hpm hb (x := nI 3) (by decide) rfl (Q' := fun i => if 16 + p ≤ 16 + i ∧ 16 + i < 16 + (tn (I (m + 1) 12) - 1) then I (m + 1) (16 + i + 1) else I (m + 1) (16 + i)) (fun i hi => ?_) (fun k hk => rfl) (Or.inl ⟨rfl, rfl⟩)) (fun i hi => ?_) (fun i hi => ?_) (fun i hi => ?_)
  · by_cases z : i < p
    · rw [if_neg (by omega), if_pos z]
    · rw [if_pos (by omega), if_neg z]; rfl
  · simp (disch := omega) only [if_neg]
  · by_cases c : i = b
    · simp [c]
    · simp (disch := omega) only [if_neg]
  · simp (disch := omega) only [if_neg]
theorem V_runWithdraw {m : Nat} {x : Int32} {I : ow_I} (hv : md_V (I (m + 1))) : md_V ((M_runWithdraw m x I).2 (m + 1)) := by
  simp only [M_runWithdraw, lt_eq]
  split
  · rename_i hb
    split
    · rename_i hw
      have hb := isB hb hv.2.2.1.1
      obtain ⟨p, hp, hq⟩ := V_wait hv hb.2 hw
      exact V_withdraw hv (by have := hv.2.2.1; omega) hp hq
    · exact hv
  · exact hv
theorem V_fund {m b : Nat} {x : Int32} {I : ow_I} (hv : md_V (I (m + 1))) (hb : b < 6) : md_V ((M_fundNow m b x I).2 (m + 1)) := by
  rw [md_V_eq] at hv ⊢
  simp only [M_fundNow, lt_eq]
  split
  all_goals
    simp (disch := omega) only [lt_eq, u_one, M_put, if_neg]
    refine VV_congr hv (fun i hi => ?_) (fun i hi => ?_) (fun i hi => ?_)
    · simp (disch := omega) only [if_neg]
    · simp (disch := omega) only [if_neg]
    · simp (disch := omega) only [if_neg]
/-- a barrel that is cut -/
theorem splL {m b e : Nat} : ∀ (n : Nat) (I : ow_I) (n3 : Nat) (r4 s5 : Int32) (p6 j c : Nat), I (m + 1) (66 + 15 * p6) = nI c → c + (n3 - j) ≤ 9 → j ≤ n3 → n3 ≤ 9 → n3 - j < n → b ≠ p6 →
    ∀ k, (M_splitNow_L40 m b e n I n3 r4 s5 p6 j).2 (m + 1) k = if k = 76 + 15 * b then M_atLeastOne (r4 - s5) I else if k = 66 + 15 * b then nI (n3 - e) else md_fill (I (m + 1)) p6 c (fun i => I (m + 1) (67 + 15 * b + (j + i))) (n3 - j) k := by
  intro n
  induction n with
  | zero => intro I n3 r4 s5 p6 j c _ _ _ _ h; omega
  | succ n ih =>
    intro I n3 r4 s5 p6 j c h1 h2 h3 h4 hn hbp k
    simp only [M_splitNow_L40, lt_eq]
    split
    · rw [show n3 - j = 0 by omega, fill_0 h1]
      simp only [lt_eq, M_putBarrel, u_one, Nat.add_zero, show 66 + 15 * b + 10 = 76 + 15 * b by omega]
      rfl
    · rename_i hj
      rw [ih _ n3 r4 s5 p6 (j + 1) (c + 1) (ae_0 h1 (by omega)) (by omega) (by omega) h4 (by omega) hbp k]
      have f := fill_s (src := fun i => I (m + 1) (67 + 15 * b + (j + i))) (cnt := n3 - (j + 1)) h1 (by omega)
      rw [show n3 - (j + 1) + 1 = n3 - j by omega] at f
      rw [← f]
      have g : (fun i => M_addEel m p6 (M_lengthOf m b j I) I (m + 1) (67 + 15 * b + (j + 1 + i))) = (fun i => if 67 + 15 * b + (j + 1 + i) = 66 + 15 * p6 then nI (c + 1) else if 67 + 15 * b + (j + 1 + i) = 67 + 15 * p6 + c then M_lengthOf m b j I else I (m + 1) (67 + 15 * b + (j + 1 + i))) := by
        funext i
        rw [ae_cells h1 (by omega)]
      rw [g]
      have q : ∀ A : Nat → Int32, md_fill A p6 (c + 1) (fun i => if 67 + 15 * b + (j + 1 + i) = 66 + 15 * p6 then nI (c + 1) else if 67 + 15 * b + (j + 1 + i) = 67 + 15 * p6 + c then M_lengthOf m b j I else I (m + 1) (67 + 15 * b + (j + 1 + i))) (n3 - (j + 1)) = md_fill A p6 (c + 1) (fun i => I (m + 1) (67 + 15 * b + (j + (i + 1)))) (n3 - (j + 1)) := by
        intro A
        funext k
        unfold md_fill
        by_cases z : k = 66 + 15 * p6
        · rw [if_pos z, if_pos z]
        · rw [if_neg z, if_neg z]
          by_cases y : 67 + 15 * p6 + (c + 1) ≤ k ∧ k < 67 + 15 * p6 + (c + 1) + (n3 - (j + 1))
          · rw [if_pos y, if_pos y]
            have hi : k - (67 + 15 * p6 + (c + 1)) < n3 - (j + 1) := by omega
            generalize k - (67 + 15 * p6 + (c + 1)) = i at hi
            dsimp only
            rw [if_neg (by omega), if_neg (by omega), show j + 1 + i = j + (i + 1) by omega]
          · rw [if_neg y, if_neg y]
      have hL : M_lengthOf m b j I = I (m + 1) (67 + 15 * b + (j + 0)) := by
        show I (m + 1) (66 + 15 * b + (1 + j)) = _
        rw [show 66 + 15 * b + (1 + j) = 67 + 15 * b + (j + 0) by omega]
      have hA : ∀ J, M_atLeastOne (r4 - s5) J = M_atLeastOne (r4 - s5) I := fun J => rfl
      rw [q, hA, hL]
theorem spl_1 {m b e : Nat} : ∀ (n : Nat) (I : ow_I) (n3 : Nat) (r4 s5 : Int32) (p6 j : Nat), n3 - j < n → (M_splitNow_L40 m b e n I n3 r4 s5 p6 j).1 = p6 := by
  intro n
  induction n with
  | zero => intro I n3 r4 s5 p6 j h; omega
  | succ n ih =>
    intro I n3 r4 s5 p6 j h
    simp only [M_splitNow_L40, lt_eq]
    split
    · rfl
    · exact ih _ _ _ _ _ _ (by omega)
theorem rr_spL {m b e a' : Nat} (h : a' ≠ m + 1) : ∀ (n : Nat) (I : ow_I) (n3 : Nat) (r4 s5 : Int32) (p6 j : Nat), (M_splitNow_L40 m b e n I n3 r4 s5 p6 j).2 a' = I a' := by
  intro n
  induction n with
  | zero => intro I n3 r4 s5 p6 j; rfl
  | succ n ih =>
    intro I n3 r4 s5 p6 j
    simp only [M_splitNow_L40, lt_eq]
    split
    · dsimp only
      rw [rr_putB h, rr_putB h]
    · rw [ih, rr_addEel h]
theorem rr_spl {m b e a' : Nat} {I : ow_I} (h : a' ≠ m + 1) : (M_splitNow m b e I).2 a' = I a' := by
  simp only [M_splitNow, lt_eq]
  rw [rr_spL h, rr_newBarrel h]
theorem V_cut {F A : Nat → Int32} {b y : Nat} {x : Int32} (hv : md_V F) (hb : b < 20) (h1 : 1 ≤ y) (h9 : y ≤ 9) (h : ∀ k, A k = if k = 76 + 15 * b then x else if k = 66 + 15 * b then nI y else F k) : md_V A := by
  have hE := hv.2.2.2.2.2.2.2.2.2
  have h7 := hv.2.2.1
  rw [md_V_eq] at hv ⊢
  have o : ∀ k, k < 66 → A k = F k := fun k hk => by rw [h, if_neg (by omega), if_neg (by omega)]
  rw [o 0 (by omega), o 6 (by omega), o 7 (by omega), o 8 (by omega), o 10 (by omega), o 12 (by omega)]
  refine VV_congr (VV_eels hv (e' := fun k => A (66 + 15 * k)) (fun k hk => ?_)) (fun i hi => o _ (by omega)) (fun i hi => ?_) (fun i hi => rfl)
  · by_cases z : k = b
    · have e : A (66 + 15 * k) = nI y := by rw [h, if_neg (by omega), if_pos (by omega)]
      show 0 ≤ A (66 + 15 * k) ∧ _
      rw [e, tn_nI (by omega)]
      exact ⟨nI_ge0 (by omega), h1, h9⟩
    · have e : A (66 + 15 * k) = F (66 + 15 * k) := by rw [h, if_neg (by omega), if_neg (by omega)]
      show 0 ≤ A (66 + 15 * k) ∧ _
      rw [e]
      exact hE k hk
  · show A (66 + 15 * i + 12) = _
    rw [h, if_neg (by omega), if_neg (by omega)]
/-- what a cut barrel and its piece hold -/
theorem spl_cells {m b e : Nat} {I : ow_I} (hb : b < tn (I (m + 1) 7)) (h7 : tn (I (m + 1) 7) < 20) (h12 : tn (I (m + 1) 12) < 20) (h9 : tn (M_ofBarrel m b 0 I) ≤ 9) (he : e < tn (M_ofBarrel m b 0 I)) (k : Nat) :
    (M_splitNow m b e I).2 (m + 1) k = if k = 76 + 15 * b then M_atLeastOne (M_ofBarrel m b 10 I - M_ofBarrel m b 10 I * nI e / nI (tn (M_ofBarrel m b 0 I))) I else if k = 66 + 15 * b then nI (tn (M_ofBarrel m b 0 I) - e) else
     md_fill ((M_newBarrel m (M_atLeastOne (M_ofBarrel m b 10 I * nI e / nI (tn (M_ofBarrel m b 0 I))) I) I).2 (m + 1)) (tn (I (m + 1) 7)) 0 (fun i => I (m + 1) (67 + 15 * b + (tn (M_ofBarrel m b 0 I) - e + i))) e k := by
  simp only [M_splitNow, lt_eq]
  generalize M_atLeastOne (M_ofBarrel m b 10 I * nI e / nI (tn (M_ofBarrel m b 0 I))) I = x
  have r := splL (m := m) (b := b) (e := e) 10 (M_newBarrel m x I).2 (tn (M_ofBarrel m b 0 I)) (M_ofBarrel m b 10 I) (M_ofBarrel m b 10 I * nI e / nI (tn (M_ofBarrel m b 0 I))) (tn (I (m + 1) 7)) (tn (M_ofBarrel m b 0 I) - e) 0 (nb_0 h7 h12) (by omega) (by omega) h9 (by omega) (by omega) k
  rw [rdNB1, r]
  have q : ∀ A : Nat → Int32, md_fill A (tn (I (m + 1) 7)) 0 (fun i => (M_newBarrel m x I).2 (m + 1) (67 + 15 * b + (tn (M_ofBarrel m b 0 I) - e + i))) (tn (M_ofBarrel m b 0 I) - (tn (M_ofBarrel m b 0 I) - e)) = md_fill A (tn (I (m + 1) 7)) 0 (fun i => I (m + 1) (67 + 15 * b + (tn (M_ofBarrel m b 0 I) - e + i))) e := by
    intro A
    rw [show tn (M_ofBarrel m b 0 I) - (tn (M_ofBarrel m b 0 I) - e) = e by omega]
    funext k
    unfold md_fill
    by_cases z : k = 66 + 15 * tn (I (m + 1) 7)
    · rw [if_pos z, if_pos z]
    · rw [if_neg z, if_neg z]
      by_cases y : 67 + 15 * tn (I (m + 1) 7) + 0 ≤ k ∧ k < 67 + 15 * tn (I (m + 1) 7) + 0 + e
      · rw [if_pos y, if_pos y]
        dsimp only
        rw [nb_o h7 h12 (by omega)]
      · rw [if_neg y, if_neg y]
  have hA : ∀ v J, M_atLeastOne v J = M_atLeastOne v I := fun v J => rfl
  rw [q, hA]
theorem V_splitNow {m b e : Nat} {I : ow_I} (hv : md_V (I (m + 1))) (hb : b < tn (I (m + 1) 7)) (h7 : tn (I (m + 1) 7) < 20) (he1 : 1 ≤ e) (he : e < tn (M_ofBarrel m b 0 I)) : md_V ((M_splitNow m b e I).2 (m + 1)) := by
  have h9 : tn (M_ofBarrel m b 0 I) ≤ 9 := (hv.2.2.2.2.2.2.2.2.2 b hb).2.2
  exact V_cut (V_nb hv h7 he1 (by omega)) (by omega) (y := tn (M_ofBarrel m b 0 I) - e) (by omega) (by omega) (spl_cells hb h7 (mdV_qlt hv h7) h9 he)
theorem V_runSplit {m e : Nat} {x : Int32} {I : ow_I} (hv : md_V (I (m + 1))) (he1 : 1 ≤ e) (he8 : e ≤ 8) : md_V ((M_runSplit m x e I).2 (m + 1)) := by
  simp only [M_runSplit, lt_eq]
  split
  · rename_i hb
    split
    · rename_i hw
      have hb := isB hb hv.2.2.1.1
      have h := (lt_tn (cS hw).2.1 (nI_ge0 (by omega))).2
      rw [tn_nI (by omega)] at h
      exact V_splitNow hv hb.2 (cS7 hv hw) he1 h
    · exact hv
  · exact hv
theorem V_paL {m n2 : Nat} : ∀ (n : Nat) (I : ow_I) (c : Int32) (i : Nat), md_V (I (m + 1)) → md_V ((M_passAll_L8 m n2 n I c i).2 (m + 1)) := by
  intro n
  induction n with
  | zero => intro I c i hv; exact hv
  | succ n ih =>
    intro I c i hv
    simp only [M_passAll_L8, lt_eq]
    split
    · exact hv
    · exact ih _ _ _ (V_passOne hv)
theorem V_passAll {m n : Nat} {I : ow_I} (hv : md_V (I (m + 1))) : md_V ((M_passAll m n I).2 (m + 1)) := V_paL _ _ _ _ hv
theorem V_execute {m a : Nat} {I : ow_I} (hv : md_V (I (m + 1))) (hcm : md_CC (I (m + 1) 6) (fun k => I (m + 5) (a + k))) : md_V ((M_execute m a I).2 (m + 1)) := by
  simp only [M_execute, lt_eq]
  split
  · rename_i e
    exact V_runBarrel hv (CC2 hcm e).2.1 (CC2 hcm e).2.2
  · split
    · rename_i e
      exact V_runNod hv (CC3 hcm e).2
    · split
      · exact V_passAll hv
      · split
        · rename_i e
          exact V_runSplit hv (CC5 hcm e).2.2.1 (CC5 hcm e).2.2.2
        · split
          · rename_i e
            exact V_fund hv (by have := (CC6 hcm e).1.2; have := hv.2.1; omega)
          · split
            · exact V_runWithdraw hv
            · exact V_passAll hv
end
section
/-! the reference's acts: what they leave as it was -/
/-- only the block of the market, not the number of its buyers -/
def md_F (m : Nat) (I J : ow_I) : Prop := (∀ a, a ≠ m + 1 → J a = I a) ∧ (∀ k, 370 ≤ k ∨ k = 6 ∨ k = 0 → J (m + 1) k = I (m + 1) k)
theorem F_r {m : Nat} {I : ow_I} : md_F m I I := ⟨fun _ _ => rfl, fun _ _ => rfl⟩
theorem F_t {m : Nat} {I J K : ow_I} (h1 : md_F m I J) (h2 : md_F m J K) : md_F m I K := ⟨fun a h => (h2.1 a h).trans (h1.1 a h), fun k h => (h2.2 k h).trans (h1.2 k h)⟩
theorem F_s {m k : Nat} {I J : ow_I} (h : md_F m I J) (x : Int32) (hk : k < 370) (h6 : k ≠ 6) (h0 : k ≠ 0) : md_F m I (ow_u J (m + 1) k x) :=
  ⟨fun a ha => (rr_u ha).trans (h.1 a ha), fun j hj => by rw [ow_u_k _ _ _ _ (by omega)]; exact h.2 j hj⟩
theorem F_p {m b w : Nat} {I J : ow_I} (h : md_F m I J) (x : Int32) (hb : b < 6) (hw : w < 5) : md_F m I (M_put m b w x J) := F_s h x (by omega) (by omega) (by omega)
theorem F_b {m b w : Nat} {I J : ow_I} (h : md_F m I J) (x : Int32) (hb : b < 20) (hw : w < 15) : md_F m I (M_putBarrel m b w x J) := F_s h x (by omega) (by omega) (by omega)
theorem F_close {m : Nat} {I : ow_I} (hv : md_V (I (m + 1))) (h8 : 0 ≤ I (m + 1) 8) : md_F m I (M_closeBarrel m I) := by
  have hb := mdV_8 hv h8
  have hq := mdV_q hv h8
  have h10 := mdV_10 hv
  simp only [M_closeBarrel, lt_eq]
  split
  · refine F_s (F_s (F_s (F_s ?_ _ (by omega) (by omega) (by omega)) _ (by omega) (by omega) (by omega)) _ (by omega) (by omega) (by omega)) _ (by omega) (by omega) (by omega)
    simp only [M_turnBack, lt_eq]
    split
    · exact F_b (F_b F_r _ hb (by omega)) _ hb (by omega)
    · simp only [M_enqueue, lt_eq]
      have e : tn ((M_putBarrel m (tn (I (m + 1) 8)) 11 (M_ofBarrel m (tn (I (m + 1) 8)) 11 I + nI 1) I) (m + 1) 12) = tn (I (m + 1) 12) := by rw [rdPB (by omega)]
      refine F_s (F_s (F_b (F_b F_r _ hb (by omega)) _ hb (by omega)) _ ?_ ?_ ?_) _ (by omega) (by omega) (by omega) <;> rw [e] <;> omega
  · rename_i hl
    have hl := h10 (i_nlt hl)
    refine F_s (F_s (F_s (F_s ?_ _ (by omega) (by omega) (by omega)) _ (by omega) (by omega) (by omega)) _ (by omega) (by omega) (by omega)) _ (by omega) (by omega) (by omega)
    simp only [M_sell, lt_eq]
    exact F_b (F_b (F_b (F_s (F_s (F_p (F_p F_r _ hl (by omega)) _ hl (by omega)) _ (by omega) (by omega) (by omega)) _ (by omega) (by omega) (by omega)) _ hb (by omega)) _ hb (by omega)) _ hb (by omega)
theorem rr_dq34 {m b a : Nat} (h : a ≠ m + 1) : ∀ (n : Nat) (I : ow_I) (j : Nat), M_dequeue_L34 m b n I j a = I a := by
  intro n
  induction n with
  | zero => intro I j; rfl
  | succ n ih =>
    intro I j
    simp only [M_dequeue_L34, lt_eq]
    split
    · rfl
    · rw [ih, rr_u h]
theorem rr_dq2 {m b a : Nat} (h : a ≠ m + 1) : ∀ (n : Nat) (I : ow_I) (j : Nat), M_dequeue_L2 m b n I j a = I a := by
  intro n
  induction n with
  | zero => intro I j; rfl
  | succ n ih =>
    intro I j
    simp only [M_dequeue_L2, lt_eq]
    split
    · rw [rr_dq34 h, rr_u h]
    · rw [ih]
theorem rr_dq {m b a : Nat} {I : ow_I} (h : a ≠ m + 1) : M_dequeue m b I a = I a := rr_dq2 h _ _ _
theorem F_dq {m b p : Nat} {I : ow_I} (h0 : 0 ≤ I (m + 1) 12) (h20 : tn (I (m + 1) 12) ≤ 20) (hp : p < tn (I (m + 1) 12)) (hb : I (m + 1) (16 + p) = nI b) (hn : ∀ j, j < p → ¬ I (m + 1) (16 + j) = nI b) : md_F m I (M_dequeue m b I) :=
  ⟨fun a ha => rr_dq ha, fun k hk => by rw [dq_cells h0 h20 hp hb hn, if_neg (by omega), if_neg (by omega)]⟩
theorem F_open {m : Nat} {I : ow_I} (hv : md_V (I (m + 1))) : md_F m I (M_openFirst m I) := by
  simp only [M_openFirst, lt_eq]
  split
  · exact F_r
  · rename_i hne
    have h12 := hv.2.2.2.2.2.1
    have h0 := mdV_q0 hv (by omega)
    have d := @F_dq m (tn (I (m + 1) 16)) 0 I h12.1 h12.2 (by omega) (nI_tn h0.1).symm (fun j hj => by omega)
    exact F_s (F_s (F_s (F_s (F_b d _ h0.2 (by omega)) _ (by omega) (by omega) (by omega)) _ (by omega) (by omega) (by omega)) _ (by omega) (by omega) (by omega)) _ (by omega) (by omega) (by omega)
theorem F_nod {m b : Nat} {I : ow_I} (hb : b < 6) : md_F m I (M_nodNow m b I).2 := by
  simp only [M_nodNow, lt_eq]
  exact F_p (F_s (F_s (F_s F_r _ (by omega) (by omega) (by omega)) _ (by omega) (by omega) (by omega)) _ (by omega) (by omega) (by omega)) _ hb (by omega)
theorem F_think {m : Nat} {I : ow_I} (hv : md_V (I (m + 1))) (h8 : 0 ≤ I (m + 1) 8) : md_F m I (M_think m I) := by
  simp only [M_think, lt_eq]
  split
  · have hr := V_row hv (I (m + 1) 11 + nI 1) (Or.inr (Or.inl rfl))
    have hf : md_F m I (ow_u I (m + 1) 11 (I (m + 1) 11 + nI 1)) := F_s F_r _ (by omega) (by omega) (by omega)
    split
    · exact hf
    · exact F_t hf (F_close hr (by rw [ow_u_k _ _ _ _ (by decide)]; exact h8))
  · exact F_nod (by have := M_thinker_rng hv (i_nlt (by assumption)); have := hv.2.1; omega)
theorem F_passOne {m : Nat} {I : ow_I} (hv : md_V (I (m + 1))) : md_F m I (M_passOne m I) := by
  have key : ∀ J : ow_I, md_V (J (m + 1)) → md_F m J (if M_isOpenNow m J then if 0 ≤ J (m + 1) 8 then M_think m J else M_openFirst m J else J) := by
    intro J hJ
    split
    · split
      · exact F_think hJ (by assumption)
      · exact F_open hJ
    · exact F_r
  simp only [M_passOne, lt_eq]
  have hr := V_row hv (I (m + 1) 5 + nI 1) (Or.inl rfl)
  have hf : md_F m I (ow_u I (m + 1) 5 (I (m + 1) 5 + nI 1)) := F_s F_r _ (by omega) (by omega) (by omega)
  split
  · split
    · exact F_t hf (key _ hr)
    · exact F_t hf (F_t (F_close hr (i_nlt (by assumption))) (key _ (V_close hr (i_nlt (by assumption)))))
  · exact F_t hf (key _ hr)
theorem F_paL {m n2 : Nat} : ∀ (n : Nat) (I : ow_I) (c : Int32) (i : Nat), md_V (I (m + 1)) → md_F m I (M_passAll_L8 m n2 n I c i).2 := by
  intro n
  induction n with
  | zero => intro I c i hv; exact F_r
  | succ n ih =>
    intro I c i hv
    simp only [M_passAll_L8, lt_eq]
    split
    · exact F_r
    · exact F_t (F_passOne hv) (ih _ _ _ (V_passOne hv))
theorem F_passAll {m n : Nat} {I : ow_I} (hv : md_V (I (m + 1))) : md_F m I (M_passAll m n I).2 := F_paL _ _ _ _ hv
theorem F_runBarrel {m a : Nat} {I : ow_I} (hv : md_V (I (m + 1))) (h2 : 2 ≤ tn (I (m + 5) (a + 1))) (h10 : tn (I (m + 5) (a + 1)) ≤ 10) : md_F m I (M_runBarrel m a I).2 := by
  refine ⟨fun a' ha => rr_rb ha, fun k hk => ?_⟩
  simp only [M_runBarrel, lt_eq]
  split
  · rfl
  · rename_i h7
    have h7 := B20 hv h7
    have h12 := mdV_qlt hv h7
    rw [(rb_eq h7 h12 (by omega) h10).1, fill_o (by omega), nb_o h7 h12 (by omega)]
theorem F_runNod {m b : Nat} {I : ow_I} (hb : b < 6) : md_F m I (M_runNod m b I).2 := by
  simp only [M_runNod, lt_eq]
  split
  · exact F_nod hb
  · exact F_r
theorem F_withdraw {m b p : Nat} {I : ow_I} (hv : md_V (I (m + 1))) (hb : b < 20) (hp : p < tn (I (m + 1) 12)) (hpm : I (m + 1) (16 + p) = nI b) : md_F m I (M_withdrawNow m b I).2 := by
  have h12 := hv.2.2.2.2.2.1
  have hinj := hv.2.2.2.2.2.2.2.1
  have d := @F_dq m b p I h12.1 h12.2 hp hpm (fun j hj z => absurd (hinj j p (by omega) hp (z.trans hpm.symm)) (by omega))
  simp only [M_withdrawNow, lt_eq]
  exact F_b d _ hb (by omega)
theorem F_runWithdraw {m : Nat} {x : Int32} {I : ow_I} (hv : md_V (I (m + 1))) : md_F m I (M_runWithdraw m x I).2 := by
  simp only [M_runWithdraw, lt_eq]
  split
  · rename_i hb
    split
    · rename_i hw
      have hb := isB hb hv.2.2.1.1
      obtain ⟨p, hp, hq⟩ := V_wait hv hb.2 hw
      exact F_withdraw hv (by have := hv.2.2.1; omega) hp hq
    · exact F_r
  · exact F_r
theorem F_fund {m b : Nat} {x : Int32} {I : ow_I} (hb : b < 6) : md_F m I (M_fundNow m b x I).2 := by
  simp only [M_fundNow, lt_eq]
  split
  · exact F_s (F_p F_r _ hb (by omega)) _ (by omega) (by omega) (by omega)
  · exact F_s (F_p F_r _ hb (by omega)) _ (by omega) (by omega) (by omega)
theorem F_splitNow {m b e : Nat} {I : ow_I} (hv : md_V (I (m + 1))) (hb : b < tn (I (m + 1) 7)) (h7 : tn (I (m + 1) 7) < 20) (he : e < tn (M_ofBarrel m b 0 I)) : md_F m I (M_splitNow m b e I).2 := by
  have h9 : tn (M_ofBarrel m b 0 I) ≤ 9 := (hv.2.2.2.2.2.2.2.2.2 b hb).2.2
  have h12 := mdV_qlt hv h7
  exact ⟨fun a ha => rr_spl ha, fun k hk => by rw [spl_cells hb h7 h12 h9 he, if_neg (by omega), if_neg (by omega), fill_o (by omega), nb_o h7 h12 (by omega)]⟩
theorem F_runSplit {m e : Nat} {x : Int32} {I : ow_I} (hv : md_V (I (m + 1))) (he8 : e ≤ 8) : md_F m I (M_runSplit m x e I).2 := by
  simp only [M_runSplit, lt_eq]
  split
  · rename_i hb
    split
    · rename_i hw
      have hb := isB hb hv.2.2.1.1
      have h := (lt_tn (cS hw).2.1 (nI_ge0 (by omega))).2
      rw [tn_nI (by omega)] at h
      exact F_splitNow hv hb.2 (cS7 hv hw) h
    · exact F_r
  · exact F_r
theorem F_execute {m a : Nat} {I : ow_I} (hv : md_V (I (m + 1))) (hcm : md_CC (I (m + 1) 6) (fun k => I (m + 5) (a + k))) : md_F m I (M_execute m a I).2 := by
  simp only [M_execute, lt_eq]
  split
  · rename_i e
    exact F_runBarrel hv (CC2 hcm e).2.1 (CC2 hcm e).2.2
  · split
    · rename_i e
      exact F_runNod (by have := (CC3 hcm e).2; have := hv.2.1; omega)
    · split
      · exact F_passAll hv
      · split
        · rename_i e
          exact F_runSplit hv (CC5 hcm e).2.2.2
        · split
          · rename_i e
            exact F_fund (by have := (CC6 hcm e).1.2; have := hv.2.1; omega)
          · split
            · exact F_runWithdraw hv
            · exact F_passAll hv
/-- commands that can be executed -/
def md_C (m : Nat) (I : ow_I) : Prop := 0 ≤ I m 15 ∧ tn (I m 15) ≤ 20 ∧ ∀ c, c < tn (I m 15) → md_CC (I (m + 1) 6) (fun k => I (m + 5) (13 * c + k))
theorem C_of {m : Nat} {I J : ow_I} (h : md_C m I) (h15 : J m 15 = I m 15) (h6 : J (m + 1) 6 = I (m + 1) 6) (h5 : J (m + 5) = I (m + 5)) : md_C m J := by
  unfold md_C at h ⊢
  rw [h15, h6, h5]
  exact h
theorem C_exec {m a : Nat} {I : ow_I} (h : md_C m I) (hv : md_V (I (m + 1))) (hcm : md_CC (I (m + 1) 6) (fun k => I (m + 5) (a + k))) : md_C m (M_execute m a I).2 := by
  have f := F_execute hv hcm
  exact C_of h (by rw [f.1 m (by omega)]) (f.2 6 (by omega)) (f.1 _ (by omega))
/-- the kept states' counters -/
def kp_o (o k : Nat) : Nat := if k = 8 then (o + 1) % 8 else o
def kp_k (k : Nat) : Nat := if k = 8 then 8 else k + 1
def kp_t (o k : Nat) : Nat := 1 + (kp_o o k + kp_k k - 1) % 8
theorem kp_tr (o k : Nat) : 1 ≤ kp_t o k ∧ kp_t o k ≤ 8 := by
  unfold kp_t
  omega
theorem keep_eq {m b : Nat} {I : ow_I} (ho : 0 ≤ I m 1) (hk : 0 ≤ I m 2) : ∃ J : ow_I, M_keep m b I = M_copyBlock m b (kp_t (tn (I m 1)) (tn (I m 2))) J ∧ (∀ a, a ≠ m → J a = I a) ∧ (∀ k, k ≠ 1 → k ≠ 2 → J m k = I m k) ∧ J m 1 = nI (kp_o (tn (I m 1)) (tn (I m 2))) ∧ J m 2 = nI (kp_k (tn (I m 2))) := by
  unfold M_keep kp_t kp_o kp_k
  split
  · rename_i h
    exact ⟨_, by simp only [lt_eq]; rw [h], fun a ha => rr_u ha, fun k h1 h2 => ow_u_k _ _ _ _ h1 _, ow_u_s _ _ _ _, by rw [ow_u_k _ _ _ _ (by decide), ← h, nI_tn hk]⟩
  · rename_i h
    exact ⟨_, by simp only [lt_eq], fun a ha => rr_u ha, fun k h1 h2 => ow_u_k _ _ _ _ h2 _, by rw [ow_u_k _ _ _ _ (by decide), nI_tn ho], ow_u_s _ _ _ _⟩
theorem rr_keep {m b a : Nat} {I : ow_I} (ho : 0 ≤ I m 1) (hk : 0 ≤ I m 2) (h : a ≠ m) (h1 : a ≠ m + 1) : M_keep m b I a = I a := by
  obtain ⟨J, e, h2, -⟩ := keep_eq (b := b) ho hk
  rw [e, rr_cb h1, h2 a h]
theorem fr_keep {m b k : Nat} {I : ow_I} (ho : 0 ≤ I m 1) (hk : 0 ≤ I m 2) (h1 : k ≠ 1) (h2 : k ≠ 2) : M_keep m b I m k = I m k := by
  obtain ⟨J, e, -, h3, -⟩ := keep_eq (b := b) ho hk
  rw [e, rr_cb (by omega), h3 k h1 h2]
theorem keep_cells {m b : Nat} {I : ow_I} (ho : 0 ≤ I m 1) (hk : 0 ≤ I m 2) (hb : b = 0 ∨ 9 ≤ b) (k : Nat) : M_keep m b I (m + 1) k = if 370 * kp_t (tn (I m 1)) (tn (I m 2)) ≤ k ∧ k < 370 * kp_t (tn (I m 1)) (tn (I m 2)) + 370 then I (m + 1) (370 * b + (k - 370 * kp_t (tn (I m 1)) (tn (I m 2)))) else I (m + 1) k := by
  obtain ⟨J, e, h2, -⟩ := keep_eq (b := b) ho hk
  have t := kp_tr (tn (I m 1)) (tn (I m 2))
  rw [e, cb_cells (by omega), h2 _ (by omega)]
theorem keep_0 {m b : Nat} {I : ow_I} (ho : 0 ≤ I m 1) (hk : 0 ≤ I m 2) (hb : b = 0 ∨ 9 ≤ b) {k : Nat} (h : k < 370 ∨ 3330 ≤ k) : M_keep m b I (m + 1) k = I (m + 1) k := by
  have t := kp_tr (tn (I m 1)) (tn (I m 2))
  rw [keep_cells ho hk hb, if_neg (by omega)]
theorem V_blk {A A' : Nat → Int32} (hv : md_V A) (h : ∀ k, k < 370 → A' k = A k) : md_V A' := by
  rw [md_V_eq] at hv ⊢
  rw [h 0 (by omega), h 6 (by omega), h 7 (by omega), h 8 (by omega), h 10 (by omega), h 12 (by omega)]
  exact VV_congr hv (fun i hi => h _ (by omega)) (fun i hi => h _ (by omega)) (fun i hi => h _ (by omega))
theorem V_keep {m b : Nat} {I : ow_I} (hv : md_V (I (m + 1))) (ho : 0 ≤ I m 1) (hk : 0 ≤ I m 2) (hb : b = 0 ∨ 9 ≤ b) : md_V (M_keep m b I (m + 1)) := V_blk hv (fun k h => keep_0 ho hk hb (by omega))
end
section
/-! the reference's texts: scripts that can be executed -/
theorem le_m1 {x n : Int32} (h6 : 0 ≤ n) (h1 : 1 ≤ tn n) (hn : tn n ≤ 6) (h : nI 0 ≤ x) (h2 : x ≤ n - nI 1) : 0 ≤ x ∧ tn x < tn n := by
  have e : n - nI 1 = nI (tn n - 1) := by rw [← pk_sub (by omega), nI_tn h6]
  rw [e] at h2
  have r := i32_le (a := 0) (by omega) (by omega) h h2
  exact ⟨r.1, by omega⟩
theorem CC_of {n6 : Int32} {f g : Nat → Int32} (h : md_CC n6 f) (e : ∀ k, k < 4 → g k = f k) : md_CC n6 g := by
  unfold md_CC at h ⊢
  rw [e 0 (by omega), e 1 (by omega), e 2 (by omega), e 3 (by omega)]
  exact h
/-- the new command is good, and the others stay -/
theorem C_st {m : Nat} {w : Int32} {J : ow_I} (hC : md_C m J) (h20 : tn (J m 15) < 20) (h2 : 2 ≤ tn (J m 13)) (h10 : tn (J m 13) ≤ 10) (h : md_CC (J (m + 1) 6) (fun k => if k = 0 then w else if k = 1 then J m 13 else J (m + 4) (k - 2))) : md_C m (md_st m w (tn (J m 15)) J).2 := by
  have t := tn_inc hC.1 (by omega)
  unfold md_C
  rw [st_15 h10, rr_st (by omega) (by omega), t.2]
  refine ⟨t.1, by omega, fun c hc => ?_⟩
  by_cases z : c = tn (J m 15)
  · refine CC_of h (fun k hk => ?_)
    rw [st_5 h10, z]
    by_cases k0 : k = 0
    · rw [if_neg (by omega), if_neg (by omega), if_pos (by omega), if_pos k0]
    · by_cases k1 : k = 1
      · rw [if_neg (by omega), if_pos (by omega), if_neg k0, if_pos k1]
      · rw [if_pos (by omega), if_neg k0, if_neg k1, show 13 * tn (J m 15) + k - (13 * tn (J m 15) + 2) = k - 2 by omega]
  · refine CC_of (hC.2.2 c (by omega)) (fun k hk => ?_)
    rw [st_5 h10, if_neg (by omega), if_neg (by omega), if_neg (by omega)]
theorem word_r {m : Nat} {I J : ow_I} (h : M_in (M_wordOf m I) (nI 2) (nI 7) J = true) : 2 ≤ tn (M_wordOf m I) ∧ tn (M_wordOf m I) ≤ 7 ∧ M_wordOf m I = nI (tn (M_wordOf m I)) := by
  have r := in_rng h
  have q := i32_le (a := 2) (b := 7) (by omega) (by omega) r.1 r.2
  exact ⟨q.2.1, q.2.2, (nI_tn q.1).symm⟩
theorem C_cmd {m : Nat} {I : ow_I} (hC : md_C m I) (h6 : 0 ≤ I (m + 1) 6) (h61 : 1 ≤ tn (I (m + 1) 6)) (h66 : tn (I (m + 1) 6) ≤ 6) (h : (M_failsAtCommand m I).1 = false) : md_C m (M_failsAtCommand m I).2 := by
  rw [cmd_eq] at h ⊢
  revert h
  split
  · rename_i hw
    have hw := word_r hw
    split
    · intro h; exact absurd h (by simp [M_fails, lt_eq])
    · rename_i h20
      have hlt : tn (I m 15) < 20 := by have := tn_ne hC.1 h20; have := hC.2.1; omega
      split
      · rename_i h2
        split
        · intro h; exact tf_abs h
        · rename_i hb
          intro _
          have e15 : (M_failsAtBarrel m (ow_u I m 13 (nI 2))).2 m 15 = I m 15 := by rw [fr_brl (by decide), ow_u_k _ _ _ _ (by decide)]
          have n1 := N13_brl (Bool.eq_false_iff.2 hb)
          have n2 := N13b_brl (Bool.eq_false_iff.2 hb)
          have c := C_of (J := (M_failsAtBarrel m (ow_u I m 13 (nI 2))).2) hC e15 (by rw [rr_brl (by omega) (by omega), rr_u (by omega)]) (by rw [rr_brl (by omega) (by omega), rr_u (by omega)])
          rw [← e15]
          refine C_st c (by rw [e15]; exact hlt) n2 n1.2.2 (Or.inl ⟨h2, n1.1, n2, n1.2.2⟩)
      · rename_i h2
        split
        · intro h; exact tf_abs h
        · rename_i hb
          intro _
          have hb := Bool.eq_false_iff.2 hb
          have e : ∀ k, k = 13 ∨ k = 15 → (M_readToken m (M_failsAtRest m (M_wordOf m I) (ow_u I m 13 (nI 2))).2) m k = ow_u I m 13 (nI 2) m k := fun k hk => by rw [fr_readToken (by omega), fr_rest (by omega)]
          have e15 : (M_readToken m (M_failsAtRest m (M_wordOf m I) (ow_u I m 13 (nI 2))).2) m 15 = I m 15 := by rw [e 15 (by omega), ow_u_k _ _ _ _ (by decide)]
          have e13 : (M_readToken m (M_failsAtRest m (M_wordOf m I) (ow_u I m 13 (nI 2))).2) m 13 = nI 2 := by rw [e 13 (by omega), ow_u_s]
          have t2 : tn (nI 2) = 2 := tn_nI (by decide)
          have eo : ∀ a, a ≠ m → a ≠ m + 4 → (M_readToken m (M_failsAtRest m (M_wordOf m I) (ow_u I m 13 (nI 2))).2) a = I a := fun a h h4 => by rw [rr_readToken h, rr_rest h h4, rr_u h]
          have c := C_of hC e15 (by rw [eo (m + 1) (by omega) (by omega)]) (eo (m + 5) (by omega) (by omega))
          have e4 : (M_readToken m (M_failsAtRest m (M_wordOf m I) (ow_u I m 13 (nI 2))).2) (m + 4) = (M_failsAtRest m (M_wordOf m I) (ow_u I m 13 (nI 2))).2 (m + 4) := rr_readToken (by omega)
          rw [← e15]
          refine C_st c (by rw [e15]; exact hlt) (by rw [e13, t2]; omega) (by rw [e13, t2]; omega) ?_
          rw [eo (m + 1) (by omega) (by omega), e13, e4]
          have u1 : ∀ k, (ow_u I m 13 (nI 2)) (m + 1) k = I (m + 1) k := fun k => by rw [rr_u (by omega)]
          generalize ow_u I m 13 (nI 2) = J at hb u1 ⊢
          generalize hwv : M_wordOf m I = w at hb h2 hw ⊢
          obtain ⟨w1, w2, w3⟩ := hw
          generalize tn w = v at w1 w2 w3
          subst w3
          have u4 : ∀ lo hi (K : ow_I), (M_failsAtNumber m 0 lo hi K).1 = false → lo ≤ (M_failsAtNumber m 0 lo hi K).2 (m + 4) 0 ∧ (M_failsAtNumber m 0 lo hi K).2 (m + 4) 0 ≤ hi := fun lo hi K h => nu_rng h
          have h6' : M_failsAtNumber m 0 (nI 0) (J (m + 1) 6 - nI 1) J = M_failsAtNumber m 0 (nI 0) (I (m + 1) 6 - nI 1) J := by rw [u1]
          unfold md_CC
          dsimp only
          simp only [show (0 : Nat) ≠ 1 by decide, show (1 : Nat) ≠ 0 by decide, show (2 : Nat) ≠ 0 by decide, show (2 : Nat) ≠ 1 by decide, show (3 : Nat) ≠ 0 by decide, show (3 : Nat) ≠ 1 by decide, if_false, if_true, show (2 : Nat) - 2 = 0 by decide, show (3 : Nat) - 2 = 1 by decide]
          revert hb
          simp only [M_failsAtRest, M_failsAtBuyerNumber, M_failsAtBarrelNumber, lt_eq, h6']
          split
          · rename_i hv
            intro hb
            have r := le_m1 h6 h61 h66 (u4 _ _ _ hb).1 (u4 _ _ _ hb).2
            exact Or.inr (Or.inl ⟨hv, r⟩)
          · split
            · rename_i hv
              intro hb
              have r := i32_le (a := 1) (b := 200) (by decide) (by decide) (u4 _ _ _ hb).1 (u4 _ _ _ hb).2
              exact Or.inr (Or.inr (Or.inl ⟨hv, r⟩))
            · split
              · rename_i hv
                split
                · intro hb; exact tf_abs hb
                · rename_i hb1
                  split
                  · intro hb; exact tf_abs hb
                  · rename_i hb2
                    intro _
                    have g1 := u4 _ _ _ (Bool.eq_false_iff.2 hb1)
                    have r1 := i32_le (a := 0) (b := 19) (by decide) (by decide) g1.1 g1.2
                    have g2 := nu_rng (Bool.eq_false_iff.2 hb2)
                    have r2 := i32_le (a := 1) (b := 8) (by decide) (by decide) g2.1 g2.2
                    dsimp only
                    have o := @nu_oth m 1 0 (nI 1) (nI 8) (M_failsAtNumber m 0 (nI 0) (nI 19) J).2 (by decide)
                    rw [← o] at r1
                    exact Or.inr (Or.inr (Or.inr (Or.inl ⟨hv, ⟨r1.1, r1.2.2⟩, r2⟩)))
              · split
                · rename_i hv
                  split
                  · intro hb; exact tf_abs hb
                  · rename_i hb1
                    split
                    · intro hb; exact tf_abs hb
                    · rename_i hb2
                      intro _
                      have g1 := u4 _ _ _ (Bool.eq_false_iff.2 hb1)
                      have r1 := le_m1 h6 h61 h66 g1.1 g1.2
                      have g2 := nu_rng (Bool.eq_false_iff.2 hb2)
                      have r2 := i32_le (a := 1) (b := 9999) (by decide) (by decide) g2.1 g2.2
                      dsimp only
                      have o := @nu_oth m 1 0 (nI 1) (nI 9999) (M_failsAtNumber m 0 (nI 0) (I (m + 1) 6 - nI 1) J).2 (by decide)
                      rw [← o] at r1
                      exact Or.inr (Or.inr (Or.inr (Or.inr (Or.inl ⟨hv, r1, r2⟩))))
                · rename_i n3 n4 n5 n6
                  intro hb
                  have r := i32_le (a := 0) (b := 19) (by decide) (by decide) (u4 _ _ _ hb).1 (u4 _ _ _ hb).2
                  refine Or.inr (Or.inr (Or.inr (Or.inr (Or.inr ⟨?_, r.1, r.2.2⟩))))
                  have q : v = 7 := by
                    rcases Nat.lt_or_ge v 7 with z | z
                    · rcases (show v = 2 ∨ v = 3 ∨ v = 4 ∨ v = 5 ∨ v = 6 by omega) with y | y | y | y | y <;> subst y
                      · exact absurd rfl h2
                      · exact absurd rfl n3
                      · exact absurd rfl n4
                      · exact absurd rfl n5
                      · exact absurd rfl n6
                    · omega
                  rw [q]
  · intro h; exact absurd h (by simp [M_fails, lt_eq])
theorem rr_scL {m a : Nat} (h : a ≠ m) (h4 : a ≠ m + 4) (h5 : a ≠ m + 5) : ∀ (n : Nat) (I : ow_I) (i : Nat), (M_failsAtScript_L6 m n I i).2 a = I a := by
  intro n
  induction n with
  | zero => intro I i; rfl
  | succ n ih =>
    intro I i
    simp only [M_failsAtScript_L6, lt_eq]
    (repeat' split) <;> simp only [ih, rr_cmd h h4 h5]
theorem rr_scr {m a : Nat} {I : ow_I} (h : a ≠ m) (h4 : a ≠ m + 4) (h5 : a ≠ m + 5) : (M_failsAtScript m I).2 a = I a := by
  simp only [M_failsAtScript, lt_eq]
  rw [rr_scL h h4 h5, rr_tx h]
theorem fr_scL {m k : Nat} (h : k < 6 ∨ k = 12 ∨ (13 < k ∧ k ≠ 15)) : ∀ (n : Nat) (I : ow_I) (i : Nat), (M_failsAtScript_L6 m n I i).2 m k = I m k := by
  intro n
  induction n with
  | zero => intro I i; rfl
  | succ n ih =>
    intro I i
    simp only [M_failsAtScript_L6, lt_eq]
    (repeat' split) <;> simp only [ih, fr_cmd h]
theorem fr_scr {m k : Nat} {I : ow_I} (h : k < 6 ∨ k = 12 ∨ (13 < k ∧ k ≠ 15)) : (M_failsAtScript m I).2 m k = I m k := by
  simp only [M_failsAtScript, lt_eq]
  rw [fr_scL h, fr_tx (by omega)]
theorem C_scL {m : Nat} : ∀ (n : Nat) (I : ow_I) (i : Nat), md_C m I → 0 ≤ I (m + 1) 6 → 1 ≤ tn (I (m + 1) 6) → tn (I (m + 1) 6) ≤ 6 → 501 - i < n → (M_failsAtScript_L6 m n I i).1 = false → md_C m (M_failsAtScript_L6 m n I i).2 := by
  intro n
  induction n with
  | zero => intro I i _ _ _ _ h; omega
  | succ n ih =>
    intro I i hC h6 h61 h66 hn
    have e : (M_failsAtCommand m I).2 (m + 1) = I (m + 1) := rr_cmd (by omega) (by omega) (by omega)
    simp only [M_failsAtScript_L6, lt_eq]
    (repeat' split)
    · intro _; exact hC
    · intro _; exact hC
    · intro h; exact tf_abs h
    · rename_i hb
      exact ih _ _ (C_cmd hC h6 h61 h66 (Bool.eq_false_iff.2 hb)) (by rw [e]; exact h6) (by rw [e]; exact h61) (by rw [e]; exact h66) (by omega)
theorem C_scr {m : Nat} {I : ow_I} (hv : md_V (I (m + 1))) (h : (M_failsAtScript m I).1 = false) : md_C m (M_failsAtScript m I).2 := by
  revert h
  simp only [M_failsAtScript, lt_eq]
  have e : M_beginText m I (m + 1) = I (m + 1) := rr_tx (by omega)
  have t0 : tn (nI 0) = 0 := rfl
  exact C_scL 502 _ 0 ⟨by rw [fr_tx15]; decide, by rw [fr_tx15, t0]; omega, fun c hc => by rw [fr_tx15, t0] at hc; omega⟩ (by rw [e]; exact hv.2.1.1) (by rw [e]; exact hv.2.1.2.1) (by rw [e]; exact hv.2.1.2.2) (by omega)
end
end
section
section
theorem sc_C {m : Nat} {I : ow_I} (hv : md_V (I (m + 1))) (ho : 0 ≤ I m 1) (hk2 : 0 ≤ I m 2) (h : (M_failsAtScript m (ow_u I m 18 (nI 0))).1 = false) : md_C m (M_keep m 0 (M_throwsIf m (M_failsAtScript m (ow_u I m 18 (nI 0))).1 (nI 1) (ow_u (M_failsAtScript m (ow_u I m 18 (nI 0))).2 m 5 (nI 0))).2) := by
  have e1 : ∀ k, k = 1 ∨ k = 2 → (M_throwsIf m (M_failsAtScript m (ow_u I m 18 (nI 0))).1 (nI 1) (ow_u (M_failsAtScript m (ow_u I m 18 (nI 0))).2 m 5 (nI 0))).2 m k = I m k := fun k hk => by
    rw [fr_thr (by omega), ow_u_k _ _ _ _ (by omega), fr_scr (by omega), ow_u_k _ _ _ _ (by omega)]
  have c := C_scr (I := ow_u I m 18 (nI 0)) (by rw [rr_u (by omega)]; exact hv) h
  refine C_of c ?_ ?_ ?_
  · rw [fr_keep (by rw [e1 1 (by omega)]; exact ho) (by rw [e1 2 (by omega)]; exact hk2) (by omega) (by omega), fr_thr (by omega), ow_u_k _ _ _ _ (by omega)]
  · rw [keep_0 (by rw [e1 1 (by omega)]; exact ho) (by rw [e1 2 (by omega)]; exact hk2) (Or.inl rfl) (by omega), rr_thr (by omega), rr_u (by omega)]
  · rw [rr_keep (by rw [e1 1 (by omega)]; exact ho) (by rw [e1 2 (by omega)]; exact hk2) (by omega) (by omega), rr_thr (by omega), rr_u (by omega)]
def M_runScript_L33 (m : Nat) : Nat → ow_I → Nat → Int32 × ow_I
  | 0, I, _ => (default, I)
  | n + 1, I, i => if tn (I m 15) ≤ i then (I m 15, I) else lt (M_execute m (13 * i) I) (fun (r6 : Bool × ow_I) => if r6.1 then M_runScript_L33 m n r6.2 (i + 1) else (nI i, r6.2))
def M_runScript (m : Nat) (I : ow_I) : Int32 × ow_I :=
  lt (ow_u I m 18 (nI 0)) (fun (I1 : ow_I) => lt (M_failsAtScript m I1) (fun (r2 : Bool × ow_I) => lt (ow_u r2.2 m 5 (nI 0)) (fun (I3 : ow_I) => lt (M_throwsIf m r2.1 (nI 1) I3) (fun (r4 : Bool × ow_I) => if r4.1 then (nI 0, r4.2) else lt (M_keep m 0 r4.2) (fun (I5 : ow_I) => M_runScript_L33 m 21 I5 0)))))
end
section
def M_lacksBuyer (m : Nat) (b : Int32) (I : ow_I) : Bool × ow_I :=
  lt (ow_u I m 18 (nI 0)) (fun (I1 : ow_I) => if M_in b (nI 0) (I1 (m + 1) 6 - (nI 1)) I1 then (false, I1) else lt (ow_u I1 m 18 (nI 1)) (fun (I2 : ow_I) => (true, I2)))
def M_lacksBarrel (m : Nat) (b : Int32) (I : ow_I) : Bool × ow_I :=
  lt (ow_u I m 18 (nI 0)) (fun (I1 : ow_I) => if M_isBarrel m b I1 then (false, I1) else lt (ow_u I1 m 18 (nI 1)) (fun (I2 : ow_I) => (true, I2)))
end
section
theorem lb_A {m : Nat} {b : Int32} {I : ow_I} : (M_lacksBuyer m b I).2 (m + 1) = I (m + 1) := by
  simp only [M_lacksBuyer, lt_eq]
  (repeat' split) <;> simp only [rr_u (show m + 1 ≠ m by omega)]
theorem lB_A {m : Nat} {b : Int32} {I : ow_I} : (M_lacksBarrel m b I).2 (m + 1) = I (m + 1) := by
  simp only [M_lacksBarrel, lt_eq]
  (repeat' split) <;> simp only [rr_u (show m + 1 ≠ m by omega)]
theorem u_A {m k : Nat} {x : Int32} {I : ow_I} : ow_u I m k x (m + 1) = I (m + 1) := rr_u (by omega)
theorem fr_lb {m k : Nat} {b : Int32} {I : ow_I} (h : k ≠ 18) : (M_lacksBuyer m b I).2 m k = I m k := by
  simp only [M_lacksBuyer, lt_eq]
  (repeat' split) <;> simp only [ow_u_k _ _ _ _ h]
theorem fr_lB {m k : Nat} {b : Int32} {I : ow_I} (h : k ≠ 18) : (M_lacksBarrel m b I).2 m k = I m k := by
  simp only [M_lacksBarrel, lt_eq]
  (repeat' split) <;> simp only [ow_u_k _ _ _ _ h]
theorem rr_lb {m a : Nat} {b : Int32} {I : ow_I} (h : a ≠ m) : (M_lacksBuyer m b I).2 a = I a := by
  simp only [M_lacksBuyer, lt_eq]
  (repeat' split) <;> simp only [rr_u h]
theorem rr_lB {m a : Nat} {b : Int32} {I : ow_I} (h : a ≠ m) : (M_lacksBarrel m b I).2 a = I a := by
  simp only [M_lacksBarrel, lt_eq]
  (repeat' split) <;> simp only [rr_u h]
theorem lb_1 {m : Nat} {b : Int32} {I : ow_I} (hv : md_V (I (m + 1))) (h : (M_lacksBuyer m b I).1 = false) : 0 ≤ b ∧ tn b < tn (I (m + 1) 6) := by
  have h6 := hv.2.1
  revert h
  simp only [M_lacksBuyer, lt_eq]
  (repeat' split)
  · rename_i h
    intro _
    have r := in_rng h
    rw [u_A] at r
    exact le_m1 h6.1 h6.2.1 h6.2.2 r.1 r.2
  · intro h; exact tf_abs h
theorem lB_1 {m : Nat} {b : Int32} {I : ow_I} (hv : md_V (I (m + 1))) (h : (M_lacksBarrel m b I).1 = false) : 0 ≤ b ∧ tn b < tn (I (m + 1) 7) := by
  have h7 := hv.2.2.1
  revert h
  simp only [M_lacksBarrel, lt_eq]
  (repeat' split)
  · rename_i h
    intro _
    have r := isB h (by rw [u_A]; exact h7.1)
    rw [u_A] at r
    exact r
  · intro h; exact tf_abs h
end
section
def M_errorCode (m : Nat) (I : ow_I) : Int32 × ow_I :=
  lt (ow_u I m 18 (nI 0)) (fun (I1 : ow_I) => (I1 m 6, I1))
def M_errorPosition (m : Nat) (I : ow_I) : Int32 × ow_I :=
  lt (ow_u I m 18 (nI 0)) (fun (I1 : ow_I) => (I1 m 7, I1))
def M_minute (m : Nat) (I : ow_I) : Int32 × ow_I :=
  lt (ow_u I m 18 (nI 0)) (fun (I1 : ow_I) => (I1 (m + 1) 5, I1))
def M_step (m : Nat) (I : ow_I) : Int32 × ow_I :=
  lt (ow_u I m 18 (nI 0)) (fun (I1 : ow_I) => (I1 (m + 1) 3, I1))
def M_sellerCoins (m : Nat) (I : ow_I) : Int32 × ow_I :=
  lt (ow_u I m 18 (nI 0)) (fun (I1 : ow_I) => (I1 (m + 1) 13, I1))
def M_houseCoins (m : Nat) (I : ow_I) : Int32 × ow_I :=
  lt (ow_u I m 18 (nI 0)) (fun (I1 : ow_I) => (I1 (m + 1) 14, I1))
def M_openBarrel (m : Nat) (I : ow_I) : Int32 × ow_I :=
  lt (ow_u I m 18 (nI 0)) (fun (I1 : ow_I) => (I1 (m + 1) 8, I1))
def M_bid (m : Nat) (I : ow_I) : Int32 × ow_I :=
  lt (ow_u I m 18 (nI 0)) (fun (I1 : ow_I) => if 0 ≤ I1 (m + 1) 10 then (I1 (m + 1) 9, I1) else ((-1), I1))
def M_leader (m : Nat) (I : ow_I) : Int32 × ow_I :=
  lt (ow_u I m 18 (nI 0)) (fun (I1 : ow_I) => (I1 (m + 1) 10, I1))
def M_queueLength (m : Nat) (I : ow_I) : Int32 × ow_I :=
  lt (ow_u I m 18 (nI 0)) (fun (I1 : ow_I) => (I1 (m + 1) 12, I1))
def M_barrelCount (m : Nat) (I : ow_I) : Int32 × ow_I :=
  lt (ow_u I m 18 (nI 0)) (fun (I1 : ow_I) => (I1 (m + 1) 7, I1))
def M_buyerCount (m : Nat) (I : ow_I) : Int32 × ow_I :=
  lt (ow_u I m 18 (nI 0)) (fun (I1 : ow_I) => (I1 (m + 1) 6, I1))
def M_isOpen (m : Nat) (I : ow_I) : Bool × ow_I :=
  lt (ow_u I m 18 (nI 0)) (fun (I1 : ow_I) => (M_isOpenNow m I1, I1))
end
section
/-! the reference's calls: what they ask for -/
theorem le_mn {x n : Int32} (h6 : 0 ≤ n) (h1 : 1 ≤ tn n) (hn : tn n ≤ 20) (h : nI 0 ≤ x) (h2 : x ≤ n - nI 1) : 0 ≤ x ∧ tn x < tn n := by
  have e : n - nI 1 = nI (tn n - 1) := by rw [← pk_sub (by omega), nI_tn h6]
  rw [e] at h2
  have r := i32_le (a := 0) (by omega) (by omega) h h2
  exact ⟨r.1, by omega⟩
theorem lB_e {m : Nat} {b : Int32} {I : ow_I} (hv : md_V (I (m + 1))) (h : (M_lacksBarrel m b I).1 = false) : 0 ≤ M_ofBarrel m (tn b) 0 (M_lacksBarrel m b I).2 ∧ 1 ≤ tn (M_ofBarrel m (tn b) 0 (M_lacksBarrel m b I).2) ∧ tn (M_ofBarrel m (tn b) 0 (M_lacksBarrel m b I).2) ≤ 9 ∧ tn b < 20 := by
  have r := lB_1 hv h
  have e := hv.2.2.2.2.2.2.2.2.2 _ r.2
  have : M_ofBarrel m (tn b) 0 (M_lacksBarrel m b I).2 = I (m + 1) (66 + 15 * tn b) := by
    show (M_lacksBarrel m b I).2 (m + 1) (66 + 15 * tn b) = _
    rw [lB_A]
  rw [this]
  exact ⟨e.1, e.2.1, e.2.2, by have := hv.2.2.1; omega⟩
theorem V_cb {m t : Nat} {I : ow_I} (hv : md_V (I (m + 1))) (ht : 1 ≤ t) : md_V (M_copyBlock m 0 t I (m + 1)) := V_blk hv (fun k hk => by rw [cb_cells (by omega), if_neg (by omega)])
theorem V_cbk {m f : Nat} {I : ow_I} (hv : md_V (fun k => I (m + 1) (370 * f + k))) (hf : 1 ≤ f) : md_V (M_copyBlock m f 0 I (m + 1)) := V_blk hv (fun k hk => by rw [cb_cells (by omega), if_pos (by omega)]; rfl)
theorem F_0 {m k : Nat} {x : Int32} {I : ow_I} (hk : k = 3) : md_F m I (ow_u I (m + 1) k x) := F_s F_r _ (by omega) (by omega) (by omega)
theorem nod_h8 {m b : Nat} {J : ow_I} (ho : 0 ≤ J m 1) (hk : 0 ≤ J m 2) (hv : md_V (J (m + 1))) (h : M_reasonAgainst m b J ≤ 0) : ¬ 0 ≤ M_keep m 0 J (m + 1) 10 → 0 ≤ M_keep m 0 J (m + 1) 8 ∧ tn (M_keep m 0 J (m + 1) 8) < 20 := by
  intro _
  rw [keep_0 (k := 8) ho hk (Or.inl rfl) (by omega)]
  exact ⟨RA_8 h, mdV_8' hv⟩
theorem wd_h {m b : Nat} {J : ow_I} (ho : 0 ≤ J m 1) (hk : 0 ≤ J m 2) (hv : md_V (J (m + 1))) (hb : b < tn (J (m + 1) 7)) (h : M_isWaiting m b J = true) : ∃ p, p < tn (M_keep m 0 J (m + 1) 12) ∧ M_keep m 0 J (m + 1) (16 + p) = nI b := by
  obtain ⟨p, h1, h2⟩ := V_wait hv hb h
  have := hv.2.2.2.2.2.1
  refine ⟨p, ?_, ?_⟩
  · rw [keep_0 ho hk (Or.inl rfl) (by omega)]; exact h1
  · rw [keep_0 ho hk (Or.inl rfl) (by omega)]; exact h2
theorem spl_h {m b e : Nat} {J : ow_I} (ho : 0 ≤ J m 1) (hk : 0 ≤ J m 2) (hv : md_V (J (m + 1))) (hb : b < tn (J (m + 1) 7)) (he : e ≤ 8) (h : M_canSplit m b e J = true) : b < 20 ∧ 0 ≤ M_ofBarrel m b 0 (M_keep m 0 J) ∧ tn (M_ofBarrel m b 0 (M_keep m 0 J)) ≤ 9 ∧ e < tn (M_ofBarrel m b 0 (M_keep m 0 J)) ∧ tn (M_keep m 0 J (m + 1) 7) < 20 ∧ b < tn (M_keep m 0 J (m + 1) 7) := by
  have h20 := hv.2.2.1.2
  have e0 : M_ofBarrel m b 0 (M_keep m 0 J) = M_ofBarrel m b 0 J := by
    show M_keep m 0 J (m + 1) (66 + 15 * b + 0) = J (m + 1) (66 + 15 * b + 0)
    rw [keep_0 ho hk (Or.inl rfl) (by omega)]
  have e7 : M_keep m 0 J (m + 1) 7 = J (m + 1) 7 := keep_0 ho hk (Or.inl rfl) (by omega)
  have q := hv.2.2.2.2.2.2.2.2.2 _ hb
  have c := (lt_tn (cS h).2.1 (nI_ge0 (by omega))).2
  rw [tn_nI (by omega)] at c
  rw [e0, e7]
  exact ⟨by omega, q.1, q.2.2, c, cS7 hv h, hb⟩
theorem ck7 {m : Nat} {J : ow_I} (ho : 0 ≤ J m 1) (hk : 0 ≤ J m 2) (hv : md_V (J (m + 1))) (h : ¬ J (m + 1) 7 = nI 20) : tn (M_keep m 0 J (m + 1) 7) < 20 := by
  rw [keep_0 ho hk (Or.inl rfl) (by omega)]
  exact B20 hv h
theorem tot_L {m b : Nat} {I J : ow_I} (h : J (m + 1) = I (m + 1)) : ∀ (n : Nat) (s : Int32) (e : Nat), M_totalOf_L4 m b n J s e = M_totalOf_L4 m b n I s e := by
  intro n
  induction n with
  | zero => intro s e; rfl
  | succ n ih =>
    intro s e
    have e1 : ∀ k, M_ofBarrel m b k J = M_ofBarrel m b k I := fun k => by
      show J (m + 1) _ = I (m + 1) _
      rw [h]
    by_cases c : tn (M_ofBarrel m b 0 I) ≤ e
    · simp only [M_totalOf_L4, e1, if_pos c]
    · simp only [M_totalOf_L4, M_lengthOf, e1, if_neg c, ih]
theorem tot_row {m b : Nat} {I J : ow_I} (h : J (m + 1) = I (m + 1)) : M_totalOf m b J = M_totalOf m b I := tot_L h _ _ _
/-! the reference's input -/
theorem aw_L {m : Nat} {w : Int32} : ∀ (n : Nat) (I : ow_I) (s : Int32) (c : Nat), s = nI (8 * c) - 8 → c ≤ 4 → 0 ≤ I m 5 → tn (I m 5) + c ≤ 500 → c < n → 0 ≤ M_appendWord_L3 m w n I s m 5 ∧ tn (M_appendWord_L3 m w n I s m 5) = tn (I m 5) + c := by
  intro n
  induction n with
  | zero => intro I s c _ _ _ _ h; omega
  | succ n ih =>
    intro I s c hs hc h0 hl hn
    simp only [M_appendWord_L3, lt_eq]
    split
    · rename_i h
      have : c = 0 := by
        rcases Nat.eq_zero_or_pos c with z | z
        · exact z
        · exfalso
          rw [hs] at h
          rcases (show c = 1 ∨ c = 2 ∨ c = 3 ∨ c = 4 by omega) with y | y | y | y <;> subst y <;> exact absurd h (by decide)
      subst this
      exact ⟨h0, rfl⟩
    · rename_i h
      have hc1 := sh8_c hs h
      have t := tn_inc h0 (by omega)
      generalize ((w >>> (s &&& 31)).toInt8.toInt32).toInt8.toInt32 = X
      have e : ow_u (ow_u I (m + 3) (tn (I m 5)) X) m 5 (ow_u I (m + 3) (tn (I m 5)) X m 5 + nI 1) m 5 = I m 5 + nI 1 := by
        rw [ow_u_s, rr_u (by omega)]
      have r := ih (ow_u (ow_u I (m + 3) (tn (I m 5)) X) m 5 (ow_u I (m + 3) (tn (I m 5)) X m 5 + nI 1)) (s + Int32.ofInt (-8)) (c - 1) (by rw [hs]; exact sh8 hc1) (by omega) (by rw [e]; exact t.1) (by rw [e, t.2]; omega) (by omega)
      rw [e, t.2] at r
      exact ⟨r.1, by omega⟩
theorem aw_5 {m : Nat} {w : Int32} {I : ow_I} (h0 : 0 ≤ I m 5) (h : tn (I m 5) ≤ 496) : 0 ≤ M_appendWord m w I m 5 ∧ tn (M_appendWord m w I m 5) = tn (I m 5) + 4 := aw_L 5 I _ 4 (by decide) (by omega) h0 (by omega) (by omega)
/-! the reference's output -/
theorem pw_le {d : Nat} (h : d ≤ 9) : 1 ≤ 10 ^ d ∧ 10 ^ d ≤ 1000000000 := by
  rcases (show d = 0 ∨ d = 1 ∨ d = 2 ∨ d = 3 ∨ d = 4 ∨ d = 5 ∨ d = 6 ∨ d = 7 ∨ d = 8 ∨ d = 9 by omega) with z | z | z | z | z | z | z | z | z | z <;> subst z <;> decide
theorem pw_ne {d : Nat} (h : d ≤ 9) : ¬ nI (10 ^ d) = 0 := fun z => by
  have := pw_le h
  rw [nI_z (by omega)] at z
  omega
theorem i32_div {x : Int32} {u : Nat} (hu : 1 ≤ u) (h : u < 2 ^ 31) : (x / nI u).toInt = x.toInt.tdiv u := by
  rw [Int32.toInt_div, nI_toInt h]
  have h1 := Int32.le_toInt x
  have h2 := Int32.toInt_lt x
  have h3 : x.toInt.tdiv u ≤ 2 ^ 31 - 1 ∧ - 2 ^ 31 ≤ x.toInt.tdiv u := by
    rcases Int.le_total 0 x.toInt with z | z
    · have a := Int.tdiv_nonneg z (show (0 : Int) ≤ u by omega)
      have b := Int.tdiv_le_self (u : Int) z
      omega
    · have a : (-x.toInt).tdiv u = - (x.toInt.tdiv u) := Int.neg_tdiv ..
      have b := Int.tdiv_le_self (u : Int) (show 0 ≤ -x.toInt by omega)
      have c := Int.tdiv_nonneg (show 0 ≤ -x.toInt by omega) (show (0 : Int) ≤ u by omega)
      omega
  exact Int.bmod_eq_of_le (by omega) (by omega)
theorem dig_8 {x : Int32} {d : Nat} (hd : d ≤ 9) (h : nI 10 ≤ x / nI (10 ^ d)) : ((10 : Nat) ^ (d + 1) : Int) ≤ x.toInt ∧ d ≤ 8 := by
  have p := pw_le hd
  rw [Int32.le_iff_toInt_le, i32_div p.1 (by omega), nI_toInt (by decide)] at h
  have h0 : 0 ≤ x.toInt := by
    rcases Int.le_total 0 x.toInt with z | z
    · exact z
    · exfalso
      have a : (-x.toInt).tdiv (10 ^ d : Nat) = - (x.toInt.tdiv (10 ^ d : Nat)) := Int.neg_tdiv ..
      have c := Int.tdiv_nonneg (show 0 ≤ -x.toInt by omega) (show (0 : Int) ≤ (10 ^ d : Nat) by omega)
      omega
  rw [Int.tdiv_eq_ediv_of_nonneg h0] at h
  have h2 := Int32.toInt_lt x
  have h1 : (10 : Int) * (10 ^ d : Nat) ≤ x.toInt := by
    have := (Int.le_ediv_iff_mul_le (show (0 : Int) < (10 ^ d : Nat) by omega)).1 h
    exact this
  have e : (10 : Nat) ^ (d + 1) = 10 ^ d * 10 := Nat.pow_succ ..
  refine ⟨by rw [show (((10 : Nat) : Int) ^ (d + 1)) = ((10 ^ (d + 1) : Nat) : Int) by norm_cast, e]; omega, ?_⟩
  rcases Nat.lt_or_ge d 9 with z | z
  · omega
  · have : d = 9 := by omega
    subst this
    have h1 : (10 : Int) * 1000000000 ≤ x.toInt := h1
    omega
end
section
def M_nextBid (m : Nat) (I : ow_I) : Int32 × ow_I :=
  lt (ow_u I m 18 (nI 0)) (fun (I1 : ow_I) => if 0 ≤ I1 (m + 1) 8 then (M_bidNext m I1, I1) else ((-1), I1))
def M_quiet (m : Nat) (I : ow_I) : Int32 × ow_I :=
  lt (ow_u I m 18 (nI 0)) (fun (I1 : ow_I) => if 0 ≤ I1 (m + 1) 8 then (I1 (m + 1) 11, I1) else ((-1), I1))
def M_queuedBarrel (m : Nat) (p : Int32) (I : ow_I) : Int32 × ow_I :=
  lt (ow_u I m 18 (nI 0)) (fun (I1 : ow_I) => if p < 0 then ((-1), I1) else if I1 (m + 1) 12 ≤ p then ((-1), I1) else (I1 (m + 1) (16 + (tn p)), I1))
def M_eels (m : Nat) (b : Int32) (I : ow_I) : Int32 × ow_I :=
  lt (M_lacksBarrel m b I) (fun (r1 : Bool × ow_I) => if r1.1 then (nI 0, r1.2) else (M_ofBarrel m (tn b) 0 r1.2, r1.2))
def M_reserve (m : Nat) (b : Int32) (I : ow_I) : Int32 × ow_I :=
  lt (M_lacksBarrel m b I) (fun (r1 : Bool × ow_I) => if r1.1 then (nI 0, r1.2) else (M_ofBarrel m (tn b) 10 r1.2, r1.2))
def M_stateOf (m : Nat) (b : Int32) (I : ow_I) : Int32 × ow_I :=
  lt (M_lacksBarrel m b I) (fun (r1 : Bool × ow_I) => if r1.1 then (nI 0, r1.2) else (M_ofBarrel m (tn b) 12 r1.2, r1.2))
def M_returns (m : Nat) (b : Int32) (I : ow_I) : Int32 × ow_I :=
  lt (M_lacksBarrel m b I) (fun (r1 : Bool × ow_I) => if r1.1 then (nI 0, r1.2) else (M_ofBarrel m (tn b) 11 r1.2, r1.2))
def M_buyerOf (m : Nat) (b : Int32) (I : ow_I) : Int32 × ow_I :=
  lt (M_lacksBarrel m b I) (fun (r1 : Bool × ow_I) => if r1.1 then (nI 0, r1.2) else (M_ofBarrel m (tn b) 13 r1.2, r1.2))
def M_priceOf (m : Nat) (b : Int32) (I : ow_I) : Int32 × ow_I :=
  lt (M_lacksBarrel m b I) (fun (r1 : Bool × ow_I) => if r1.1 then (nI 0, r1.2) else (M_ofBarrel m (tn b) 14 r1.2, r1.2))
def M_totalLength (m : Nat) (b : Int32) (I : ow_I) : Int32 × ow_I :=
  lt (M_lacksBarrel m b I) (fun (r1 : Bool × ow_I) => if r1.1 then (nI 0, r1.2) else (M_totalOf m (tn b) r1.2, r1.2))
def M_greatestLength (m : Nat) (b : Int32) (I : ow_I) : Int32 × ow_I :=
  lt (M_lacksBarrel m b I) (fun (r1 : Bool × ow_I) => if r1.1 then (nI 0, r1.2) else (M_greatestOf m (tn b) r1.2, r1.2))
def M_middleLength (m : Nat) (b : Int32) (I : ow_I) : Int32 × ow_I :=
  lt (M_lacksBarrel m b I) (fun (r1 : Bool × ow_I) => if r1.1 then (nI 0, r1.2) else (M_middleOf m (tn b) r1.2, r1.2))
def M_length (m : Nat) (b : Int32) (e : Int32) (I : ow_I) : Int32 × ow_I :=
  lt (M_lacksBarrel m b I) (fun (r1 : Bool × ow_I) => if r1.1 then (nI 0, r1.2) else if M_in e (nI 0) (M_ofBarrel m (tn b) 0 r1.2 - (nI 1)) r1.2 then (M_lengthOf m (tn b) (tn e) r1.2, r1.2) else lt (ow_u r1.2 m 18 (nI 1)) (fun (I2 : ow_I) => (nI 0, I2)))
def M_pricePerLength (m : Nat) (b : Int32) (I : ow_I) : UInt32 × ow_I :=
  lt (M_lacksBarrel m b I) (fun (r1 : Bool × ow_I) => if r1.1 then (FP.fconst0, r1.2) else if M_ofBarrel m (tn b) 12 r1.2 = nI 2 then (FP.fdiv (FP.i2f (M_ofBarrel m (tn b) 14 r1.2)) (FP.i2f (M_totalOf m (tn b) r1.2)), r1.2) else (FP.fconst0, r1.2))
def M_purse (m : Nat) (b : Int32) (I : ow_I) : Int32 × ow_I :=
  lt (M_lacksBuyer m b I) (fun (r1 : Bool × ow_I) => if r1.1 then (nI 0, r1.2) else (M_of m (tn b) 0 r1.2, r1.2))
def M_style (m : Nat) (b : Int32) (I : ow_I) : Int32 × ow_I :=
  lt (M_lacksBuyer m b I) (fun (r1 : Bool × ow_I) => if r1.1 then (nI 0, r1.2) else (M_of m (tn b) 1 r1.2, r1.2))
def M_factor (m : Nat) (b : Int32) (I : ow_I) : Int32 × ow_I :=
  lt (M_lacksBuyer m b I) (fun (r1 : Bool × ow_I) => if r1.1 then (nI 0, r1.2) else (M_of m (tn b) 2 r1.2, r1.2))
def M_bought (m : Nat) (b : Int32) (I : ow_I) : Int32 × ow_I :=
  lt (M_lacksBuyer m b I) (fun (r1 : Bool × ow_I) => if r1.1 then (nI 0, r1.2) else (M_of m (tn b) 3 r1.2, r1.2))
def M_nods (m : Nat) (b : Int32) (I : ow_I) : Int32 × ow_I :=
  lt (M_lacksBuyer m b I) (fun (r1 : Bool × ow_I) => if r1.1 then (nI 0, r1.2) else (M_of m (tn b) 4 r1.2, r1.2))
def M_worth (m : Nat) (b : Int32) (k : Int32) (I : ow_I) : UInt64 × ow_I :=
  lt (M_lacksBuyer m b I) (fun (r1 : Bool × ow_I) => if r1.1 then (FP.dconst0, r1.2) else lt (M_lacksBarrel m k r1.2) (fun (r2 : Bool × ow_I) => if r2.1 then (FP.dconst0, r2.2) else (M_worthTo m (tn b) (tn k) r2.2, r2.2)))
def M_endTrial (m : Nat) (x : Int32) (I : ow_I) : Int32 × ow_I :=
  lt (M_copyBlock m 12 0 I) (fun (I1 : ow_I) => (x, I1))
def M_whyNotNod (m : Nat) (b : Int32) (I : ow_I) : Int32 × ow_I :=
  lt (M_lacksBuyer m b I) (fun (r1 : Bool × ow_I) => if r1.1 then (nI 0, r1.2) else (M_reasonAgainst m (tn b) r1.2, r1.2))
def M_costOf (m : Nat) (p : Int32) (I : ow_I) : Int32 × ow_I :=
  lt (ow_u I m 18 (nI 0)) (fun (I1 : ow_I) => if M_in p (nI 0) (nI 9999) I1 then (M_costOfPrice m p I1, I1) else lt (ow_u I1 m 18 (nI 1)) (fun (I2 : ow_I) => (nI 0, I2)))
def M_nextNodder (m : Nat) (I : ow_I) : Int32 × ow_I :=
  lt (ow_u I m 18 (nI 0)) (fun (I1 : ow_I) => (M_thinker m I1, I1))
def M_keenestBuyer_L14 (m : Nat) (b : Int32) : Nat → ow_I → Nat → Nat → Nat × ow_I
  | 0, I, _, _ => (default, I)
  | n + 1, I, k, i => if tn (I (m + 1) 6) ≤ i then (k, I) else if Op.cmpValue (FP.dcmp (M_worthTo m i (tn b) I) (M_worthTo m k (tn b) I)) .l ≤ 0 then M_keenestBuyer_L14 m b n I k (i + 1) else M_keenestBuyer_L14 m b n I i (i + 1)
def M_keenestBuyer (m : Nat) (b : Int32) (I : ow_I) : Nat × ow_I :=
  lt (M_lacksBarrel m b I) (fun (r1 : Bool × ow_I) => if r1.1 then (0, r1.2) else M_keenestBuyer_L14 m b 7 r1.2 0 1)
def M_minutesToSale_L19 (m : Nat) (b : Int32) : Nat → ow_I → Nat → Int32 × ow_I
  | 0, I, _ => (default, I)
  | n + 1, I, i => if M_ofBarrel m (tn b) 12 I = nI 2 then if M_ofBarrel m (tn b) 12 I = nI 2 then lt (M_endTrial m (nI i) I) (fun (r4 : Int32 × ow_I) => (r4.1, r4.2)) else lt (M_endTrial m ((-1)) I) (fun (r3 : Int32 × ow_I) => (r3.1, r3.2)) else if 500 ≤ i then if M_ofBarrel m (tn b) 12 I = nI 2 then lt (M_endTrial m (nI i) I) (fun (r6 : Int32 × ow_I) => (r6.1, r6.2)) else lt (M_endTrial m ((-1)) I) (fun (r5 : Int32 × ow_I) => (r5.1, r5.2)) else lt (M_passOne m I) (fun (I7 : ow_I) => M_minutesToSale_L19 m b n I7 (i + 1))
def M_minutesToSale (m : Nat) (b : Int32) (I : ow_I) : Int32 × ow_I :=
  lt (M_lacksBarrel m b I) (fun (r1 : Bool × ow_I) => if r1.1 then (nI 0, r1.2) else lt (M_copyBlock m 0 12 r1.2) (fun (I2 : ow_I) => M_minutesToSale_L19 m b 501 I2 0))
def M_buyerAfter (m : Nat) (b : Int32) (n2 : Int32) (I : ow_I) : Int32 × ow_I :=
  lt (M_lacksBarrel m b I) (fun (r1 : Bool × ow_I) => if r1.1 then (nI 0, r1.2) else if M_in n2 (nI 0) (nI 500) r1.2 then lt (M_copyBlock m 0 12 r1.2) (fun (I2 : ow_I) => lt (M_passAll m (tn n2) I2) (fun (r3 : Int32 × ow_I) => lt (M_endTrial m (M_ofBarrel m (tn b) 13 r3.2) r3.2) (fun (r4 : Int32 × ow_I) => (r4.1, r4.2)))) else lt (ow_u r1.2 m 18 (nI 2)) (fun (I5 : ow_I) => (nI 0, I5)))
def M_coinsWith (m : Nat) (s : Int32) (n2 : Nat) (I : ow_I) : Int32 × ow_I :=
  lt (M_copyBlock m 0 12 I) (fun (I1 : ow_I) => lt (ow_u I1 (m + 1) 3 s) (fun (I2 : ow_I) => lt (M_passAll m n2 I2) (fun (r3 : Int32 × ow_I) => lt (M_endTrial m (r3.2 (m + 1) 13) r3.2) (fun (r4 : Int32 × ow_I) => (r4.1, r4.2)))))
def M_sellerCoinsAfter (m : Nat) (n2 : Int32) (I : ow_I) : Int32 × ow_I :=
  lt (ow_u I m 18 (nI 0)) (fun (I1 : ow_I) => if M_in n2 (nI 0) (nI 500) I1 then lt (M_coinsWith m (I1 (m + 1) 3) (tn n2) I1) (fun (r2 : Int32 × ow_I) => (r2.1, r2.2)) else lt (ow_u I1 m 18 (nI 1)) (fun (I3 : ow_I) => (nI 0, I3)))
end
section
theorem V_coins {m n : Nat} {s : Int32} {I : ow_I} (hv : md_V (I (m + 1))) : md_V ((M_coinsWith m s n I).2 (m + 1)) := by
  have hc : md_V (M_copyBlock m 0 12 I (m + 1)) := V_cb hv (by decide)
  have hf := F_t (F_0 (m := m) (x := s) (I := M_copyBlock m 0 12 I) rfl) (F_passAll (n := n) (V_row hc s (Or.inr (Or.inr rfl))))
  simp only [M_coinsWith, M_endTrial, lt_eq]
  refine V_blk hv (fun k hk => ?_)
  rw [cb_cells (by omega), if_pos (by omega), hf.2 _ (by omega), cb_cells (by omega), if_pos (by omega)]
  rw [show 370 * 0 + (370 * 12 + (k - 370 * 0) - 370 * 12) = k by omega]
end
section
def M_bestStep_L38 (m : Nat) (n2 : Int32) : Nat → ow_I → Int32 → Int32 → Nat → Int32 × ow_I
  | 0, I, _, _, _ => (default, I)
  | n + 1, I, b, t, s => if 50 < s then (b, I) else lt (M_coinsWith m (nI s) (tn n2) I) (fun (r2 : Int32 × ow_I) => if t < r2.1 then M_bestStep_L38 m n2 n r2.2 (nI s) r2.1 (s + 1) else M_bestStep_L38 m n2 n r2.2 b t (s + 1))
def M_bestStep (m : Nat) (n2 : Int32) (I : ow_I) : Int32 × ow_I :=
  lt (ow_u I m 18 (nI 0)) (fun (I1 : ow_I) => if M_in n2 (nI 0) (nI 500) I1 then M_bestStep_L38 m n2 51 I1 (nI 0) ((-1)) 1 else lt (ow_u I1 m 18 (nI 1)) (fun (I3 : ow_I) => (nI 0, I3)))
def M_coinError_L23 (m : Nat) : Nat → ow_I → Int32 → Nat → Int32 × ow_I
  | 0, I, _, _ => (default, I)
  | n + 1, I, c, i => if tn (I (m + 1) 6) ≤ i then (I (m + 1) 15 - c, I) else M_coinError_L23 m n I (c + (M_of m i 0 I)) (i + 1)
def M_coinError (m : Nat) (I : ow_I) : Int32 × ow_I :=
  lt (ow_u I m 18 (nI 0)) (fun (I1 : ow_I) => M_coinError_L23 m 7 I1 (I1 (m + 1) 13 + (I1 (m + 1) 14)) 0)
def M_meanLength_L11 (m : Nat) : Nat → ow_I → Int32 → Int32 → Nat → UInt64 × ow_I
  | 0, I, _, _, _ => (default, I)
  | n + 1, I, e, s, i => if tn (I (m + 1) 7) ≤ i then if e = 0 then (FP.dconst0, I) else (FP.ddiv (FP.i2d s) (FP.i2d e), I) else M_meanLength_L11 m n I (e + (M_ofBarrel m i 0 I)) (s + (M_totalOf m i I)) (i + 1)
def M_meanLength (m : Nat) (I : ow_I) : UInt64 × ow_I :=
  lt (ow_u I m 18 (nI 0)) (fun (I1 : ow_I) => M_meanLength_L11 m 21 I1 (nI 0) (nI 0) 0)
def M_soldShare (m : Nat) (I : ow_I) : UInt32 × ow_I :=
  lt (ow_u I m 18 (nI 0)) (fun (I1 : ow_I) => if I1 (m + 1) 7 = 0 then (FP.fconst0, I1) else (FP.fdiv (FP.i2f (M_countState m (nI 2) I1)) (FP.i2f (I1 (m + 1) 7)), I1))
end
section
def M_nod (m : Nat) (b : Int32) (I : ow_I) : Int32 × ow_I :=
  lt (M_lacksBuyer m b I) (fun (r1 : Bool × ow_I) => if r1.1 then (nI 0, r1.2) else if M_reasonAgainst m (tn b) r1.2 ≤ 0 then lt (M_keep m 0 r1.2) (fun (I2 : ow_I) => lt (M_nodNow m (tn b) I2) (fun (r3 : Int32 × ow_I) => (r3.1, r3.2))) else lt (ow_u r1.2 m 18 (nI 2)) (fun (I4 : ow_I) => (nI 0, I4)))
def M_passMinutes (m : Nat) (n2 : Int32) (I : ow_I) : Int32 × ow_I :=
  lt (ow_u I m 18 (nI 0)) (fun (I1 : ow_I) => if M_in n2 (nI 1) (nI 200) I1 then lt (M_keep m 0 I1) (fun (I2 : ow_I) => lt (M_passAll m (tn n2) I2) (fun (r3 : Int32 × ow_I) => (r3.1, r3.2))) else lt (ow_u I1 m 18 (nI 1)) (fun (I4 : ow_I) => (nI 0, I4)))
def M_addBarrel_L95 (m : Nat) (r : Int32) (e : Int32) (x : Int32) : Nat → ow_I → Nat → Nat → Nat × ow_I
  | 0, I, _, _ => (default, I)
  | n + 1, I, b, i => if tn e ≤ i then (b, I) else lt (M_addEel m b x I) (fun (I6 : ow_I) => M_addBarrel_L95 m r e x n I6 b (i + 1))
def M_addBarrel (m : Nat) (r : Int32) (e : Int32) (x : Int32) (I : ow_I) : Nat × ow_I :=
  lt (ow_u I m 18 (nI 0)) (fun (I1 : ow_I) => if M_in r (nI 1) (nI 999) I1 then if M_in e (nI 1) (nI 9) I1 then if M_in x (nI 10) (nI 150) I1 then if I1 (m + 1) 7 = nI 20 then lt (ow_u I1 m 18 (nI 2)) (fun (I7 : ow_I) => (0, I7)) else lt (M_keep m 0 I1) (fun (I4 : ow_I) => lt (M_newBarrel m r I4) (fun (r5 : Nat × ow_I) => M_addBarrel_L95 m r e x 10 r5.2 r5.1 0)) else lt (ow_u I1 m 18 (nI 1)) (fun (I8 : ow_I) => (0, I8)) else lt (ow_u I1 m 18 (nI 1)) (fun (I3 : ow_I) => (0, I3)) else lt (ow_u I1 m 18 (nI 1)) (fun (I2 : ow_I) => (0, I2)))
def M_split (m : Nat) (b : Int32) (e : Int32) (I : ow_I) : Nat × ow_I :=
  lt (M_lacksBarrel m b I) (fun (r1 : Bool × ow_I) => if r1.1 then (0, r1.2) else if M_in e (nI 1) (nI 8) r1.2 then if M_canSplit m (tn b) (tn e) r1.2 then lt (M_keep m 0 r1.2) (fun (I2 : ow_I) => lt (M_splitNow m (tn b) (tn e) I2) (fun (r3 : Nat × ow_I) => (r3.1, r3.2))) else lt (ow_u r1.2 m 18 (nI 3)) (fun (I4 : ow_I) => (0, I4)) else lt (ow_u r1.2 m 18 (nI 2)) (fun (I5 : ow_I) => (0, I5)))
end
section
theorem aw5 {m : Nat} {a : Int32} {I : ow_I} (h0 : 0 ≤ I m 5) (h : tn (I m 5) ≤ 480) : 0 ≤ M_appendWord m a I m 5 ∧ tn (M_appendWord m a I m 5) = tn (I m 5) + 4 := aw_5 h0 (by omega)
theorem aw5b {m : Nat} {a b : Int32} {I : ow_I} (h0 : 0 ≤ I m 5) (h : tn (I m 5) ≤ 480) : 0 ≤ M_appendWord m b (M_appendWord m a I) m 5 ∧ tn (M_appendWord m b (M_appendWord m a I) m 5) = tn (I m 5) + 8 := by
  have r := aw5 (a := a) h0 h
  have s := aw_5 (w := b) r.1 (by omega)
  exact ⟨s.1, by omega⟩
theorem aw5c {m : Nat} {a b c : Int32} {I : ow_I} (h0 : 0 ≤ I m 5) (h : tn (I m 5) ≤ 480) : 0 ≤ M_appendWord m c (M_appendWord m b (M_appendWord m a I)) m 5 ∧ tn (M_appendWord m c (M_appendWord m b (M_appendWord m a I)) m 5) = tn (I m 5) + 12 := by
  have r := aw5b (a := a) (b := b) h0 h
  have s := aw_5 (w := c) r.1 (by omega)
  exact ⟨s.1, by omega⟩
theorem aw5d {m : Nat} {a b c d : Int32} {I : ow_I} (h0 : 0 ≤ I m 5) (h : tn (I m 5) ≤ 480) : 0 ≤ M_appendWord m d (M_appendWord m c (M_appendWord m b (M_appendWord m a I))) m 5 ∧ tn (M_appendWord m d (M_appendWord m c (M_appendWord m b (M_appendWord m a I))) m 5) = tn (I m 5) + 16 := by
  have r := aw5c (a := a) (b := b) (c := c) h0 h
  have s := aw_5 (w := d) r.1 (by omega)
  exact ⟨s.1, by omega⟩
def M_withdraw (m : Nat) (b : Int32) (I : ow_I) : Int32 × ow_I :=
  lt (M_lacksBarrel m b I) (fun (r1 : Bool × ow_I) => if r1.1 then (nI 0, r1.2) else if M_isWaiting m (tn b) r1.2 then lt (M_keep m 0 r1.2) (fun (I2 : ow_I) => lt (M_withdrawNow m (tn b) I2) (fun (r3 : Int32 × ow_I) => (r3.1, r3.2))) else lt (ow_u r1.2 m 18 (nI 2)) (fun (I4 : ow_I) => (nI 0, I4)))
def M_fund (m : Nat) (b : Int32) (x : Int32) (I : ow_I) : Int32 × ow_I :=
  lt (M_lacksBuyer m b I) (fun (r1 : Bool × ow_I) => if r1.1 then (nI 0, r1.2) else if M_in x (nI 1) (nI 9999) r1.2 then lt (M_keep m 0 r1.2) (fun (I2 : ow_I) => lt (M_fundNow m (tn b) x I2) (fun (r3 : Int32 × ow_I) => (r3.1, r3.2))) else lt (ow_u r1.2 m 18 (nI 2)) (fun (I4 : ow_I) => (nI 0, I4)))
def M_setReserve (m : Nat) (b : Int32) (r : Int32) (I : ow_I) : Int32 × ow_I :=
  lt (M_lacksBarrel m b I) (fun (r1 : Bool × ow_I) => if r1.1 then (nI 0, r1.2) else if M_in r (nI 1) (nI 999) r1.2 then if M_isWaiting m (tn b) r1.2 then lt (M_keep m 0 r1.2) (fun (I2 : ow_I) => lt (M_putBarrel m (tn b) 10 r I2) (fun (I3 : ow_I) => (M_ofBarrel m (tn b) 10 I2, I3))) else lt (ow_u r1.2 m 18 (nI 3)) (fun (I4 : ow_I) => (nI 0, I4)) else lt (ow_u r1.2 m 18 (nI 2)) (fun (I5 : ow_I) => (nI 0, I5)))
def M_setStep (m : Nat) (s : Int32) (I : ow_I) : Int32 × ow_I :=
  lt (ow_u I m 18 (nI 0)) (fun (I1 : ow_I) => if M_in s (nI 1) (nI 50) I1 then lt (M_keep m 0 I1) (fun (I2 : ow_I) => lt (ow_u I2 (m + 1) 3 s) (fun (I3 : ow_I) => (I2 (m + 1) 3, I3))) else lt (ow_u I1 m 18 (nI 1)) (fun (I4 : ow_I) => (nI 0, I4)))
def M_setTaste (m : Nat) (b : Int32) (s : Int32) (f : Int32) (I : ow_I) : Int32 × ow_I :=
  lt (M_lacksBuyer m b I) (fun (r1 : Bool × ow_I) => if r1.1 then (nI 0, r1.2) else if M_in s (nI 0) (nI 4) r1.2 then if M_in f (nI 1) (nI 999) r1.2 then lt (M_keep m 0 r1.2) (fun (I3 : ow_I) => lt (M_put m (tn b) 1 s I3) (fun (I4 : ow_I) => lt (M_put m (tn b) 2 f I4) (fun (I5 : ow_I) => (M_of m (tn b) 1 I3, I5)))) else lt (ow_u r1.2 m 18 (nI 2)) (fun (I6 : ow_I) => (nI 0, I6)) else lt (ow_u r1.2 m 18 (nI 2)) (fun (I2 : ow_I) => (nI 0, I2)))
def M_undo (m : Nat) (I : ow_I) : Int32 × ow_I :=
  lt (ow_u I m 18 (nI 0)) (fun (I1 : ow_I) => if tn (I m 2) = 0 then lt (ow_u I1 m 18 (nI 1)) (fun (I4 : ow_I) => (nI 0, I4)) else lt (ow_u I1 m 2 (nI ((tn (I m 2)) - 1))) (fun (I2 : ow_I) => lt (M_copyBlock m (1 + ((tn (I m 1) + (tn (I m 2) - 1)) % 8)) 0 I2) (fun (I3 : ow_I) => (I3 m 2, I3))))
def M_saveSnapshot (m : Nat) (s : Int32) (I : ow_I) : ow_I :=
  lt (ow_u I m 18 (nI 0)) (fun (I1 : ow_I) => if M_in s (nI 0) (nI 1) I1 then lt (M_copyBlock m 0 (9 + (tn s)) I1) (fun (I2 : ow_I) => lt (ow_u I2 (m + 2) (tn s) (((nI 1) &&& 1))) (fun (I3 : ow_I) => I3)) else lt (ow_u I1 m 18 (nI 1)) (fun (I4 : ow_I) => I4))
def M_restoreSnapshot (m : Nat) (s : Int32) (I : ow_I) : Int32 × ow_I :=
  lt (ow_u I m 18 (nI 0)) (fun (I1 : ow_I) => if M_in s (nI 0) (nI 1) I1 then if I1 (m + 2) (tn s) = 0 then lt (ow_u I1 m 18 (nI 2)) (fun (I4 : ow_I) => (nI 0, I4)) else lt (M_keep m 0 I1) (fun (I2 : ow_I) => lt (M_copyBlock m (9 + (tn s)) 0 I2) (fun (I3 : ow_I) => (I3 (m + 1) 5, I3))) else lt (ow_u I1 m 18 (nI 1)) (fun (I5 : ow_I) => (nI 0, I5)))
def M_append (m : Nat) (a : Int32) (b : Int32) (c : Int32) (d : Int32) (e : Int32) (I : ow_I) : Int32 × ow_I :=
  lt (ow_u I m 18 (nI 0)) (fun (I1 : ow_I) => if tn (I m 5) + 20 ≤ 500 then lt (M_appendWord m a I1) (fun (I2 : ow_I) => lt (M_appendWord m b I2) (fun (I3 : ow_I) => lt (M_appendWord m c I3) (fun (I4 : ow_I) => lt (M_appendWord m d I4) (fun (I5 : ow_I) => lt (M_appendWord m e I5) (fun (I6 : ow_I) => (I6 m 5, I6)))))) else lt (ow_u I1 m 18 (nI 1)) (fun (I7 : ow_I) => (nI 0, I7)))
def M_truncate (m : Nat) (t : Int32) (I : ow_I) : Int32 × ow_I :=
  lt (ow_u I m 18 (nI 0)) (fun (I1 : ow_I) => if M_in t (nI 0) (I1 m 5) I1 then lt (ow_u I1 m 5 t) (fun (I2 : ow_I) => (I2 m 5, I2)) else lt (ow_u I1 m 18 (nI 1)) (fun (I3 : ow_I) => (nI 0, I3)))
end
section
def M_outputByte (m : Nat) (i : Int32) (I : ow_I) : Int32 × ow_I :=
  lt (ow_u I m 18 (nI 0)) (fun (I1 : ow_I) => if i < 0 then ((-1), I1) else if I1 m 17 ≤ i then ((-1), I1) else (I1 (m + 6) (tn i), I1))
def M_emit (m : Nat) (x : Int32) (I : ow_I) : ow_I :=
  lt (ow_u I (m + 6) (tn (I m 17)) x.toInt8.toInt32.toInt8.toInt32) (fun (I1 : ow_I) => lt (ow_u I1 m 17 (I1 m 17 + (nI 1))) (fun (I2 : ow_I) => I2))
end
section
theorem em_17 {m : Nat} {x : Int32} {I : ow_I} (hw : 0 ≤ I m 17) (hwb : tn (I m 17) < 200) : 0 ≤ M_emit m x I m 17 ∧ tn (M_emit m x I m 17) = tn (I m 17) + 1 := by
  have e : M_emit m x I m 17 = I m 17 + nI 1 := by
    simp only [M_emit, lt_eq]
    rw [ow_u_s, rr_u (by omega)]
  rw [e]
  exact tn_inc hw (by omega)
theorem rr_em {m a : Nat} {x : Int32} {I : ow_I} (h : a ≠ m) (h6 : a ≠ m + 6) : M_emit m x I a = I a := by
  simp only [M_emit, lt_eq]
  rw [rr_u h, rr_u h6]
theorem fr_em {m k : Nat} {x : Int32} {I : ow_I} (h : k ≠ 17) : M_emit m x I m k = I m k := by
  simp only [M_emit, lt_eq]
  rw [ow_u_k _ _ _ _ h, rr_u (by omega)]

theorem pw_c {u c : Nat} (hu : u = if c = 0 then 0 else 10 ^ (c - 1)) (hc : c ≤ 10) : u < 2 ^ 31 ∧ (c = 0 ↔ u = 0) ∧ (1 ≤ c → u / 10 = if c - 1 = 0 then 0 else 10 ^ (c - 1 - 1)) := by
  rcases (show c = 0 ∨ c = 1 ∨ c = 2 ∨ c = 3 ∨ c = 4 ∨ c = 5 ∨ c = 6 ∨ c = 7 ∨ c = 8 ∨ c = 9 ∨ c = 10 by omega) with z | z | z | z | z | z | z | z | z | z | z <;> subst z <;> subst hu <;> decide
theorem pw_1 {u c : Nat} (hu : u = if c = 0 then 0 else 10 ^ (c - 1)) (hc : c ≤ 10) (h : ¬ nI u ≤ 0) : 1 ≤ c := by
  rcases Nat.eq_zero_or_pos c with z | z
  · have := (pw_c hu hc).2.1.1 z
    rw [this] at h
    exact absurd (by decide) h
  · exact z
theorem pw_u {u c : Nat} (hu : u = if c = 0 then 0 else 10 ^ (c - 1)) (hc : c ≤ 10) (h : 1 ≤ c) : ¬ nI u = 0 := fun z => by
  have p := pw_c hu hc
  rw [nI_z p.1] at z
  have := p.2.1.2 z
  omega
def M_emitNumber_L18 (m : Nat) (x : Int32) : Nat → ow_I → Nat → ow_I
  | 0, I, _ => I
  | n + 1, I, u => if nI u ≤ 0 then I else lt (M_emit m (nI 48 + ((x / (nI u)) - (x / (nI u)) / (nI 10) * (nI 10))) I) (fun (I1 : ow_I) => M_emitNumber_L18 m x n I1 (u / 10))
def M_emitNumber_L2 (m : Nat) (x : Int32) : Nat → ow_I → Nat → ow_I
  | 0, I, _ => I
  | n + 1, I, u => if x / (nI u) < nI 10 then M_emitNumber_L18 m x 11 I u else M_emitNumber_L2 m x n I (u * 10)
def M_emitNumber (m : Nat) (x : Int32) (I : ow_I) : ow_I :=
  M_emitNumber_L2 m x 10 I 1
end
section
theorem en_L18 {m : Nat} {x : Int32} : ∀ (n : Nat) (I : ow_I) (u c : Nat), (u = if c = 0 then 0 else 10 ^ (c - 1)) → c ≤ 10 → c < n → 0 ≤ I m 17 → tn (I m 17) + c ≤ 200 → 0 ≤ M_emitNumber_L18 m x n I u m 17 ∧ tn (M_emitNumber_L18 m x n I u m 17) = tn (I m 17) + c := by
  intro n
  induction n with
  | zero => intro I u c _ _ h; omega
  | succ n ih =>
    intro I u c hu hc hn hw hb
    simp only [M_emitNumber_L18, lt_eq]
    split
    · rename_i h
      have : c = 0 := by
        rcases Nat.eq_zero_or_pos c with z | z
        · exact z
        · exfalso
          have p := pw_c hu hc
          have hne : u ≠ 0 := fun y => by have := p.2.1.2 y; omega
          rw [Int32.le_iff_toInt_le, nI_toInt p.1] at h
          have z0 : (0 : Int32).toInt = 0 := by decide
          omega
      rw [this]
      exact ⟨hw, rfl⟩
    · rename_i h
      have h1 := pw_1 hu hc h
      have e := fun y => @em_17 m y I hw (by omega)
      have r := ih (M_emit m (nI 48 + (x / nI u - x / nI u / nI 10 * nI 10)) I) (u / 10) (c - 1) ((pw_c hu hc).2.2 h1) (by omega) (by omega) (e _).1 (by rw [(e _).2]; omega)
      rw [(e _).2] at r
      exact ⟨r.1, by omega⟩
theorem en_L2 {m : Nat} {x : Int32} : ∀ (n : Nat) (I : ow_I) (u d : Nat), u = 10 ^ d → d ≤ 9 → 9 - d < n → (d = 0 ∨ ((10 ^ d : Nat) : Int) ≤ x.toInt) → ∃ e, e ≤ 9 ∧ (e = 0 ∨ ((10 ^ e : Nat) : Int) ≤ x.toInt) ∧ M_emitNumber_L2 m x n I u = M_emitNumber_L18 m x 11 I (10 ^ e) := by
  intro n
  induction n with
  | zero => intro I u d _ _ h; omega
  | succ n ih =>
    intro I u d hu hd hn hx
    simp only [M_emitNumber_L2]
    split
    · exact ⟨d, hd, hx, by rw [hu]⟩
    · rename_i h
      have g := dig_8 hd (by rw [← hu]; exact i_nlt h)
      exact ih I (u * 10) (d + 1) (by rw [hu]; rfl) (by omega) (by omega) (Or.inr (by have := g.1; rw [show (((10 : Nat) : Int) ^ (d + 1)) = ((10 ^ (d + 1) : Nat) : Int) by norm_cast] at this; exact this))
theorem en_17 {m D : Nat} {x : Int32} {I : ow_I} (hx : x.toInt < ((10 ^ D : Nat) : Int)) (hD : 1 ≤ D ∧ D ≤ 10) (hw : 0 ≤ I m 17) (hb : tn (I m 17) + 10 ≤ 200) : 0 ≤ M_emitNumber m x I m 17 ∧ tn (M_emitNumber m x I m 17) ≤ tn (I m 17) + D := by
  obtain ⟨e, he, hx2, heq⟩ := en_L2 (m := m) (x := x) 10 I 1 0 rfl (by omega) (by omega) (Or.inl rfl)
  have r := en_L18 (m := m) (x := x) 11 I (10 ^ e) (e + 1) (by rfl) (by omega) (by omega) hw (by omega)
  rw [← heq] at r
  refine ⟨r.1, ?_⟩
  have : tn (M_emitNumber m x I m 17) = tn (I m 17) + (e + 1) := r.2
  rw [this]
  rcases Nat.lt_or_ge e D with z | z
  · omega
  · exfalso
    rcases hx2 with y | y
    · omega
    · have := Nat.pow_le_pow_right (show 0 < 10 by omega) z
      omega
theorem rr_enL18 {m a : Nat} {x : Int32} (h : a ≠ m) (h6 : a ≠ m + 6) : ∀ (n : Nat) (I : ow_I) (u : Nat), M_emitNumber_L18 m x n I u a = I a := by
  intro n
  induction n with
  | zero => intro I u; rfl
  | succ n ih =>
    intro I u
    simp only [M_emitNumber_L18, lt_eq]
    split
    · rfl
    · rw [ih, rr_em h h6]
theorem rr_enL2 {m a : Nat} {x : Int32} (h : a ≠ m) (h6 : a ≠ m + 6) : ∀ (n : Nat) (I : ow_I) (u : Nat), M_emitNumber_L2 m x n I u a = I a := by
  intro n
  induction n with
  | zero => intro I u; rfl
  | succ n ih =>
    intro I u
    simp only [M_emitNumber_L2]
    split
    · rw [rr_enL18 h h6]
    · rw [ih]
theorem rr_en {m a : Nat} {x : Int32} {I : ow_I} (h : a ≠ m) (h6 : a ≠ m + 6) : M_emitNumber m x I a = I a := rr_enL2 h h6 _ _ _
theorem i32_10 {x : Int32} : x.toInt < ((10 ^ 10 : Nat) : Int) := by
  have := Int32.toInt_lt x
  omega
end
section
theorem wb_E {m b : Nat} {x : Int32} {I : ow_I} (h : 0 ≤ M_ofBarrel m b 0 I ∧ tn (M_ofBarrel m b 0 I) ≤ 9) : 0 ≤ M_ofBarrel m b 0 (M_emitNumber m x I) ∧ tn (M_ofBarrel m b 0 (M_emitNumber m x I)) ≤ 9 := by
  have e : M_ofBarrel m b 0 (M_emitNumber m x I) = M_ofBarrel m b 0 I := by
    show M_emitNumber m x I (m + 1) _ = I (m + 1) _
    rw [rr_en (by omega) (by omega)]
  rw [e]
  exact h
theorem wb_E2 {m b : Nat} {x c : Int32} {I : ow_I} (h : 0 ≤ M_ofBarrel m b 0 I ∧ tn (M_ofBarrel m b 0 I) ≤ 9) : 0 ≤ M_ofBarrel m b 0 (M_emitNumber m x (M_emit m c I)) ∧ tn (M_ofBarrel m b 0 (M_emitNumber m x (M_emit m c I))) ≤ 9 := by
  have e : M_ofBarrel m b 0 (M_emitNumber m x (M_emit m c I)) = M_ofBarrel m b 0 I := by
    show M_emitNumber m x (M_emit m c I) (m + 1) _ = I (m + 1) _
    rw [rr_en (by omega) (by omega), rr_em (by omega) (by omega)]
  rw [e]
  exact h
theorem wb_1 {m : Nat} {x : Int32} {I : ow_I} (hw : 0 ≤ I m 17) (hb : tn (I m 17) + 10 ≤ 200) : 0 ≤ M_emitNumber m x I m 17 ∧ tn (M_emitNumber m x I m 17) ≤ tn (I m 17) + 10 := en_17 i32_10 (by decide) hw hb
theorem wb_2 {m : Nat} {x c : Int32} {I : ow_I} (hw : 0 ≤ I m 17) (hb : tn (I m 17) + 11 ≤ 200) : 0 ≤ M_emitNumber m x (M_emit m c I) m 17 ∧ tn (M_emitNumber m x (M_emit m c I) m 17) ≤ tn (I m 17) + 11 := by
  have e := @em_17 m c I hw (by omega)
  have r := @wb_1 m x (M_emit m c I) e.1 (by rw [e.2]; omega)
  exact ⟨r.1, by omega⟩
theorem wq_1 {m k : Nat} {I : ow_I} (hk : k < 20) (hw : 0 ≤ I m 17) (hb : tn (I m 17) + 10 ≤ 200) : 0 ≤ M_emitNumber m (nI k) I m 17 ∧ tn (M_emitNumber m (nI k) I m 17) ≤ tn (I m 17) + 2 := en_17 (D := 2) (by rw [nI_toInt (by omega)]; omega) (by decide) hw hb
theorem wq_2 {m k : Nat} {c : Int32} {I : ow_I} (hk : k < 20) (hw : 0 ≤ I m 17) (hb : tn (I m 17) + 11 ≤ 200) : 0 ≤ M_emitNumber m (nI k) (M_emit m c I) m 17 ∧ tn (M_emitNumber m (nI k) (M_emit m c I) m 17) ≤ tn (I m 17) + 3 := by
  have e := @em_17 m c I hw (by omega)
  have r := @wq_1 m k (M_emit m c I) hk e.1 (by rw [e.2]; omega)
  exact ⟨r.1, by omega⟩
def M_writeBarrel_L17 (m : Nat) (b : Int32) : Nat → ow_I → Nat → Int32 × ow_I
  | 0, I, _ => (default, I)
  | n + 1, I, e => if tn (M_ofBarrel m (tn b) 0 I) ≤ e then if M_ofBarrel m (tn b) 12 I = nI (1 + 0) then lt (M_emit m (nI 63) I) (fun (I3 : ow_I) => (I3 m 17, I3)) else if M_ofBarrel m (tn b) 12 I = nI (1 + 1) then lt (M_emit m (nI 61) I) (fun (I4 : ow_I) => lt (M_emitNumber m (M_ofBarrel m (tn b) 14 I4) I4) (fun (I5 : ow_I) => (I5 m 17, I5))) else if M_ofBarrel m (tn b) 12 I = nI (1 + 2) then lt (M_emit m (nI 120) I) (fun (I6 : ow_I) => (I6 m 17, I6)) else (I m 17, I) else if nI e ≤ 0 then lt (M_emitNumber m (M_lengthOf m (tn b) e I) I) (fun (I7 : ow_I) => M_writeBarrel_L17 m b n I7 (e + 1)) else lt (M_emit m (nI 44) I) (fun (I8 : ow_I) => lt (M_emitNumber m (M_lengthOf m (tn b) e I8) I8) (fun (I9 : ow_I) => M_writeBarrel_L17 m b n I9 (e + 1)))
def M_writeBarrel (m : Nat) (b : Int32) (I : ow_I) : Int32 × ow_I :=
  lt (M_lacksBarrel m b I) (fun (r1 : Bool × ow_I) => if r1.1 then (nI 0, r1.2) else lt (ow_u r1.2 m 17 (nI 0)) (fun (I2 : ow_I) => M_writeBarrel_L17 m b 10 I2 0))
end
section
theorem wq_x {m : Nat} {x : Int32} {I : ow_I} (hx : 0 ≤ x ∧ tn x < 20) (hw : 0 ≤ I m 17) (hb : tn (I m 17) + 10 ≤ 200) : 0 ≤ M_emitNumber m x I m 17 ∧ tn (M_emitNumber m x I m 17) ≤ tn (I m 17) + 2 := by
  have r := @wq_1 m (tn x) I hx.2 hw hb
  rw [nI_tn hx.1] at r
  exact r
theorem wq_y {m : Nat} {x c : Int32} {I : ow_I} (hx : 0 ≤ x ∧ tn x < 20) (hw : 0 ≤ I m 17) (hb : tn (I m 17) + 11 ≤ 200) : 0 ≤ M_emitNumber m x (M_emit m c I) m 17 ∧ tn (M_emitNumber m x (M_emit m c I) m 17) ≤ tn (I m 17) + 3 := by
  have r := @wq_2 m (tn x) c I hx.2 hw hb
  rw [nI_tn hx.1] at r
  exact r
theorem wq_q {A : Nat → Int32} (hv : md_V A) {i : Nat} (h : i < tn (A 12)) : 0 ≤ A (16 + i) ∧ tn (A (16 + i)) < 20 := by
  have q := hv.2.2.2.2.2.2.1 i h
  have := hv.2.2.1
  exact ⟨q.1, by omega⟩
def M_writeQueue_L12 (m : Nat) : Nat → ow_I → Nat → Int32 × ow_I
  | 0, I, _ => (default, I)
  | n + 1, I, i => if tn (I (m + 1) 12) ≤ i then (I m 17, I) else if nI i ≤ 0 then lt (M_emitNumber m (I (m + 1) (16 + i)) I) (fun (I3 : ow_I) => M_writeQueue_L12 m n I3 (i + 1)) else lt (M_emit m (nI 44) I) (fun (I4 : ow_I) => lt (M_emitNumber m (I4 (m + 1) (16 + i)) I4) (fun (I5 : ow_I) => M_writeQueue_L12 m n I5 (i + 1)))
def M_writeQueue (m : Nat) (I : ow_I) : Int32 × ow_I :=
  lt (ow_u I m 18 (nI 0)) (fun (I1 : ow_I) => lt (ow_u I1 m 17 (nI 0)) (fun (I2 : ow_I) => M_writeQueue_L12 m 21 I2 0))
def M_minutesToHorn_L7 (m : Nat) : Nat → ow_I → Nat → Int32 × ow_I
  | 0, I, _ => (default, I)
  | n + 1, I, i => if tn (I (m + 1) 0) < i then ((-1), I) else if M_blowsIn m (I (m + 1) 5 + (nI i)) I then (nI i, I) else M_minutesToHorn_L7 m n I (i + 1)
def M_minutesToHorn (m : Nat) (I : ow_I) : Int32 × ow_I :=
  lt (ow_u I m 18 (nI 0)) (fun (I1 : ow_I) => M_minutesToHorn_L7 m 61 I1 1)
end
end
section
/-! ROWS: a run of an int array copied, an array's length, references answered -/
def ow_cp (I : ow_I) (a0 a n : Nat) : ow_I := fun b j => if b = a ∧ j < n then I a0 j else I b j
theorem ow_cp_in {I : ow_I} {a0 a n j : Nat} (h : j < n) : ow_cp I a0 a n a j = I a0 j := by simp [ow_cp, h]
theorem ow_cp_a {I : ow_I} {a0 a n b : Nat} (h : b ≠ a) : ow_cp I a0 a n b = I b := by funext j; simp [ow_cp, h]
theorem ow_cp_o {I : ow_I} {a0 a n j : Nat} (h : n ≤ j) (b : Nat) : ow_cp I a0 a n b j = I b j := by
  unfold ow_cp
  rw [if_neg (by omega)]
section RG
variable {X : ow_X} {cs sl : Nat} {S : Nat → Option ow_Sh} {I : ow_I} {V : Nat → Nat → Value} {z : Nat} {pc : Nat} {lv : List (Nat × Value)} {st : List Value} {own : String} {cc : ByteArray} {nL : Nat} {R0 : Room}
def ow_lc (own : String) (idx : Nat) : Prop := Cond.methodLink own idx arraycopyName ∈ ow_T ∧ Cond.native arraycopyName ∈ ow_T ∧ Cond.static arraycopyName ∈ ow_T ∧ Cond.initialized "java/lang/System" ∈ ow_T
theorem or_acopy {idx n a0 a n0 n1 : Nat} {κ0 κ1 : Nat → Option (Option Value)} (E : ow_E X own cc nL R0) (L : ow_lc own idx) (d : decode cc pc = .ok (.invokestatic idx, 3)) (hS0 : S a0 = some (.inr (.int, n0, κ0))) (hS1 : S a = some (.inr (.int, n1, κ1))) (hk0 : ∀ j, j < n → κ0 j = none) (hk1 : ∀ j, j < n → κ1 j = none) (h0 : n ≤ n0) (h1 : n ≤ n1)
    (hRf : 1 ≤ R0.frames ∧ (st.map fun v => v.category).sum + (nativeFrameWords "java/lang/System" "arraycopy" 5 + 11) ≤ R0.locals) (hn : n < 2 ^ 31) (k : ow_W X cs sl (S, ow_cp I a0 a n, V, z) (pc + 3) lv st) : ow_W X cs sl (S, I, V, z) pc lv (.int (nI n) :: .int (nI 0) :: .ref a :: .int (nI 0) :: .ref a0 :: st) := by
  obtain ⟨p, l, e, R, s, m, args, below, meth, c, Q, D, A⟩ := X
  obtain ⟨hx, hb, hown, hts, hK, hA, hml, hR0⟩ := E
  obtain ⟨w1, w2, w3, w4⟩ := L
  intro H locs ls hR hD hSS hl
  subst hR0
  obtain ⟨c0, g0, t0, -⟩ := hR.1 a0 _ hS0
  obtain ⟨c1, g1, t1, r1⟩ := hR.1 a _ hS1
  intro T hT X
  obtain ⟨-, k0, hk0', cm0, hkk0⟩ := t0 n0 (fun j => ow_v (κ0 j) (I a0 j) (V a0 j))
  obtain ⟨-, k1, hk1', cm1, hkk1⟩ := t1 n1 (fun j => ow_v (κ1 j) (I a j) (V a j))
  have en : (nI n).toNatClampNeg = n := nI_clamp hn
  have e0 : (nI 0).toNatClampNeg = 0 := rfl
  have ei : (nI n).toInt = (n : Int) := nI_toInt hn
  have ez : (nI 0).toInt = 0 := by decide
  have g0' : H[a0]? = some (arrV c0 n0 (fun j => ow_v (κ0 j) (I a0 j) (V a0 j))) := g0
  have g1' : H[a]? = some (arrV c1 n1 (fun j => ow_v (κ1 j) (I a j) (V a j))) := g1
  obtain ⟨vm', X', step⟩ := X.arraycopy hx hown (hts _ w1) (hts _ w2) (hts _ w3) (hts _ w4) (src := a0) (dst := a) (srcPos := nI 0) (destPos := nI 0) (n := nI n) (by rw [hT]; exact g0') (by rw [hT]; exact g1')
    (fun _ h => by cases h) (fun _ h => by cases h) (fun h => by cases h) (fun h => by cases h) hk0' hk1' hkk0 hkk1 rfl (by decide) (by decide) (nI_pos hn)
    (by rw [ez, ei, arrV_size]; omega) (by rw [ez, ei, arrV_size]; omega)
    (fun vm₁ _ i hi => by
      rw [en] at hi
      have e : (arrV c0 n0 (fun j => ow_v (κ0 j) (I a0 j) (V a0 j))).slots.getD ((nI 0).toNatClampNeg + i) .null = .int (I a0 i) := by
        rw [Array.getD_eq_getD_getElem?, e0, Nat.zero_add, arrV_read _ _ (by omega), hk0 i hi]
        rfl
      rw [e]
      exact ⟨rfl, trivial⟩)
    (g := F0 m pc ls (.int (nI n) :: .int (nI 0) :: .ref a :: .int (nI 0) :: .ref a0 :: st)) rfl hl.1 (rest := st) rfl (by rw [hb]; exact d) hRf.1 (by have := hRf.2; show 2 * 0 + _ + _ ≤ _; omega)
  have e1 : copied (arrV c0 n0 (fun j => ow_v (κ0 j) (I a0 j) (V a0 j))) (arrV c1 n1 (fun j => ow_v (κ1 j) (I a j) (V a j))) (nI 0) (nI 0) (nI n) = arrV c1 n1 (fun j => ow_v (κ1 j) (ow_cp I a0 a n a j) (V a j)) := by
    refine Eq.trans (va_copied (fun v : Value => v) c0 c1 (sp := (nI 0).toNatClampNeg) (dp := (nI 0).toNatClampNeg) (n := (nI n).toNatClampNeg) _ _ (by rw [en, e0]; omega)) ?_
    congr 1
    funext j
    rw [en, e0]
    unfold va_cpy
    by_cases hj : j < n
    · rw [if_pos (by omega), Nat.zero_add, Nat.sub_zero]
      show ow_v (κ0 j) (I a0 j) (V a0 j) = _
      rw [hk0 j hj, hk1 j hj, ow_cp_in hj]
      rfl
    · rw [if_neg (by omega), ow_cp_o (by omega)]
  rw [e1] at X' step
  have hal : a < H.size := (Array.getElem?_eq_some_iff.mp g1').1
  have hheap : ((T.setVm vm').setCell a (arrV c1 n1 (fun j => ow_v (κ1 j) (ow_cp I a0 a n a j) (V a j)))).heap = H.setIfInBounds a (arrV c1 n1 (fun j => ow_v (κ1 j) (ow_cp I a0 a n a j) (V a j))) := by rw [← hT]; rfl
  have oq : ∀ q : Nat, q ≠ a → (H.setIfInBounds a (arrV c1 n1 (fun j => ow_v (κ1 j) (ow_cp I a0 a n a j) (V a j))))[q]? = H[q]? := fun q hq => by simp [Array.getElem?_setIfInBounds, Ne.symm hq]
  have hR1 : ow_R D s (S, ow_cp I a0 a n, V, z) (H.setIfInBounds a (arrV c1 n1 (fun j => ow_v (κ1 j) (ow_cp I a0 a n a j) (V a j)))) := by
    refine hR.wr hS1 (by simp) oq (fun b j hb => by rw [ow_cp_a hb]) (fun _ _ _ => rfl) ?_
    exact ⟨c1, by simp [Array.getElem?_setIfInBounds, hal], t1, r1⟩
  have hAa : A a := hD a _ hS1
  obtain ⟨t, a1, b1⟩ := k _ _ ls hR1 hD (⟨by simp; exact hSS.1, fun q u1 u2 => by
      rw [oq q (fun e => u2 (by rw [e]; exact hAa))]
      exact hSS.2.1 q u1 u2, fun q hq => by
      rcases List.mem_append.mp hq with h | h
      · exact hSS.2.2 q h
      · obtain ⟨y, -, hy⟩ := List.mem_map.mp h
        rw [← hy]
        exact hAa⟩) hl _ hheap X'
  exact ⟨t, step t a1, b1⟩
theorem or_alen {a n : Nat} {ty : FieldType} {κ : Nat → Option (Option Value)} (E : ow_E X own cc nL R0) (d : decode cc pc = .ok (.arraylength, 1)) (hS : S a = some (.inr (ty, n, κ))) (k : ow_W X cs sl (S, I, V, z) (pc + 1) lv (.int (nI n) :: st)) : ow_W X cs sl (S, I, V, z) pc lv (.ref a :: st) := by
  obtain ⟨p, l, e, R, s, m, args, below, meth, c, Q, D, A⟩ := X
  obtain ⟨hx, hb, hown, hts, hK, hA, hml, hR0⟩ := E
  intro H locs ls hR hD hSS hl
  obtain ⟨cA, g1, g2, g3⟩ := hR.1 a _ hS
  exact W.alen (n := Int32.ofNat n) hx hb g1 (g2 n _) (by rw [arrV_size]) rfl rfl d (k H locs ls hR hD hSS hl)
def i_max (a b : Int32) : Int32 := if a < b then b else a
def i_min (a b : Int32) : Int32 := if b < a then b else a
def ow_lm (own : String) (idx : Nat) (y : MethodName) (cy : ByteArray) : Prop := Cond.methodLink own idx y ∈ ow_T ∧ Cond.static y ∈ ow_T ∧ Cond.initialized "java/lang/Math" ∈ ow_T ∧ Cond.code y cy 2 (some .int) ∈ ow_T
theorem or_mmax {idx kR mR sR : Nat} {h : ow_H} {x y : Int32} (E : ow_E X own cc nL (ow_rm kR mR sR)) (L : ow_lm own idx Lib.Math.max.name Lib.Math.max.code) (d : decode cc pc = .ok (.invokestatic idx, 3)) (hk : 1 ≤ kR) (hm : cs ≤ mR ∧ sl ≤ sR) (hst : (st.map fun v => v.category).sum ≤ 20) (kk : ow_W X cs sl h (pc + 3) lv (.int (i_max x y) :: st)) : ow_W X cs sl h pc lv (.int y :: .int x :: st) := by
  obtain ⟨p, l, e, R, s, m, args, below, meth, c, Q, D, A⟩ := X
  obtain ⟨hx, hb, hown, hts, hK, hA, hml, rfl⟩ := E
  obtain ⟨w1, w2, w3, w4⟩ := L
  intro H locs ls hR hD hSS hl
  exact va_mmax hx hb hl.1.symm hown (hts _ w1) (hts _ w2) (hts _ w3) (hts _ w4) hk (by show _ + 13 ≤ 40 * kR; omega) hm.1 hm.2 d (kk H locs ls hR hD hSS hl)
theorem or_mmin {idx kR mR sR : Nat} {h : ow_H} {x y : Int32} (E : ow_E X own cc nL (ow_rm kR mR sR)) (L : ow_lm own idx Lib.Math.min.name Lib.Math.min.code) (d : decode cc pc = .ok (.invokestatic idx, 3)) (hk : 1 ≤ kR) (hm : cs ≤ mR ∧ sl ≤ sR) (hst : (st.map fun v => v.category).sum ≤ 20) (kk : ow_W X cs sl h (pc + 3) lv (.int (i_min x y) :: st)) : ow_W X cs sl h pc lv (.int y :: .int x :: st) := by
  obtain ⟨p, l, e, R, s, m, args, below, meth, c, Q, D, A⟩ := X
  obtain ⟨hx, hb, hown, hts, hK, hA, hml, rfl⟩ := E
  obtain ⟨w1, w2, w3, w4⟩ := L
  intro H locs ls hR hD hSS hl
  exact va_mmin hx hb hl.1.symm hown (hts _ w1) (hts _ w2) (hts _ w3) (hts _ w4) hk (by show _ + 13 ≤ 40 * kR; omega) hm.1 hm.2 d (kk H locs ls hR hD hSS hl)
end RG
end
section
/-! THE CLASS: its cells; its methods, leaves first (laid by wip/whole/class1.py) -/
def td_S (S : Nat → Option ow_Sh) (t : Nat) : Prop := S t = some (.inl (8, ow_n))
def by_S (S : Nat → Option ow_Sh) (b : Nat) : Prop := S b = some (.inl (2, ow_n))
def i9_S (S : Nat → Option ow_Sh) (b : Nat) : Prop := S b = some (.inr (.int, 9, ow_n))
def br_k (b : Nat) : Nat → Option (Option Value) := fun k => match k with
  | 0 => some (some (.ref (b + 1)))
  | _ => none
def br_S (S : Nat → Option ow_Sh) (b : Nat) : Prop := S b = some (.inl (1, br_k b)) ∧ S (b + 1) = some (.inr (.int, 9, ow_n))
def mk_k (a : Nat) : Nat → Option (Option Value) := fun k => match k with
  | 0 => some (some (.ref (a + 1)))
  | 7 => some (some (.ref (a + 2)))
  | 9 => some (some (.ref (a + 3)))
  | 11 => some (some (.ref (a + 4)))
  | _ => none
def mk_by (a : Nat) : Nat → Option (Option Value) := fun j => some (some (.ref (a + 5 + j)))
def mk_br (a : Nat) : Nat → Option (Option Value) := fun j => some (some (.ref (a + 11 + 2 * j)))
def mk_S (S : Nat → Option ow_Sh) (a : Nat) : Prop := S a = some (.inl (6, mk_k a)) ∧ td_S S (a + 1) ∧ S (a + 2) = some (.inr (.object "LowWaterAuction$Buyer", 6, mk_by a)) ∧ S (a + 3) = some (.inr (.object "LowWaterAuction$Barrel", 20, mk_br a)) ∧ S (a + 4) = some (.inr (.int, 20, ow_n)) ∧ (∀ i, i < 6 → by_S S (a + 5 + i)) ∧ (∀ i, i < 20 → br_S S (a + 11 + 2 * i))
theorem ne_of_pos {x : Int32} (h : ¬ x ≤ 0) : ¬ x = 0 := fun e => h (by rw [e]; decide)
theorem lc_1_45 : ow_lc RX1 45 := ⟨ow_T_in 891 (by decide +kernel) (by decide +kernel), ow_T_in 621 (by decide +kernel) (by decide +kernel), ow_T_in 620 (by decide +kernel) (by decide +kernel), ow_T_in 21 (by decide +kernel) (by decide +kernel)⟩
theorem lm_1_60 : ow_lm RX1 60 Lib.Math.max.name Lib.Math.max.code := ⟨ow_T_in 523 (by decide +kernel) (by decide +kernel), ow_T_in 524 (by decide +kernel) (by decide +kernel), ow_T_in 18 (by decide +kernel) (by decide +kernel), ow_T_in 525 (by decide +kernel) (by decide +kernel)⟩
theorem fl_1_9 : ow_fl RX1 9 1 0 := ⟨_, rfl, by decide, ow_T_in 103 (by decide +kernel) (by decide +kernel), ow_ok1⟩
theorem fl_1_26 : ow_fl RX1 26 1 5 := ⟨_, rfl, by decide, ow_T_in 118 (by decide +kernel) (by decide +kernel), ow_ok1⟩
theorem fl_1_30 : ow_fl RX1 30 1 6 := ⟨_, rfl, by decide, ow_T_in 121 (by decide +kernel) (by decide +kernel), ow_ok1⟩
theorem fl_1_33 : ow_fl RX1 33 1 7 := ⟨_, rfl, by decide, ow_T_in 124 (by decide +kernel) (by decide +kernel), ow_ok1⟩
theorem fl_1_36 : ow_fl RX1 36 1 8 := ⟨_, rfl, by decide, ow_T_in 127 (by decide +kernel) (by decide +kernel), ow_ok1⟩
theorem fl_1_39 : ow_fl RX1 39 1 9 := ⟨_, rfl, by decide, ow_T_in 130 (by decide +kernel) (by decide +kernel), ow_ok1⟩
theorem fl_1_42 : ow_fl RX1 42 1 1 := ⟨_, rfl, by decide, ow_T_in 107 (by decide +kernel) (by decide +kernel), ow_ok1⟩
theorem fl_1_51 : ow_fl RX1 51 1 2 := ⟨_, rfl, by decide, ow_T_in 111 (by decide +kernel) (by decide +kernel), ow_ok1⟩
theorem fl_1_54 : ow_fl RX1 54 1 3 := ⟨_, rfl, by decide, ow_T_in 114 (by decide +kernel) (by decide +kernel), ow_ok1⟩
theorem fl_1_57 : ow_fl RX1 57 1 4 := ⟨_, rfl, by decide, ow_T_in 117 (by decide +kernel) (by decide +kernel), ow_ok1⟩
theorem fl_2_7 : ow_fl RX2 7 2 0 := ⟨_, rfl, by decide, ow_T_in 73 (by decide +kernel) (by decide +kernel), ow_ok2⟩
theorem fl_2_13 : ow_fl RX2 13 2 1 := ⟨_, rfl, by decide, ow_T_in 76 (by decide +kernel) (by decide +kernel), ow_ok2⟩
theorem fl_2_16 : ow_fl RX2 16 2 2 := ⟨_, rfl, by decide, ow_T_in 78 (by decide +kernel) (by decide +kernel), ow_ok2⟩
theorem fl_2_19 : ow_fl RX2 19 2 3 := ⟨_, rfl, by decide, ow_T_in 80 (by decide +kernel) (by decide +kernel), ow_ok2⟩
theorem fl_2_22 : ow_fl RX2 22 2 4 := ⟨_, rfl, by decide, ow_T_in 83 (by decide +kernel) (by decide +kernel), ow_ok2⟩
theorem fl_2_25 : ow_fl RX2 25 1 2 := ⟨_, rfl, by decide, ow_T_in 110 (by decide +kernel) (by decide +kernel), ow_ok1⟩
theorem fl_2_32 : ow_fl RX2 32 1 1 := ⟨_, rfl, by decide, ow_T_in 106 (by decide +kernel) (by decide +kernel), ow_ok1⟩
theorem fl_2_37 : ow_fl RX2 37 1 3 := ⟨_, rfl, by decide, ow_T_in 113 (by decide +kernel) (by decide +kernel), ow_ok1⟩
theorem fl_2_40 : ow_fl RX2 40 1 4 := ⟨_, rfl, by decide, ow_T_in 116 (by decide +kernel) (by decide +kernel), ow_ok1⟩
theorem fl_8_9 : ow_fl RX8 9 8 0 := ⟨_, rfl, by decide, ow_T_in 50 (by decide +kernel) (by decide +kernel), ow_ok8⟩
theorem fl_8_15 : ow_fl RX8 15 8 1 := ⟨_, rfl, by decide, ow_T_in 52 (by decide +kernel) (by decide +kernel), ow_ok8⟩
theorem fl_8_18 : ow_fl RX8 18 8 2 := ⟨_, rfl, by decide, ow_T_in 54 (by decide +kernel) (by decide +kernel), ow_ok8⟩
theorem fw_1_1 : ∃ r : vw_C, ow_cl[1]? = some r ∧ (r.2.1 1).2.2.2 = false ∧ parseFieldDescriptor (r.2.1 1).2.2.1 = some .int := ⟨_, rfl, rfl, by decide +kernel⟩
theorem fw_1_2 : ∃ r : vw_C, ow_cl[1]? = some r ∧ (r.2.1 2).2.2.2 = false ∧ parseFieldDescriptor (r.2.1 2).2.2.1 = some .int := ⟨_, rfl, rfl, by decide +kernel⟩
theorem fw_1_3 : ∃ r : vw_C, ow_cl[1]? = some r ∧ (r.2.1 3).2.2.2 = false ∧ parseFieldDescriptor (r.2.1 3).2.2.1 = some .int := ⟨_, rfl, rfl, by decide +kernel⟩
theorem fw_1_4 : ∃ r : vw_C, ow_cl[1]? = some r ∧ (r.2.1 4).2.2.2 = false ∧ parseFieldDescriptor (r.2.1 4).2.2.1 = some .int := ⟨_, rfl, rfl, by decide +kernel⟩
theorem fw_1_5 : ∃ r : vw_C, ow_cl[1]? = some r ∧ (r.2.1 5).2.2.2 = false ∧ parseFieldDescriptor (r.2.1 5).2.2.1 = some .int := ⟨_, rfl, rfl, by decide +kernel⟩
theorem fw_1_6 : ∃ r : vw_C, ow_cl[1]? = some r ∧ (r.2.1 6).2.2.2 = false ∧ parseFieldDescriptor (r.2.1 6).2.2.1 = some .int := ⟨_, rfl, rfl, by decide +kernel⟩
theorem fw_1_7 : ∃ r : vw_C, ow_cl[1]? = some r ∧ (r.2.1 7).2.2.2 = false ∧ parseFieldDescriptor (r.2.1 7).2.2.1 = some .int := ⟨_, rfl, rfl, by decide +kernel⟩
theorem fw_1_8 : ∃ r : vw_C, ow_cl[1]? = some r ∧ (r.2.1 8).2.2.2 = false ∧ parseFieldDescriptor (r.2.1 8).2.2.1 = some .int := ⟨_, rfl, rfl, by decide +kernel⟩
theorem fw_1_9 : ∃ r : vw_C, ow_cl[1]? = some r ∧ (r.2.1 9).2.2.2 = false ∧ parseFieldDescriptor (r.2.1 9).2.2.1 = some .int := ⟨_, rfl, rfl, by decide +kernel⟩
theorem fw_2_0 : ∃ r : vw_C, ow_cl[2]? = some r ∧ (r.2.1 0).2.2.2 = false ∧ parseFieldDescriptor (r.2.1 0).2.2.1 = some .int := ⟨_, rfl, rfl, by decide +kernel⟩
theorem fw_2_1 : ∃ r : vw_C, ow_cl[2]? = some r ∧ (r.2.1 1).2.2.2 = false ∧ parseFieldDescriptor (r.2.1 1).2.2.1 = some .int := ⟨_, rfl, rfl, by decide +kernel⟩
theorem fw_2_2 : ∃ r : vw_C, ow_cl[2]? = some r ∧ (r.2.1 2).2.2.2 = false ∧ parseFieldDescriptor (r.2.1 2).2.2.1 = some .int := ⟨_, rfl, rfl, by decide +kernel⟩
theorem fw_2_3 : ∃ r : vw_C, ow_cl[2]? = some r ∧ (r.2.1 3).2.2.2 = false ∧ parseFieldDescriptor (r.2.1 3).2.2.1 = some .int := ⟨_, rfl, rfl, by decide +kernel⟩
theorem fw_2_4 : ∃ r : vw_C, ow_cl[2]? = some r ∧ (r.2.1 4).2.2.2 = false ∧ parseFieldDescriptor (r.2.1 4).2.2.1 = some .int := ⟨_, rfl, rfl, by decide +kernel⟩
theorem fw_8_0 : ∃ r : vw_C, ow_cl[8]? = some r ∧ (r.2.1 0).2.2.2 = false ∧ parseFieldDescriptor (r.2.1 0).2.2.1 = some .int := ⟨_, rfl, rfl, by decide +kernel⟩
theorem fw_8_1 : ∃ r : vw_C, ow_cl[8]? = some r ∧ (r.2.1 1).2.2.2 = false ∧ parseFieldDescriptor (r.2.1 1).2.2.1 = some .int := ⟨_, rfl, rfl, by decide +kernel⟩
theorem fw_8_2 : ∃ r : vw_C, ow_cl[8]? = some r ∧ (r.2.1 2).2.2.2 = false ∧ parseFieldDescriptor (r.2.1 2).2.2.1 = some .int := ⟨_, rfl, rfl, by decide +kernel⟩
theorem wd_1225 : Cond.constantDouble RX2 30 (4636737291354636288 : UInt64) ∈ ow_T := ow_T_in 1225 (by decide +kernel) (by decide +kernel)
theorem wd_1226 : Cond.constantDouble RX2 35 (4621819117588971520 : UInt64) ∈ ow_T := ow_T_in 1226 (by decide +kernel) (by decide +kernel)
theorem wd_1227 : Cond.constantDouble RX2 43 (4617315517961601024 : UInt64) ∈ ow_T := ow_T_in 1227 (by decide +kernel) (by decide +kernel)
def T_isLow (t : Nat) (I : ow_I) : Bool :=
  if I t 0 ≤ 0 then false else if I t 1 ≤ (I t 2) - (I t 2) / (I t 0) * (I t 0) then false else true
set_option maxRecDepth 100000 in
set_option maxHeartbeats 400000 in
theorem cT_isLow {S : Nat → Option ow_Sh} {I : ow_I} {V : Nat → Nat → Value} {z : Nat} {t : Nat} (h_t : td_S S t)  : ow_Cf yX8_isLow cX8_isLow 1 (some .boolean) 0 [.ref t] (S, I, V, z) (some (.int (bi (T_isLow t I)))) (S, I, V, z) := by
  refine ow_Cf.of rfl (Nat.le_of_ble_eq_true rfl) (fun X K E F hk => ?_)
  have E : ow_E X RX8 cX8_isLow 1 (ow_rm 0 0 0) := E
  refine or_lv [(0, .ref t)] rfl ?_
  dsimp only [T_isLow] at hk
  refine or_aload_n E rfl dX8_isLow_0 ?_
  refine ot_getI E fl_8_9 dX8_isLow_1 h_t rfl ?_
  refine or_if_le 27 E dX8_isLow_4 rfl (fun q4 => ?_) (fun q4 => ?_)
  · replace hk := ite_p (P := fun r : Bool => K (some (.int (bi (r)))) (S, I, V, z)) q4 hk
    refine or_iconst (v := nI 0) E rfl dX8_isLow_27 ?_
    exact or_zret E F dX8_isLow_28 (Nat.le_refl _) (Nat.le_refl _) (bi_nar false) hk
  · replace hk := ite_n (P := fun r : Bool => K (some (.int (bi (r)))) (S, I, V, z)) q4 hk
    refine or_aload_n E rfl dX8_isLow_7 ?_
    refine ot_getI E fl_8_18 dX8_isLow_8 h_t rfl ?_
    refine or_aload_n E rfl dX8_isLow_11 ?_
    refine ot_getI E fl_8_9 dX8_isLow_12 h_t rfl ?_
    refine or_irem E (ne_of_pos q4) dX8_isLow_15 ?_
    refine or_aload_n E rfl dX8_isLow_16 ?_
    refine ot_getI E fl_8_15 dX8_isLow_17 h_t rfl ?_
    refine or_icmp_ge 27 E dX8_isLow_20 rfl (fun q20 => ?_) (fun q20 => ?_)
    · replace hk := ite_p (P := fun r : Bool => K (some (.int (bi (r)))) (S, I, V, z)) q20 hk
      refine or_iconst (v := nI 0) E rfl dX8_isLow_27 ?_
      exact or_zret E F dX8_isLow_28 (Nat.le_refl _) (Nat.le_refl _) (bi_nar false) hk
    · replace hk := ite_n (P := fun r : Bool => K (some (.int (bi (r)))) (S, I, V, z)) q20 hk
      refine or_iconst (v := nI 1) E rfl dX8_isLow_23 ?_
      refine or_goto 28 E dX8_isLow_24 rfl ?_
      exact or_zret E F dX8_isLow_28 (Nat.le_refl _) (Nat.le_refl _) (bi_nar true) hk
def T_hornBlows (t : Nat) (I : ow_I) : Bool :=
  if I t 0 ≤ 0 then false else if (I t 2) - (I t 2) / (I t 0) * (I t 0) = I t 1 then true else false
set_option maxRecDepth 100000 in
set_option maxHeartbeats 400000 in
theorem cT_hornBlows {S : Nat → Option ow_Sh} {I : ow_I} {V : Nat → Nat → Value} {z : Nat} {t : Nat} (h_t : td_S S t)  : ow_Cf yX8_hornBlows cX8_hornBlows 1 (some .boolean) 0 [.ref t] (S, I, V, z) (some (.int (bi (T_hornBlows t I)))) (S, I, V, z) := by
  refine ow_Cf.of rfl (Nat.le_of_ble_eq_true rfl) (fun X K E F hk => ?_)
  have E : ow_E X RX8 cX8_hornBlows 1 (ow_rm 0 0 0) := E
  refine or_lv [(0, .ref t)] rfl ?_
  dsimp only [T_hornBlows] at hk
  refine or_aload_n E rfl dX8_hornBlows_0 ?_
  refine ot_getI E fl_8_9 dX8_hornBlows_1 h_t rfl ?_
  refine or_if_le 27 E dX8_hornBlows_4 rfl (fun q4 => ?_) (fun q4 => ?_)
  · replace hk := ite_p (P := fun r : Bool => K (some (.int (bi (r)))) (S, I, V, z)) q4 hk
    refine or_iconst (v := nI 0) E rfl dX8_hornBlows_27 ?_
    exact or_zret E F dX8_hornBlows_28 (Nat.le_refl _) (Nat.le_refl _) (bi_nar false) hk
  · replace hk := ite_n (P := fun r : Bool => K (some (.int (bi (r)))) (S, I, V, z)) q4 hk
    refine or_aload_n E rfl dX8_hornBlows_7 ?_
    refine ot_getI E fl_8_18 dX8_hornBlows_8 h_t rfl ?_
    refine or_aload_n E rfl dX8_hornBlows_11 ?_
    refine ot_getI E fl_8_9 dX8_hornBlows_12 h_t rfl ?_
    refine or_irem E (ne_of_pos q4) dX8_hornBlows_15 ?_
    refine or_aload_n E rfl dX8_hornBlows_16 ?_
    refine ot_getI E fl_8_15 dX8_hornBlows_17 h_t rfl ?_
    refine or_icmp_ne 27 E dX8_hornBlows_20 rfl (fun q20 => ?_) (fun q20 => ?_)
    · replace hk := ite_n (P := fun r : Bool => K (some (.int (bi (r)))) (S, I, V, z)) q20 hk
      refine or_iconst (v := nI 0) E rfl dX8_hornBlows_27 ?_
      exact or_zret E F dX8_hornBlows_28 (Nat.le_refl _) (Nat.le_refl _) (bi_nar false) hk
    · replace hk := ite_p (P := fun r : Bool => K (some (.int (bi (r)))) (S, I, V, z)) q20 hk
      refine or_iconst (v := nI 1) E rfl dX8_hornBlows_23 ?_
      refine or_goto 28 E dX8_hornBlows_24 rfl ?_
      exact or_zret E F dX8_hornBlows_28 (Nat.le_refl _) (Nat.le_refl _) (bi_nar true) hk
def T_untilHorn (t : Nat) (I : ow_I) : Int32 :=
  if I t 0 ≤ 0 then (-1) else if I t 1 < I t 0 then if I t 1 - ((I t 2) - (I t 2) / (I t 0) * (I t 0)) ≤ 0 then I t 1 - ((I t 2) - (I t 2) / (I t 0) * (I t 0)) + (I t 0) else I t 1 - ((I t 2) - (I t 2) / (I t 0) * (I t 0)) else (-1)
set_option maxRecDepth 100000 in
set_option maxHeartbeats 400000 in
theorem cT_untilHorn {S : Nat → Option ow_Sh} {I : ow_I} {V : Nat → Nat → Value} {z : Nat} {t : Nat} (h_t : td_S S t)  : ow_Cf yX8_untilHorn cX8_untilHorn 2 (some .int) 0 [.ref t] (S, I, V, z) (some (.int (T_untilHorn t I))) (S, I, V, z) := by
  refine ow_Cf.of rfl (Nat.le_of_ble_eq_true rfl) (fun X K E F hk => ?_)
  have E : ow_E X RX8 cX8_untilHorn 2 (ow_rm 0 0 0) := E
  refine or_lv [(0, .ref t)] rfl ?_
  dsimp only [T_untilHorn] at hk
  refine or_aload_n E rfl dX8_untilHorn_0 ?_
  refine ot_getI E fl_8_9 dX8_untilHorn_1 h_t rfl ?_
  refine or_if_le 18 E dX8_untilHorn_4 rfl (fun q4 => ?_) (fun q4 => ?_)
  · replace hk := ite_p (P := fun r : Int32 => K (some (.int (r))) (S, I, V, z)) q4 hk
    refine or_iconst (v := -1) E rfl dX8_untilHorn_18 ?_
    exact or_iret E F dX8_untilHorn_19 (Nat.le_refl _) (Nat.le_refl _) hk
  · replace hk := ite_n (P := fun r : Int32 => K (some (.int (r))) (S, I, V, z)) q4 hk
    refine or_aload_n E rfl dX8_untilHorn_7 ?_
    refine ot_getI E fl_8_15 dX8_untilHorn_8 h_t rfl ?_
    refine or_aload_n E rfl dX8_untilHorn_11 ?_
    refine ot_getI E fl_8_9 dX8_untilHorn_12 h_t rfl ?_
    refine or_icmp_lt 20 E dX8_untilHorn_15 rfl (fun q15 => ?_) (fun q15 => ?_)
    · replace hk := ite_p (P := fun r : Int32 => K (some (.int (r))) (S, I, V, z)) q15 hk
      refine or_aload_n E rfl dX8_untilHorn_20 ?_
      refine ot_getI E fl_8_15 dX8_untilHorn_21 h_t rfl ?_
      refine or_aload_n E rfl dX8_untilHorn_24 ?_
      refine ot_getI E fl_8_18 dX8_untilHorn_25 h_t rfl ?_
      refine or_aload_n E rfl dX8_untilHorn_28 ?_
      refine ot_getI E fl_8_9 dX8_untilHorn_29 h_t rfl ?_
      refine or_irem E (ne_of_pos q4) dX8_untilHorn_32 ?_
      refine or_isub E dX8_untilHorn_33 ?_
      refine or_istore_n E dX8_untilHorn_34 (by decide) ?_
      refine or_iload_n E rfl dX8_untilHorn_35 ?_
      refine or_if_le 43 E dX8_untilHorn_36 rfl (fun q36 => ?_) (fun q36 => ?_)
      · replace hk := ite_p (P := fun r : Int32 => K (some (.int (r))) (S, I, V, z)) q36 hk
        refine or_iload_n E rfl dX8_untilHorn_43 ?_
        refine or_aload_n E rfl dX8_untilHorn_44 ?_
        refine ot_getI E fl_8_9 dX8_untilHorn_45 h_t rfl ?_
        refine or_iadd E dX8_untilHorn_48 ?_
        exact or_iret E F dX8_untilHorn_49 (Nat.le_refl _) (Nat.le_refl _) hk
      · replace hk := ite_n (P := fun r : Int32 => K (some (.int (r))) (S, I, V, z)) q36 hk
        refine or_iload_n E rfl dX8_untilHorn_39 ?_
        refine or_goto 49 E dX8_untilHorn_40 rfl ?_
        exact or_iret E F dX8_untilHorn_49 (Nat.le_refl _) (Nat.le_refl _) hk
    · replace hk := ite_n (P := fun r : Int32 => K (some (.int (r))) (S, I, V, z)) q15 hk
      refine or_iconst (v := -1) E rfl dX8_untilHorn_18 ?_
      exact or_iret E F dX8_untilHorn_19 (Nat.le_refl _) (Nat.le_refl _) hk
def T_copyFrom (t : Nat) (o : Nat) (I : ow_I) : ow_I :=
  lt (ow_u I t 0 (I o 0)) (fun (I1 : ow_I) => lt (ow_u I1 t 1 (I1 o 1)) (fun (I2 : ow_I) => lt (ow_u I2 t 2 (I2 o 2)) (fun (I3 : ow_I) => I3)))
set_option maxRecDepth 100000 in
set_option maxHeartbeats 400000 in
theorem cT_copyFrom {S : Nat → Option ow_Sh} {I : ow_I} {V : Nat → Nat → Value} {z : Nat} {t : Nat} {o : Nat} (h_t : td_S S t) (h_o : td_S S o)  : ow_Cf yX8_copyFrom cX8_copyFrom 2 none 0 [.ref t, .ref o] (S, I, V, z) none (S, T_copyFrom t o I, V, z) := by
  refine ow_Cf.of rfl (Nat.le_of_ble_eq_true rfl) (fun X K E F hk => ?_)
  have E : ow_E X RX8 cX8_copyFrom 2 (ow_rm 0 0 0) := E
  refine or_lv [(0, .ref t), (1, .ref o)] rfl ?_
  dsimp only [T_copyFrom] at hk
  refine or_aload_n E rfl dX8_copyFrom_0 ?_
  refine or_aload_n E rfl dX8_copyFrom_1 ?_
  refine ot_getI E fl_8_9 dX8_copyFrom_2 h_o rfl ?_
  refine ot_putI E fl_8_9 fw_8_0 dX8_copyFrom_5 h_t rfl ?_
  obtain ⟨I1, hI1⟩ : ∃ y_ : ow_I, y_ = ow_u I t 0 (I o 0) := ⟨_, rfl⟩
  replace hk := lt_k (P := fun r : ow_I => K none (S, r, V, z)) hI1 hk
  refine or_nmI hI1 ?_
  refine or_aload_n E rfl dX8_copyFrom_8 ?_
  refine or_aload_n E rfl dX8_copyFrom_9 ?_
  refine ot_getI E fl_8_15 dX8_copyFrom_10 h_o rfl ?_
  refine ot_putI E fl_8_15 fw_8_1 dX8_copyFrom_13 h_t rfl ?_
  obtain ⟨I2, hI2⟩ : ∃ y_ : ow_I, y_ = ow_u I1 t 1 (I1 o 1) := ⟨_, rfl⟩
  replace hk := lt_k (P := fun r : ow_I => K none (S, r, V, z)) hI2 hk
  refine or_nmI hI2 ?_
  refine or_aload_n E rfl dX8_copyFrom_16 ?_
  refine or_aload_n E rfl dX8_copyFrom_17 ?_
  refine ot_getI E fl_8_18 dX8_copyFrom_18 h_o rfl ?_
  refine ot_putI E fl_8_18 fw_8_2 dX8_copyFrom_21 h_t rfl ?_
  obtain ⟨I3, hI3⟩ : ∃ y_ : ow_I, y_ = ow_u I2 t 2 (I2 o 2) := ⟨_, rfl⟩
  replace hk := lt_k (P := fun r : ow_I => K none (S, r, V, z)) hI3 hk
  refine or_nmI hI3 ?_
  exact or_vret E F dX8_copyFrom_24 (Nat.le_refl _) (Nat.le_refl _) hk
def Y_begin (b : Nat) (p : Int32) (s : Int32) (f : Int32) (I : ow_I) : ow_I :=
  lt (ow_u I b 0 p) (fun (I1 : ow_I) => lt (ow_u I1 b 1 s) (fun (I2 : ow_I) => lt (ow_u I2 b 2 f) (fun (I3 : ow_I) => lt (ow_u I3 b 3 (nI 0)) (fun (I4 : ow_I) => lt (ow_u I4 b 4 (nI 0)) (fun (I5 : ow_I) => I5)))))
set_option maxRecDepth 100000 in
set_option maxHeartbeats 400000 in
theorem cY_begin {S : Nat → Option ow_Sh} {I : ow_I} {V : Nat → Nat → Value} {z : Nat} {b : Nat} {p : Int32} {s : Int32} {f : Int32} (h_b : by_S S b)  : ow_Cf yX2_begin cX2_begin 4 none 0 [.ref b, .int p, .int s, .int f] (S, I, V, z) none (S, Y_begin b p s f I, V, z) := by
  refine ow_Cf.of rfl (Nat.le_of_ble_eq_true rfl) (fun X K E F hk => ?_)
  have E : ow_E X RX2 cX2_begin 4 (ow_rm 0 0 0) := E
  refine or_lv [(0, .ref b), (1, .int p), (2, .int s), (3, .int f)] rfl ?_
  dsimp only [Y_begin] at hk
  refine or_aload_n E rfl dX2_begin_0 ?_
  refine or_iload_n E rfl dX2_begin_1 ?_
  refine ot_putI E fl_2_7 fw_2_0 dX2_begin_2 h_b rfl ?_
  obtain ⟨I1, hI1⟩ : ∃ y_ : ow_I, y_ = ow_u I b 0 p := ⟨_, rfl⟩
  replace hk := lt_k (P := fun r : ow_I => K none (S, r, V, z)) hI1 hk
  refine or_nmI hI1 ?_
  refine or_aload_n E rfl dX2_begin_5 ?_
  refine or_iload_n E rfl dX2_begin_6 ?_
  refine ot_putI E fl_2_13 fw_2_1 dX2_begin_7 h_b rfl ?_
  obtain ⟨I2, hI2⟩ : ∃ y_ : ow_I, y_ = ow_u I1 b 1 s := ⟨_, rfl⟩
  replace hk := lt_k (P := fun r : ow_I => K none (S, r, V, z)) hI2 hk
  refine or_nmI hI2 ?_
  refine or_aload_n E rfl dX2_begin_10 ?_
  refine or_iload_n E rfl dX2_begin_11 ?_
  refine ot_putI E fl_2_16 fw_2_2 dX2_begin_12 h_b rfl ?_
  obtain ⟨I3, hI3⟩ : ∃ y_ : ow_I, y_ = ow_u I2 b 2 f := ⟨_, rfl⟩
  replace hk := lt_k (P := fun r : ow_I => K none (S, r, V, z)) hI3 hk
  refine or_nmI hI3 ?_
  refine or_aload_n E rfl dX2_begin_15 ?_
  refine or_iconst (v := nI 0) E rfl dX2_begin_16 ?_
  refine ot_putI E fl_2_19 fw_2_3 dX2_begin_17 h_b rfl ?_
  obtain ⟨I4, hI4⟩ : ∃ y_ : ow_I, y_ = ow_u I3 b 3 (nI 0) := ⟨_, rfl⟩
  replace hk := lt_k (P := fun r : ow_I => K none (S, r, V, z)) hI4 hk
  refine or_nmI hI4 ?_
  refine or_aload_n E rfl dX2_begin_20 ?_
  refine or_iconst (v := nI 0) E rfl dX2_begin_21 ?_
  refine ot_putI E fl_2_22 fw_2_4 dX2_begin_22 h_b rfl ?_
  obtain ⟨I5, hI5⟩ : ∃ y_ : ow_I, y_ = ow_u I4 b 4 (nI 0) := ⟨_, rfl⟩
  replace hk := lt_k (P := fun r : ow_I => K none (S, r, V, z)) hI5 hk
  refine or_nmI hI5 ?_
  exact or_vret E F dX2_begin_25 (Nat.le_refl _) (Nat.le_refl _) hk
def Y_copyFrom (b : Nat) (o : Nat) (I : ow_I) : ow_I :=
  lt (ow_u I b 0 (I o 0)) (fun (I1 : ow_I) => lt (ow_u I1 b 1 (I1 o 1)) (fun (I2 : ow_I) => lt (ow_u I2 b 2 (I2 o 2)) (fun (I3 : ow_I) => lt (ow_u I3 b 3 (I3 o 3)) (fun (I4 : ow_I) => lt (ow_u I4 b 4 (I4 o 4)) (fun (I5 : ow_I) => I5)))))
set_option maxRecDepth 100000 in
set_option maxHeartbeats 400000 in
theorem cY_copyFrom {S : Nat → Option ow_Sh} {I : ow_I} {V : Nat → Nat → Value} {z : Nat} {b : Nat} {o : Nat} (h_b : by_S S b) (h_o : by_S S o)  : ow_Cf yX2_copyFrom cX2_copyFrom 2 none 0 [.ref b, .ref o] (S, I, V, z) none (S, Y_copyFrom b o I, V, z) := by
  refine ow_Cf.of rfl (Nat.le_of_ble_eq_true rfl) (fun X K E F hk => ?_)
  have E : ow_E X RX2 cX2_copyFrom 2 (ow_rm 0 0 0) := E
  refine or_lv [(0, .ref b), (1, .ref o)] rfl ?_
  dsimp only [Y_copyFrom] at hk
  refine or_aload_n E rfl dX2_copyFrom_0 ?_
  refine or_aload_n E rfl dX2_copyFrom_1 ?_
  refine ot_getI E fl_2_7 dX2_copyFrom_2 h_o rfl ?_
  refine ot_putI E fl_2_7 fw_2_0 dX2_copyFrom_5 h_b rfl ?_
  obtain ⟨I1, hI1⟩ : ∃ y_ : ow_I, y_ = ow_u I b 0 (I o 0) := ⟨_, rfl⟩
  replace hk := lt_k (P := fun r : ow_I => K none (S, r, V, z)) hI1 hk
  refine or_nmI hI1 ?_
  refine or_aload_n E rfl dX2_copyFrom_8 ?_
  refine or_aload_n E rfl dX2_copyFrom_9 ?_
  refine ot_getI E fl_2_13 dX2_copyFrom_10 h_o rfl ?_
  refine ot_putI E fl_2_13 fw_2_1 dX2_copyFrom_13 h_b rfl ?_
  obtain ⟨I2, hI2⟩ : ∃ y_ : ow_I, y_ = ow_u I1 b 1 (I1 o 1) := ⟨_, rfl⟩
  replace hk := lt_k (P := fun r : ow_I => K none (S, r, V, z)) hI2 hk
  refine or_nmI hI2 ?_
  refine or_aload_n E rfl dX2_copyFrom_16 ?_
  refine or_aload_n E rfl dX2_copyFrom_17 ?_
  refine ot_getI E fl_2_16 dX2_copyFrom_18 h_o rfl ?_
  refine ot_putI E fl_2_16 fw_2_2 dX2_copyFrom_21 h_b rfl ?_
  obtain ⟨I3, hI3⟩ : ∃ y_ : ow_I, y_ = ow_u I2 b 2 (I2 o 2) := ⟨_, rfl⟩
  replace hk := lt_k (P := fun r : ow_I => K none (S, r, V, z)) hI3 hk
  refine or_nmI hI3 ?_
  refine or_aload_n E rfl dX2_copyFrom_24 ?_
  refine or_aload_n E rfl dX2_copyFrom_25 ?_
  refine ot_getI E fl_2_19 dX2_copyFrom_26 h_o rfl ?_
  refine ot_putI E fl_2_19 fw_2_3 dX2_copyFrom_29 h_b rfl ?_
  obtain ⟨I4, hI4⟩ : ∃ y_ : ow_I, y_ = ow_u I3 b 3 (I3 o 3) := ⟨_, rfl⟩
  replace hk := lt_k (P := fun r : ow_I => K none (S, r, V, z)) hI4 hk
  refine or_nmI hI4 ?_
  refine or_aload_n E rfl dX2_copyFrom_32 ?_
  refine or_aload_n E rfl dX2_copyFrom_33 ?_
  refine ot_getI E fl_2_22 dX2_copyFrom_34 h_o rfl ?_
  refine ot_putI E fl_2_22 fw_2_4 dX2_copyFrom_37 h_b rfl ?_
  obtain ⟨I5, hI5⟩ : ∃ y_ : ow_I, y_ = ow_u I4 b 4 (I4 o 4) := ⟨_, rfl⟩
  replace hk := lt_k (P := fun r : ow_I => K none (S, r, V, z)) hI5 hk
  refine or_nmI hI5 ?_
  exact or_vret E F dX2_copyFrom_40 (Nat.le_refl _) (Nat.le_refl _) hk
def Y_valueOf (b : Nat) (k : Nat) (I : ow_I) : UInt64 :=
  if I b 1 = nI (1 + 0) then FP.ddiv (FP.i2d ((I b 2) * (I k 2))) ((4636737291354636288 : UInt64)) else if I b 1 = nI (1 + 1) then FP.ddiv (FP.i2d ((I b 2) * (I k 1))) ((4621819117588971520 : UInt64)) else if I b 1 = nI (1 + 2) then FP.ddiv (FP.i2d (((I b 2) * (I k 3)) * (I k 1))) ((4636737291354636288 : UInt64)) else if I b 1 = nI (1 + 3) then FP.ddiv (FP.i2d ((I b 2) * (I k 4))) ((4617315517961601024 : UInt64)) else FP.dconst0
set_option maxRecDepth 100000 in
set_option maxHeartbeats 400000 in
theorem cY_valueOf {S : Nat → Option ow_Sh} {I : ow_I} {V : Nat → Nat → Value} {z : Nat} {b : Nat} {k : Nat} (h_b : by_S S b) (h_k : br_S S k)  : ow_Cf yX2_valueOf cX2_valueOf 2 (some .double) 0 [.ref b, .ref k] (S, I, V, z) (some (.double (Y_valueOf b k I))) (S, I, V, z) := by
  refine ow_Cf.of rfl (Nat.le_of_ble_eq_true rfl) (fun X K E F hk => ?_)
  have E : ow_E X RX2 cX2_valueOf 2 (ow_rm 0 0 0) := E
  refine or_lv [(0, .ref b), (1, .ref k)] rfl ?_
  dsimp only [Y_valueOf] at hk
  refine or_aload_n E rfl dX2_valueOf_0 ?_
  refine ot_getI E fl_2_13 dX2_valueOf_1 h_b rfl ?_
  refine or_tab4 (lo := 1) 36 51 66 86 101 E dX2_valueOf_4 (by decide) rfl rfl rfl rfl rfl (fun q4_0 => ?_) (fun q4_0 q4_1 => ?_) (fun q4_0 q4_1 q4_2 => ?_) (fun q4_0 q4_1 q4_2 q4_3 => ?_) (fun q4_0 q4_1 q4_2 q4_3 => ?_)
  · replace hk := ite_p (P := fun r : UInt64 => K (some (.double (r))) (S, I, V, z)) q4_0 hk
    refine or_aload_n E rfl dX2_valueOf_36 ?_
    refine ot_getI E fl_2_16 dX2_valueOf_37 h_b rfl ?_
    refine or_aload_n E rfl dX2_valueOf_40 ?_
    refine ot_getI E fl_2_25 dX2_valueOf_41 h_k.1 rfl ?_
    refine or_imul E dX2_valueOf_44 ?_
    refine or_i2d E dX2_valueOf_45 ?_
    refine or_ldc2d (v := 4636737291354636288) E wd_1225 dX2_valueOf_46 ?_
    refine or_ddiv E (fp_i2d_div100 _) dX2_valueOf_49 ?_
    exact or_dret E F dX2_valueOf_50 (Nat.le_refl _) (Nat.le_refl _) hk
  · replace hk := ite_n (P := fun r : UInt64 => K (some (.double (r))) (S, I, V, z)) q4_0 hk; replace hk := ite_p (P := fun r : UInt64 => K (some (.double (r))) (S, I, V, z)) q4_1 hk
    refine or_aload_n E rfl dX2_valueOf_51 ?_
    refine ot_getI E fl_2_16 dX2_valueOf_52 h_b rfl ?_
    refine or_aload_n E rfl dX2_valueOf_55 ?_
    refine ot_getI E fl_2_32 dX2_valueOf_56 h_k.1 rfl ?_
    refine or_imul E dX2_valueOf_59 ?_
    refine or_i2d E dX2_valueOf_60 ?_
    refine or_ldc2d (v := 4621819117588971520) E wd_1226 dX2_valueOf_61 ?_
    refine or_ddiv E (fp_i2d_div10 _) dX2_valueOf_64 ?_
    exact or_dret E F dX2_valueOf_65 (Nat.le_refl _) (Nat.le_refl _) hk
  · replace hk := ite_n (P := fun r : UInt64 => K (some (.double (r))) (S, I, V, z)) q4_0 hk; replace hk := ite_n (P := fun r : UInt64 => K (some (.double (r))) (S, I, V, z)) q4_1 hk; replace hk := ite_p (P := fun r : UInt64 => K (some (.double (r))) (S, I, V, z)) q4_2 hk
    refine or_aload_n E rfl dX2_valueOf_66 ?_
    refine ot_getI E fl_2_16 dX2_valueOf_67 h_b rfl ?_
    refine or_aload_n E rfl dX2_valueOf_70 ?_
    refine ot_getI E fl_2_37 dX2_valueOf_71 h_k.1 rfl ?_
    refine or_imul E dX2_valueOf_74 ?_
    refine or_aload_n E rfl dX2_valueOf_75 ?_
    refine ot_getI E fl_2_32 dX2_valueOf_76 h_k.1 rfl ?_
    refine or_imul E dX2_valueOf_79 ?_
    refine or_i2d E dX2_valueOf_80 ?_
    refine or_ldc2d (v := 4636737291354636288) E wd_1225 dX2_valueOf_81 ?_
    refine or_ddiv E (fp_i2d_div100 _) dX2_valueOf_84 ?_
    exact or_dret E F dX2_valueOf_85 (Nat.le_refl _) (Nat.le_refl _) hk
  · replace hk := ite_n (P := fun r : UInt64 => K (some (.double (r))) (S, I, V, z)) q4_0 hk; replace hk := ite_n (P := fun r : UInt64 => K (some (.double (r))) (S, I, V, z)) q4_1 hk; replace hk := ite_n (P := fun r : UInt64 => K (some (.double (r))) (S, I, V, z)) q4_2 hk; replace hk := ite_p (P := fun r : UInt64 => K (some (.double (r))) (S, I, V, z)) q4_3 hk
    refine or_aload_n E rfl dX2_valueOf_86 ?_
    refine ot_getI E fl_2_16 dX2_valueOf_87 h_b rfl ?_
    refine or_aload_n E rfl dX2_valueOf_90 ?_
    refine ot_getI E fl_2_40 dX2_valueOf_91 h_k.1 rfl ?_
    refine or_imul E dX2_valueOf_94 ?_
    refine or_i2d E dX2_valueOf_95 ?_
    refine or_ldc2d (v := 4617315517961601024) E wd_1227 dX2_valueOf_96 ?_
    refine or_ddiv E (fp_i2d_div5 _) dX2_valueOf_99 ?_
    exact or_dret E F dX2_valueOf_100 (Nat.le_refl _) (Nat.le_refl _) hk
  · replace hk := ite_n (P := fun r : UInt64 => K (some (.double (r))) (S, I, V, z)) q4_0 hk; replace hk := ite_n (P := fun r : UInt64 => K (some (.double (r))) (S, I, V, z)) q4_1 hk; replace hk := ite_n (P := fun r : UInt64 => K (some (.double (r))) (S, I, V, z)) q4_2 hk; replace hk := ite_n (P := fun r : UInt64 => K (some (.double (r))) (S, I, V, z)) q4_3 hk
    refine or_dconst0 E dX2_valueOf_101 ?_
    exact or_dret E F dX2_valueOf_102 (Nat.le_refl _) (Nat.le_refl _) hk
def B_emptyOut (b : Nat) (I : ow_I) : ow_I :=
  lt (ow_u I b 1 (nI 0)) (fun (I1 : ow_I) => lt (ow_u I1 b 2 (nI 0)) (fun (I2 : ow_I) => lt (ow_u I2 b 3 (nI 0)) (fun (I3 : ow_I) => lt (ow_u I3 b 4 (nI 0)) (fun (I4 : ow_I) => I4))))
set_option maxRecDepth 100000 in
set_option maxHeartbeats 400000 in
theorem cB_emptyOut {S : Nat → Option ow_Sh} {I : ow_I} {V : Nat → Nat → Value} {z : Nat} {b : Nat} (h_b : br_S S b)  : ow_Cf yX1_emptyOut cX1_emptyOut 1 none 0 [.ref b] (S, I, V, z) none (S, B_emptyOut b I, V, z) := by
  refine ow_Cf.of rfl (Nat.le_of_ble_eq_true rfl) (fun X K E F hk => ?_)
  have E : ow_E X RX1 cX1_emptyOut 1 (ow_rm 0 0 0) := E
  refine or_lv [(0, .ref b)] rfl ?_
  dsimp only [B_emptyOut] at hk
  refine or_aload_n E rfl dX1_emptyOut_0 ?_
  refine or_iconst (v := nI 0) E rfl dX1_emptyOut_1 ?_
  refine ot_putI E fl_1_42 fw_1_1 dX1_emptyOut_2 h_b.1 rfl ?_
  obtain ⟨I1, hI1⟩ : ∃ y_ : ow_I, y_ = ow_u I b 1 (nI 0) := ⟨_, rfl⟩
  replace hk := lt_k (P := fun r : ow_I => K none (S, r, V, z)) hI1 hk
  refine or_nmI hI1 ?_
  refine or_aload_n E rfl dX1_emptyOut_5 ?_
  refine or_iconst (v := nI 0) E rfl dX1_emptyOut_6 ?_
  refine ot_putI E fl_1_51 fw_1_2 dX1_emptyOut_7 h_b.1 rfl ?_
  obtain ⟨I2, hI2⟩ : ∃ y_ : ow_I, y_ = ow_u I1 b 2 (nI 0) := ⟨_, rfl⟩
  replace hk := lt_k (P := fun r : ow_I => K none (S, r, V, z)) hI2 hk
  refine or_nmI hI2 ?_
  refine or_aload_n E rfl dX1_emptyOut_10 ?_
  refine or_iconst (v := nI 0) E rfl dX1_emptyOut_11 ?_
  refine ot_putI E fl_1_54 fw_1_3 dX1_emptyOut_12 h_b.1 rfl ?_
  obtain ⟨I3, hI3⟩ : ∃ y_ : ow_I, y_ = ow_u I2 b 3 (nI 0) := ⟨_, rfl⟩
  replace hk := lt_k (P := fun r : ow_I => K none (S, r, V, z)) hI3 hk
  refine or_nmI hI3 ?_
  refine or_aload_n E rfl dX1_emptyOut_15 ?_
  refine or_iconst (v := nI 0) E rfl dX1_emptyOut_16 ?_
  refine ot_putI E fl_1_57 fw_1_4 dX1_emptyOut_17 h_b.1 rfl ?_
  obtain ⟨I4, hI4⟩ : ∃ y_ : ow_I, y_ = ow_u I3 b 4 (nI 0) := ⟨_, rfl⟩
  replace hk := lt_k (P := fun r : ow_I => K none (S, r, V, z)) hI4 hk
  refine or_nmI hI4 ?_
  exact or_vret E F dX1_emptyOut_20 (Nat.le_refl _) (Nat.le_refl _) hk
def B_beginWaiting (b : Nat) (r : Int32) (I : ow_I) : ow_I :=
  lt (ow_u I b 5 r) (fun (I1 : ow_I) => lt (ow_u I1 b 6 (nI 0)) (fun (I2 : ow_I) => lt (ow_u I2 b 7 (nI 0)) (fun (I3 : ow_I) => lt (ow_u I3 b 8 ((-1))) (fun (I4 : ow_I) => lt (ow_u I4 b 9 ((-1))) (fun (I5 : ow_I) => I5)))))
set_option maxRecDepth 100000 in
set_option maxHeartbeats 400000 in
theorem cB_beginWaiting {S : Nat → Option ow_Sh} {I : ow_I} {V : Nat → Nat → Value} {z : Nat} {b : Nat} {r : Int32} (h_b : br_S S b)  : ow_Cf yX1_beginWaiting cX1_beginWaiting 2 none 0 [.ref b, .int r] (S, I, V, z) none (S, B_beginWaiting b r I, V, z) := by
  refine ow_Cf.of rfl (Nat.le_of_ble_eq_true rfl) (fun X K E F hk => ?_)
  have E : ow_E X RX1 cX1_beginWaiting 2 (ow_rm 0 0 0) := E
  refine or_lv [(0, .ref b), (1, .int r)] rfl ?_
  dsimp only [B_beginWaiting] at hk
  refine or_aload_n E rfl dX1_beginWaiting_0 ?_
  refine or_iload_n E rfl dX1_beginWaiting_1 ?_
  refine ot_putI E fl_1_26 fw_1_5 dX1_beginWaiting_2 h_b.1 rfl ?_
  obtain ⟨I1, hI1⟩ : ∃ y_ : ow_I, y_ = ow_u I b 5 r := ⟨_, rfl⟩
  replace hk := lt_k (P := fun r : ow_I => K none (S, r, V, z)) hI1 hk
  refine or_nmI hI1 ?_
  refine or_aload_n E rfl dX1_beginWaiting_5 ?_
  refine or_iconst (v := nI 0) E rfl dX1_beginWaiting_6 ?_
  refine ot_putI E fl_1_30 fw_1_6 dX1_beginWaiting_7 h_b.1 rfl ?_
  obtain ⟨I2, hI2⟩ : ∃ y_ : ow_I, y_ = ow_u I1 b 6 (nI 0) := ⟨_, rfl⟩
  replace hk := lt_k (P := fun r : ow_I => K none (S, r, V, z)) hI2 hk
  refine or_nmI hI2 ?_
  refine or_aload_n E rfl dX1_beginWaiting_10 ?_
  refine or_iconst (v := nI 0) E rfl dX1_beginWaiting_11 ?_
  refine ot_putI E fl_1_33 fw_1_7 dX1_beginWaiting_12 h_b.1 rfl ?_
  obtain ⟨I3, hI3⟩ : ∃ y_ : ow_I, y_ = ow_u I2 b 7 (nI 0) := ⟨_, rfl⟩
  replace hk := lt_k (P := fun r : ow_I => K none (S, r, V, z)) hI3 hk
  refine or_nmI hI3 ?_
  refine or_aload_n E rfl dX1_beginWaiting_15 ?_
  refine or_iconst (v := -1) E rfl dX1_beginWaiting_16 ?_
  refine ot_putI E fl_1_36 fw_1_8 dX1_beginWaiting_17 h_b.1 rfl ?_
  obtain ⟨I4, hI4⟩ : ∃ y_ : ow_I, y_ = ow_u I3 b 8 ((-1)) := ⟨_, rfl⟩
  replace hk := lt_k (P := fun r : ow_I => K none (S, r, V, z)) hI4 hk
  refine or_nmI hI4 ?_
  refine or_aload_n E rfl dX1_beginWaiting_20 ?_
  refine or_iconst (v := -1) E rfl dX1_beginWaiting_21 ?_
  refine ot_putI E fl_1_39 fw_1_9 dX1_beginWaiting_22 h_b.1 rfl ?_
  obtain ⟨I5, hI5⟩ : ∃ y_ : ow_I, y_ = ow_u I4 b 9 ((-1)) := ⟨_, rfl⟩
  replace hk := lt_k (P := fun r : ow_I => K none (S, r, V, z)) hI5 hk
  refine or_nmI hI5 ?_
  exact or_vret E F dX1_beginWaiting_25 (Nat.le_refl _) (Nat.le_refl _) hk
def B_addEel (b : Nat) (x : Int32) (I : ow_I) : ow_I :=
  if tn (I b 1) < 9 then lt (ow_u I (b + 1) (tn (I b 1)) x) (fun (I1 : ow_I) => lt (ow_u I1 b 1 (I1 b 1 + (nI 1))) (fun (I2 : ow_I) => lt (ow_u I2 b 2 (I2 b 2 + x)) (fun (I3 : ow_I) => lt (ow_u I3 b 3 (i_max (I3 b 3) x)) (fun (I4 : ow_I) => if x < nI 60 then lt (ow_u I4 b 4 (I4 b 4 + (nI 0))) (fun (I5 : ow_I) => I5) else lt (ow_u I4 b 4 (I4 b 4 + (nI 1))) (fun (I6 : ow_I) => I6))))) else I
set_option maxRecDepth 100000 in
set_option maxHeartbeats 400000 in
theorem cB_addEel {S : Nat → Option ow_Sh} {I : ow_I} {V : Nat → Nat → Value} {z : Nat} {b : Nat} {x : Int32} (h_b : br_S S b) (he : 0 ≤ I b 1) (heb : tn (I b 1) ≤ 9) : ow_Cf yX1_addEel cX1_addEel 2 none 1 [.ref b, .int x] (S, I, V, z) none (S, B_addEel b x I, V, z) := by
  refine ow_Cf.of rfl (Nat.le_of_ble_eq_true rfl) (fun X K E F hk => ?_)
  have E : ow_E X RX1 cX1_addEel 2 (ow_rm 1 0 0) := E
  refine or_lv [(0, .ref b), (1, .int x)] rfl ?_
  dsimp only [B_addEel] at hk
  refine or_aload_n E rfl dX1_addEel_0 ?_
  refine ot_getI E fl_1_42 dX1_addEel_1 h_b.1 rfl ?_
  refine or_top (nI_tn he).symm ?_
  refine or_bipush (v := nI 9) E rfl dX1_addEel_4 ?_
  refine or_icmp_ltN 10 E dX1_addEel_6 rfl (by omega) (by omega) (fun q6 => ?_) (fun q6 => ?_)
  · replace hk := ite_p (P := fun r : ow_I => K none (S, r, V, z)) q6 hk
    refine or_aload_n E rfl dX1_addEel_10 ?_
    refine ot_getC E fl_1_9 dX1_addEel_11 h_b.1 rfl ?_
    refine or_aload_n E rfl dX1_addEel_14 ?_
    refine ot_getI E fl_1_42 dX1_addEel_15 h_b.1 rfl ?_
    refine or_top (nI_tn he).symm ?_
    refine or_iload_n E rfl dX1_addEel_18 ?_
    refine ot_iast (j := tn (I b 1)) E dX1_addEel_19 h_b.2 rfl rfl (by omega) (Nat.le_of_ble_eq_true rfl) ?_
    obtain ⟨I1, hI1⟩ : ∃ y_ : ow_I, y_ = ow_u I (b + 1) (tn (I b 1)) x := ⟨_, rfl⟩
    replace hk := lt_k (P := fun r : ow_I => K none (S, r, V, z)) hI1 hk
    refine or_nmI hI1 ?_
    refine or_aload_n E rfl dX1_addEel_20 ?_
    refine or_dup E rfl dX1_addEel_21 ?_
    refine ot_getI E fl_1_42 dX1_addEel_22 h_b.1 rfl ?_
    refine or_iconst (v := nI 1) E rfl dX1_addEel_25 ?_
    refine or_iadd E dX1_addEel_26 ?_
    refine ot_putI E fl_1_42 fw_1_1 dX1_addEel_27 h_b.1 rfl ?_
    obtain ⟨I2, hI2⟩ : ∃ y_ : ow_I, y_ = ow_u I1 b 1 (I1 b 1 + (nI 1)) := ⟨_, rfl⟩
    replace hk := lt_k (P := fun r : ow_I => K none (S, r, V, z)) hI2 hk
    refine or_nmI hI2 ?_
    refine or_aload_n E rfl dX1_addEel_30 ?_
    refine or_dup E rfl dX1_addEel_31 ?_
    refine ot_getI E fl_1_51 dX1_addEel_32 h_b.1 rfl ?_
    refine or_iload_n E rfl dX1_addEel_35 ?_
    refine or_iadd E dX1_addEel_36 ?_
    refine ot_putI E fl_1_51 fw_1_2 dX1_addEel_37 h_b.1 rfl ?_
    obtain ⟨I3, hI3⟩ : ∃ y_ : ow_I, y_ = ow_u I2 b 2 (I2 b 2 + x) := ⟨_, rfl⟩
    replace hk := lt_k (P := fun r : ow_I => K none (S, r, V, z)) hI3 hk
    refine or_nmI hI3 ?_
    refine or_aload_n E rfl dX1_addEel_40 ?_
    refine or_aload_n E rfl dX1_addEel_41 ?_
    refine ot_getI E fl_1_54 dX1_addEel_42 h_b.1 rfl ?_
    refine or_iload_n E rfl dX1_addEel_45 ?_
    refine or_mmax E lm_1_60 dX1_addEel_46 (Nat.le_of_ble_eq_true rfl) ⟨Nat.le_refl _, Nat.le_refl _⟩ (Nat.le_of_ble_eq_true rfl) ?_
    refine ot_putI E fl_1_54 fw_1_3 dX1_addEel_49 h_b.1 rfl ?_
    obtain ⟨I4, hI4⟩ : ∃ y_ : ow_I, y_ = ow_u I3 b 3 (i_max (I3 b 3) x) := ⟨_, rfl⟩
    replace hk := lt_k (P := fun r : ow_I => K none (S, r, V, z)) hI4 hk
    refine or_nmI hI4 ?_
    refine or_aload_n E rfl dX1_addEel_52 ?_
    refine or_dup E rfl dX1_addEel_53 ?_
    refine ot_getI E fl_1_57 dX1_addEel_54 h_b.1 rfl ?_
    refine or_iload_n E rfl dX1_addEel_57 ?_
    refine or_bipush (v := nI 60) E rfl dX1_addEel_58 ?_
    refine or_icmp_lt 67 E dX1_addEel_60 rfl (fun q60 => ?_) (fun q60 => ?_)
    · replace hk := ite_p (P := fun r : ow_I => K none (S, r, V, z)) q60 hk
      refine or_iconst (v := nI 0) E rfl dX1_addEel_67 ?_
      refine or_iadd E dX1_addEel_68 ?_
      refine ot_putI E fl_1_57 fw_1_4 dX1_addEel_69 h_b.1 rfl ?_
      obtain ⟨I5, hI5⟩ : ∃ y_ : ow_I, y_ = ow_u I4 b 4 (I4 b 4 + (nI 0)) := ⟨_, rfl⟩
      replace hk := lt_k (P := fun r : ow_I => K none (S, r, V, z)) hI5 hk
      refine or_nmI hI5 ?_
      exact or_vret E F dX1_addEel_72 (Nat.le_refl _) (Nat.le_refl _) hk
    · replace hk := ite_n (P := fun r : ow_I => K none (S, r, V, z)) q60 hk
      refine or_iconst (v := nI 1) E rfl dX1_addEel_63 ?_
      refine or_goto 68 E dX1_addEel_64 rfl ?_
      refine or_iadd E dX1_addEel_68 ?_
      refine ot_putI E fl_1_57 fw_1_4 dX1_addEel_69 h_b.1 rfl ?_
      obtain ⟨I6, hI6⟩ : ∃ y_ : ow_I, y_ = ow_u I4 b 4 (I4 b 4 + (nI 1)) := ⟨_, rfl⟩
      replace hk := lt_k (P := fun r : ow_I => K none (S, r, V, z)) hI6 hk
      refine or_nmI hI6 ?_
      exact or_vret E F dX1_addEel_72 (Nat.le_refl _) (Nat.le_refl _) hk
  · replace hk := ite_n (P := fun r : ow_I => K none (S, r, V, z)) q6 hk
    exact or_vret E F dX1_addEel_9 (Nat.le_refl _) (Nat.le_refl _) hk
def B_copyFrom (b : Nat) (o : Nat) (I : ow_I) : ow_I :=
  lt (ow_cp I (o + 1) (b + 1) 9) (fun (I1 : ow_I) => lt (ow_u I1 b 1 (I1 o 1)) (fun (I2 : ow_I) => lt (ow_u I2 b 2 (I2 o 2)) (fun (I3 : ow_I) => lt (ow_u I3 b 3 (I3 o 3)) (fun (I4 : ow_I) => lt (ow_u I4 b 4 (I4 o 4)) (fun (I5 : ow_I) => lt (ow_u I5 b 5 (I5 o 5)) (fun (I6 : ow_I) => lt (ow_u I6 b 6 (I6 o 6)) (fun (I7 : ow_I) => lt (ow_u I7 b 7 (I7 o 7)) (fun (I8 : ow_I) => lt (ow_u I8 b 8 (I8 o 8)) (fun (I9 : ow_I) => lt (ow_u I9 b 9 (I9 o 9)) (fun (I10 : ow_I) => I10))))))))))
set_option maxRecDepth 100000 in
set_option maxHeartbeats 400000 in
theorem cB_copyFrom {S : Nat → Option ow_Sh} {I : ow_I} {V : Nat → Nat → Value} {z : Nat} {b : Nat} {o : Nat} (h_b : br_S S b) (h_o : br_S S o)  : ow_Cf yX1_copyFrom cX1_copyFrom 2 none 1 [.ref b, .ref o] (S, I, V, z) none (S, B_copyFrom b o I, V, z) := by
  refine ow_Cf.of rfl (Nat.le_of_ble_eq_true rfl) (fun X K E F hk => ?_)
  have E : ow_E X RX1 cX1_copyFrom 2 (ow_rm 1 0 0) := E
  refine or_lv [(0, .ref b), (1, .ref o)] rfl ?_
  dsimp only [B_copyFrom] at hk
  refine or_aload_n E rfl dX1_copyFrom_0 ?_
  refine ot_getC E fl_1_9 dX1_copyFrom_1 h_o.1 rfl ?_
  refine or_iconst (v := nI 0) E rfl dX1_copyFrom_4 ?_
  refine or_aload_n E rfl dX1_copyFrom_5 ?_
  refine ot_getC E fl_1_9 dX1_copyFrom_6 h_b.1 rfl ?_
  refine or_iconst (v := nI 0) E rfl dX1_copyFrom_9 ?_
  refine or_bipush (v := nI 9) E rfl dX1_copyFrom_10 ?_
  refine or_acopy (n := 9) E lc_1_45 dX1_copyFrom_12 h_o.2 h_b.2 (fun _ _ => rfl) (fun _ _ => rfl) (by decide) (by decide) ⟨Nat.le_of_ble_eq_true rfl, Nat.le_of_ble_eq_true rfl⟩ (by decide) ?_
  obtain ⟨I1, hI1⟩ : ∃ y_ : ow_I, y_ = ow_cp I (o + 1) (b + 1) 9 := ⟨_, rfl⟩
  replace hk := lt_k (P := fun r : ow_I => K none (S, r, V, z)) hI1 hk
  refine or_nmI hI1 ?_
  refine or_aload_n E rfl dX1_copyFrom_15 ?_
  refine or_aload_n E rfl dX1_copyFrom_16 ?_
  refine ot_getI E fl_1_42 dX1_copyFrom_17 h_o.1 rfl ?_
  refine ot_putI E fl_1_42 fw_1_1 dX1_copyFrom_20 h_b.1 rfl ?_
  obtain ⟨I2, hI2⟩ : ∃ y_ : ow_I, y_ = ow_u I1 b 1 (I1 o 1) := ⟨_, rfl⟩
  replace hk := lt_k (P := fun r : ow_I => K none (S, r, V, z)) hI2 hk
  refine or_nmI hI2 ?_
  refine or_aload_n E rfl dX1_copyFrom_23 ?_
  refine or_aload_n E rfl dX1_copyFrom_24 ?_
  refine ot_getI E fl_1_51 dX1_copyFrom_25 h_o.1 rfl ?_
  refine ot_putI E fl_1_51 fw_1_2 dX1_copyFrom_28 h_b.1 rfl ?_
  obtain ⟨I3, hI3⟩ : ∃ y_ : ow_I, y_ = ow_u I2 b 2 (I2 o 2) := ⟨_, rfl⟩
  replace hk := lt_k (P := fun r : ow_I => K none (S, r, V, z)) hI3 hk
  refine or_nmI hI3 ?_
  refine or_aload_n E rfl dX1_copyFrom_31 ?_
  refine or_aload_n E rfl dX1_copyFrom_32 ?_
  refine ot_getI E fl_1_54 dX1_copyFrom_33 h_o.1 rfl ?_
  refine ot_putI E fl_1_54 fw_1_3 dX1_copyFrom_36 h_b.1 rfl ?_
  obtain ⟨I4, hI4⟩ : ∃ y_ : ow_I, y_ = ow_u I3 b 3 (I3 o 3) := ⟨_, rfl⟩
  replace hk := lt_k (P := fun r : ow_I => K none (S, r, V, z)) hI4 hk
  refine or_nmI hI4 ?_
  refine or_aload_n E rfl dX1_copyFrom_39 ?_
  refine or_aload_n E rfl dX1_copyFrom_40 ?_
  refine ot_getI E fl_1_57 dX1_copyFrom_41 h_o.1 rfl ?_
  refine ot_putI E fl_1_57 fw_1_4 dX1_copyFrom_44 h_b.1 rfl ?_
  obtain ⟨I5, hI5⟩ : ∃ y_ : ow_I, y_ = ow_u I4 b 4 (I4 o 4) := ⟨_, rfl⟩
  replace hk := lt_k (P := fun r : ow_I => K none (S, r, V, z)) hI5 hk
  refine or_nmI hI5 ?_
  refine or_aload_n E rfl dX1_copyFrom_47 ?_
  refine or_aload_n E rfl dX1_copyFrom_48 ?_
  refine ot_getI E fl_1_26 dX1_copyFrom_49 h_o.1 rfl ?_
  refine ot_putI E fl_1_26 fw_1_5 dX1_copyFrom_52 h_b.1 rfl ?_
  obtain ⟨I6, hI6⟩ : ∃ y_ : ow_I, y_ = ow_u I5 b 5 (I5 o 5) := ⟨_, rfl⟩
  replace hk := lt_k (P := fun r : ow_I => K none (S, r, V, z)) hI6 hk
  refine or_nmI hI6 ?_
  refine or_aload_n E rfl dX1_copyFrom_55 ?_
  refine or_aload_n E rfl dX1_copyFrom_56 ?_
  refine ot_getI E fl_1_30 dX1_copyFrom_57 h_o.1 rfl ?_
  refine ot_putI E fl_1_30 fw_1_6 dX1_copyFrom_60 h_b.1 rfl ?_
  obtain ⟨I7, hI7⟩ : ∃ y_ : ow_I, y_ = ow_u I6 b 6 (I6 o 6) := ⟨_, rfl⟩
  replace hk := lt_k (P := fun r : ow_I => K none (S, r, V, z)) hI7 hk
  refine or_nmI hI7 ?_
  refine or_aload_n E rfl dX1_copyFrom_63 ?_
  refine or_aload_n E rfl dX1_copyFrom_64 ?_
  refine ot_getI E fl_1_33 dX1_copyFrom_65 h_o.1 rfl ?_
  refine ot_putI E fl_1_33 fw_1_7 dX1_copyFrom_68 h_b.1 rfl ?_
  obtain ⟨I8, hI8⟩ : ∃ y_ : ow_I, y_ = ow_u I7 b 7 (I7 o 7) := ⟨_, rfl⟩
  replace hk := lt_k (P := fun r : ow_I => K none (S, r, V, z)) hI8 hk
  refine or_nmI hI8 ?_
  refine or_aload_n E rfl dX1_copyFrom_71 ?_
  refine or_aload_n E rfl dX1_copyFrom_72 ?_
  refine ot_getI E fl_1_36 dX1_copyFrom_73 h_o.1 rfl ?_
  refine ot_putI E fl_1_36 fw_1_8 dX1_copyFrom_76 h_b.1 rfl ?_
  obtain ⟨I9, hI9⟩ : ∃ y_ : ow_I, y_ = ow_u I8 b 8 (I8 o 8) := ⟨_, rfl⟩
  replace hk := lt_k (P := fun r : ow_I => K none (S, r, V, z)) hI9 hk
  refine or_nmI hI9 ?_
  refine or_aload_n E rfl dX1_copyFrom_79 ?_
  refine or_aload_n E rfl dX1_copyFrom_80 ?_
  refine ot_getI E fl_1_39 dX1_copyFrom_81 h_o.1 rfl ?_
  refine ot_putI E fl_1_39 fw_1_9 dX1_copyFrom_84 h_b.1 rfl ?_
  obtain ⟨I10, hI10⟩ : ∃ y_ : ow_I, y_ = ow_u I9 b 9 (I9 o 9) := ⟨_, rfl⟩
  replace hk := lt_k (P := fun r : ow_I => K none (S, r, V, z)) hI10 hk
  refine or_nmI hI10 ?_
  exact or_vret E F dX1_copyFrom_87 (Nat.le_refl _) (Nat.le_refl _) hk
end
section
/-! the class: what its leaves leave as it was -/
theorem rr_tcp {t o a : Nat} {I : ow_I} (h : a ≠ t) : T_copyFrom t o I a = I a := by
  simp only [T_copyFrom, lt_eq, rr_u h]
theorem rr_ybg {b a : Nat} {p s f : Int32} {I : ow_I} (h : a ≠ b) : Y_begin b p s f I a = I a := by
  simp only [Y_begin, lt_eq, rr_u h]
theorem rr_ycp {b o a : Nat} {I : ow_I} (h : a ≠ b) : Y_copyFrom b o I a = I a := by
  simp only [Y_copyFrom, lt_eq, rr_u h]
theorem rr_beo {b a : Nat} {I : ow_I} (h : a ≠ b) : B_emptyOut b I a = I a := by
  simp only [B_emptyOut, lt_eq, rr_u h]
theorem rr_bbw {b a : Nat} {r : Int32} {I : ow_I} (h : a ≠ b) : B_beginWaiting b r I a = I a := by
  simp only [B_beginWaiting, lt_eq, rr_u h]
theorem rr_bae {b a : Nat} {x : Int32} {I : ow_I} (h : a ≠ b) (h1 : a ≠ b + 1) : B_addEel b x I a = I a := by
  simp only [B_addEel, lt_eq]
  (repeat' split) <;> simp only [rr_u h, rr_u h1]
theorem rr_bcp {b o a : Nat} {I : ow_I} (h : a ≠ b) (h1 : a ≠ b + 1) : B_copyFrom b o I a = I a := by
  simp only [B_copyFrom, lt_eq, rr_u h, ow_cp_a h1]
theorem beo_1 {b : Nat} {I : ow_I} : B_emptyOut b I b 1 = nI 0 := by
  simp (disch := decide) only [B_emptyOut, lt_eq, ow_u_k, ow_u_s]
theorem bae_1 {b : Nat} {x : Int32} {I : ow_I} (h : 0 ≤ I b 1) (h9 : tn (I b 1) ≤ 9) : 0 ≤ B_addEel b x I b 1 ∧ tn (B_addEel b x I b 1) ≤ 9 := by
  simp only [B_addEel, lt_eq]
  split
  · have t := tn_inc h (by omega)
    split
    all_goals
      simp (disch := decide) only [ow_u_k, ow_u_s, rr_u (show b ≠ b + 1 by omega)]
      exact ⟨t.1, by rw [t.2]; omega⟩
  · exact ⟨h, h9⟩
def k_V (a : Nat) (I : ow_I) : Prop := (0 ≤ I a 8 ∧ tn (I a 8) ≤ 6) ∧ (0 ≤ I a 10 ∧ tn (I a 10) ≤ 20) ∧ (0 ≤ I a 12 ∧ tn (I a 12) ≤ 20) ∧ (I a 13 = -1 ∨ (0 ≤ I a 13 ∧ tn (I a 13) < 20)) ∧ (I a 15 = -1 ∨ (0 ≤ I a 15 ∧ tn (I a 15) < 6)) ∧ (∀ i, i < tn (I a 12) → 0 ≤ I (a + 4) i ∧ tn (I (a + 4) i) < 20) ∧ (∀ k, k < 20 → 0 ≤ I (a + 11 + 2 * k) 1 ∧ tn (I (a + 11 + 2 * k) 1) ≤ 9)
theorem lt_tn' {x y : Int32} (h : x < y) (hx : 0 ≤ x) : 0 ≤ x ∧ tn x < tn y := ⟨hx, (lt_tn h hx).2⟩
end
section
theorem lk_1_15 : ow_lv RX1 15 yX1_emptyOut cX1_emptyOut 1 none 0 := ⟨ow_T_in 515 (by decide +kernel) (by decide +kernel), ow_T_in 517 (by decide +kernel) (by decide +kernel), ow_T_sel 14 (by decide +kernel) (by decide +kernel), ow_T_in 5 (by decide +kernel) (by decide +kernel), ow_T_in 518 (by decide +kernel) (by decide +kernel), ⟨by decide +kernel, by decide +kernel, by decide +kernel⟩⟩
theorem lk_1_18 : ow_lv RX1 18 yX1_addEel cX1_addEel 2 none 1 := ⟨ow_T_in 519 (by decide +kernel) (by decide +kernel), ow_T_in 521 (by decide +kernel) (by decide +kernel), ow_T_sel 15 (by decide +kernel) (by decide +kernel), ow_T_in 5 (by decide +kernel) (by decide +kernel), ow_T_in 522 (by decide +kernel) (by decide +kernel), ⟨by decide +kernel, by decide +kernel, by decide +kernel⟩⟩
theorem lk_1_22 : ow_lv RX1 22 yX1_fill cX1_fill 5 none 3 := ⟨ow_T_in 1098 (by decide +kernel) (by decide +kernel), ow_T_in 512 (by decide +kernel) (by decide +kernel), ow_T_in 513 (by decide +kernel) (by decide +kernel), ow_T_in 5 (by decide +kernel) (by decide +kernel), ow_T_in 514 (by decide +kernel) (by decide +kernel), ⟨by decide +kernel, by decide +kernel, by decide +kernel⟩⟩
def B_fill_L7 (b : Nat) (f : Nat) (s : Nat) (e : Nat) : Nat → ow_I → Nat → ow_I
  | 0, I, _ => I
  | n + 1, I, i => if nI i < 0 then I else if e ≤ i then I else if 9 ≤ i then I else lt (B_addEel b (I f i) I) (fun (I2 : ow_I) => B_fill_L7 b f s e n I2 (i + 1))
def B_fill (b : Nat) (f : Nat) (s : Nat) (e : Nat) (I : ow_I) : ow_I :=
  lt (B_emptyOut b I) (fun (I1 : ow_I) => B_fill_L7 b f s e 10 I1 s)
set_option maxRecDepth 100000 in
set_option maxHeartbeats 400000 in
theorem cB_fill {S : Nat → Option ow_Sh} {I : ow_I} {V : Nat → Nat → Value} {z : Nat} {b : Nat} {f : Nat} {s : Nat} {e : Nat} (h_b : br_S S b) (h_f : i9_S S f) (hs : s ≤ 9) (hee : e < 2 ^ 31) : ow_Cf yX1_fill cX1_fill 5 none 2 [.ref b, .ref f, .int (nI s), .int (nI e)] (S, I, V, z) none (S, B_fill b f s e I, V, z) := by
  refine ow_Cf.of rfl (Nat.le_of_ble_eq_true rfl) (fun X K E F hk => ?_)
  have E : ow_E X RX1 cX1_fill 5 (ow_rm 2 0 0) := E
  refine or_lv [(0, .ref b), (1, .ref f), (2, .int (nI s)), (3, .int (nI e))] rfl ?_
  have L7 : ∀ (n : Nat) (I : ow_I) (i : Nat) (hi : i ≤ 9) (he : 0 ≤ I b 1) (heb : tn (I b 1) ≤ 9) (hm : 9 - i < n) (hk : K none (S, B_fill_L7 b f s e n I i, V, z)), ow_W X 0 0 (S, I, V, z) 7 [(0, .ref b), (1, .ref f), (3, .int (nI e)), (4, .int (nI i))] [] := by
    intro n
    induction n with
    | zero => intro I i hi he heb hm; omega
    | succ n ih =>
      intro I i hi he heb hm hk
      dsimp only [B_fill_L7] at hk
      refine or_iload E rfl dX1_fill_7 ?_
      refine or_if_lt 39 E dX1_fill_9 rfl (fun q9 => ?_) (fun q9 => ?_)
      · replace hk := ite_p (P := fun r : ow_I => K none (S, r, V, z)) q9 hk
        exact or_vret E F dX1_fill_39 (Nat.le_refl _) (Nat.le_refl _) hk
      · replace hk := ite_n (P := fun r : ow_I => K none (S, r, V, z)) q9 hk
        refine or_iload E rfl dX1_fill_12 ?_
        refine or_iload_n E rfl dX1_fill_14 ?_
        refine or_icmp_geN 39 E dX1_fill_15 rfl (by omega) (by omega) (fun q15 => ?_) (fun q15 => ?_)
        · replace hk := ite_p (P := fun r : ow_I => K none (S, r, V, z)) q15 hk
          exact or_vret E F dX1_fill_39 (Nat.le_refl _) (Nat.le_refl _) hk
        · replace hk := ite_n (P := fun r : ow_I => K none (S, r, V, z)) q15 hk
          refine or_iload E rfl dX1_fill_18 ?_
          refine or_aload_n E rfl dX1_fill_20 ?_
          refine or_alen E dX1_fill_21 h_f ?_
          refine or_icmp_geN 39 E dX1_fill_22 rfl (by omega) (by omega) (fun q22 => ?_) (fun q22 => ?_)
          · replace hk := ite_p (P := fun r : ow_I => K none (S, r, V, z)) q22 hk
            exact or_vret E F dX1_fill_39 (Nat.le_refl _) (Nat.le_refl _) hk
          · replace hk := ite_n (P := fun r : ow_I => K none (S, r, V, z)) q22 hk
            refine or_aload_n E rfl dX1_fill_25 ?_
            refine or_aload_n E rfl dX1_fill_26 ?_
            refine or_iload E rfl dX1_fill_27 ?_
            refine ot_iald (j := i) E dX1_fill_29 h_f rfl rfl (by omega) (Nat.le_of_ble_eq_true rfl) ?_
            refine or_cV1v (cB_addEel  h_b he heb) E lk_1_18 dX1_fill_30 h_b.1 rfl rfl (by decide) (by decide) ⟨Nat.le_refl _, Nat.le_refl _⟩ (Nat.le_of_ble_eq_true rfl) ?_
            obtain ⟨I2, hI2⟩ : ∃ y_ : ow_I, y_ = B_addEel b (I f i) I := ⟨_, rfl⟩
            replace hk := lt_k (P := fun r : ow_I => K none (S, r, V, z)) hI2 hk
            refine or_nmI hI2 ?_
            refine or_iincN (c := 1) E dX1_fill_33 rfl rfl (by decide) ?_
            refine or_goto 7 E dX1_fill_36 rfl ?_
            refine or_lv _ ?_ (ih _ _ (by subst hI2; omega) (by subst hI2; exact (bae_1 he heb).1) (by subst hI2; exact (bae_1 he heb).2) (by omega) hk)
            rfl
  dsimp only [B_fill] at hk
  refine or_aload_n E rfl dX1_fill_0 ?_
  refine or_cV0v (cB_emptyOut  h_b ) E lk_1_15 dX1_fill_1 h_b.1 rfl rfl (by decide) (by decide) ⟨Nat.le_refl _, Nat.le_refl _⟩ (Nat.le_of_ble_eq_true rfl) ?_
  obtain ⟨I1, hI1⟩ : ∃ y_ : ow_I, y_ = B_emptyOut b I := ⟨_, rfl⟩
  replace hk := lt_k (P := fun r : ow_I => K none (S, r, V, z)) hI1 hk
  refine or_nmI hI1 ?_
  refine or_iload_n E rfl dX1_fill_4 ?_
  refine or_istore E dX1_fill_5 (by decide) ?_
  refine or_lv _ ?_ (L7 10 _ _ hs (by subst hI1; rw [beo_1]; decide) (by subst hI1; rw [beo_1]; decide) (by omega) hk)
  rfl
def B_keepFirst (b : Nat) (k : Nat) (I : ow_I) : ow_I :=
  lt (B_fill b (b + 1) 0 k I) (fun (I1 : ow_I) => I1)
set_option maxRecDepth 100000 in
set_option maxHeartbeats 400000 in
theorem cB_keepFirst {S : Nat → Option ow_Sh} {I : ow_I} {V : Nat → Nat → Value} {z : Nat} {b : Nat} {k : Nat} (h_b : br_S S b) (hk2 : k < 2 ^ 31) : ow_Cf yX1_keepFirst cX1_keepFirst 2 none 3 [.ref b, .int (nI k)] (S, I, V, z) none (S, B_keepFirst b k I, V, z) := by
  refine ow_Cf.of rfl (Nat.le_of_ble_eq_true rfl) (fun X K E F hk => ?_)
  have E : ow_E X RX1 cX1_keepFirst 2 (ow_rm 3 0 0) := E
  refine or_lv [(0, .ref b), (1, .int (nI k))] rfl ?_
  dsimp only [B_keepFirst] at hk
  refine or_aload_n E rfl dX1_keepFirst_0 ?_
  refine or_aload_n E rfl dX1_keepFirst_1 ?_
  refine ot_getC E fl_1_9 dX1_keepFirst_2 h_b.1 rfl ?_
  refine or_iconst (v := nI 0) E rfl dX1_keepFirst_5 ?_
  refine or_iload_n E rfl dX1_keepFirst_6 ?_
  refine or_cV3v (cB_fill  h_b h_b.2 (by decide) hk2) E lk_1_22 dX1_keepFirst_7 h_b.1 rfl rfl (by decide) (by decide) ⟨Nat.le_refl _, Nat.le_refl _⟩ (Nat.le_of_ble_eq_true rfl) ?_
  obtain ⟨I1, hI1⟩ : ∃ y_ : ow_I, y_ = B_fill b (b + 1) 0 k I := ⟨_, rfl⟩
  replace hk := lt_k (P := fun r : ow_I => K none (S, r, V, z)) hI1 hk
  refine or_nmI hI1 ?_
  exact or_vret E F dX1_keepFirst_10 (Nat.le_refl _) (Nat.le_refl _) hk
end
section
theorem rr_bfL {b f s e a : Nat} (h : a ≠ b) (h1 : a ≠ b + 1) : ∀ (n : Nat) (I : ow_I) (i : Nat), B_fill_L7 b f s e n I i a = I a := by
  intro n
  induction n with
  | zero => intro I i; rfl
  | succ n ih =>
    intro I i
    simp only [B_fill_L7, lt_eq]
    (repeat' split) <;> simp only [ih, rr_bae h h1]
theorem rr_bf {b f s e a : Nat} {I : ow_I} (h : a ≠ b) (h1 : a ≠ b + 1) : B_fill b f s e I a = I a := by
  simp only [B_fill, lt_eq]
  rw [rr_bfL h h1, rr_beo h]
theorem rr_bkf {b k a : Nat} {I : ow_I} (h : a ≠ b) (h1 : a ≠ b + 1) : B_keepFirst b k I a = I a := by
  simp only [B_keepFirst, lt_eq]
  rw [rr_bf h h1]
end
section
theorem fl_6_71 : ow_fl RX6 71 6 8 := ⟨_, rfl, by decide, ow_T_in 172 (by decide +kernel) (by decide +kernel), ow_ok6⟩
theorem fl_6_77 : ow_fl RX6 77 6 10 := ⟨_, rfl, by decide, ow_T_in 176 (by decide +kernel) (by decide +kernel), ow_ok6⟩
def K_hasBarrel (a : Nat) (x : Int32) (I : ow_I) : Bool :=
  if x < 0 then false else if I a 10 ≤ x then false else true
set_option maxRecDepth 100000 in
set_option maxHeartbeats 400000 in
theorem cK_hasBarrel {S : Nat → Option ow_Sh} {I : ow_I} {V : Nat → Nat → Value} {z : Nat} {a : Nat} {x : Int32} (h_a : mk_S S a)  : ow_Cf yX6_hasBarrel cX6_hasBarrel 2 (some .boolean) 0 [.ref a, .int x] (S, I, V, z) (some (.int (bi (K_hasBarrel a x I)))) (S, I, V, z) := by
  refine ow_Cf.of rfl (Nat.le_of_ble_eq_true rfl) (fun X K E F hk => ?_)
  have E : ow_E X RX6 cX6_hasBarrel 2 (ow_rm 0 0 0) := E
  refine or_lv [(0, .ref a), (1, .int x)] rfl ?_
  dsimp only [K_hasBarrel] at hk
  refine or_iload_n E rfl dX6_hasBarrel_0 ?_
  refine or_if_lt 16 E dX6_hasBarrel_1 rfl (fun q1 => ?_) (fun q1 => ?_)
  · replace hk := ite_p (P := fun r : Bool => K (some (.int (bi (r)))) (S, I, V, z)) q1 hk
    refine or_iconst (v := nI 0) E rfl dX6_hasBarrel_16 ?_
    exact or_zret E F dX6_hasBarrel_17 (Nat.le_refl _) (Nat.le_refl _) (bi_nar false) hk
  · replace hk := ite_n (P := fun r : Bool => K (some (.int (bi (r)))) (S, I, V, z)) q1 hk
    refine or_iload_n E rfl dX6_hasBarrel_4 ?_
    refine or_aload_n E rfl dX6_hasBarrel_5 ?_
    refine ot_getI E fl_6_77 dX6_hasBarrel_6 h_a.1 rfl ?_
    refine or_icmp_ge 16 E dX6_hasBarrel_9 rfl (fun q9 => ?_) (fun q9 => ?_)
    · replace hk := ite_p (P := fun r : Bool => K (some (.int (bi (r)))) (S, I, V, z)) q9 hk
      refine or_iconst (v := nI 0) E rfl dX6_hasBarrel_16 ?_
      exact or_zret E F dX6_hasBarrel_17 (Nat.le_refl _) (Nat.le_refl _) (bi_nar false) hk
    · replace hk := ite_n (P := fun r : Bool => K (some (.int (bi (r)))) (S, I, V, z)) q9 hk
      refine or_iconst (v := nI 1) E rfl dX6_hasBarrel_12 ?_
      refine or_goto 17 E dX6_hasBarrel_13 rfl ?_
      exact or_zret E F dX6_hasBarrel_17 (Nat.le_refl _) (Nat.le_refl _) (bi_nar true) hk
def K_hasBuyer (a : Nat) (x : Int32) (I : ow_I) : Bool :=
  if x < 0 then false else if I a 8 ≤ x then false else true
set_option maxRecDepth 100000 in
set_option maxHeartbeats 400000 in
theorem cK_hasBuyer {S : Nat → Option ow_Sh} {I : ow_I} {V : Nat → Nat → Value} {z : Nat} {a : Nat} {x : Int32} (h_a : mk_S S a)  : ow_Cf yX6_hasBuyer cX6_hasBuyer 2 (some .boolean) 0 [.ref a, .int x] (S, I, V, z) (some (.int (bi (K_hasBuyer a x I)))) (S, I, V, z) := by
  refine ow_Cf.of rfl (Nat.le_of_ble_eq_true rfl) (fun X K E F hk => ?_)
  have E : ow_E X RX6 cX6_hasBuyer 2 (ow_rm 0 0 0) := E
  refine or_lv [(0, .ref a), (1, .int x)] rfl ?_
  dsimp only [K_hasBuyer] at hk
  refine or_iload_n E rfl dX6_hasBuyer_0 ?_
  refine or_if_lt 16 E dX6_hasBuyer_1 rfl (fun q1 => ?_) (fun q1 => ?_)
  · replace hk := ite_p (P := fun r : Bool => K (some (.int (bi (r)))) (S, I, V, z)) q1 hk
    refine or_iconst (v := nI 0) E rfl dX6_hasBuyer_16 ?_
    exact or_zret E F dX6_hasBuyer_17 (Nat.le_refl _) (Nat.le_refl _) (bi_nar false) hk
  · replace hk := ite_n (P := fun r : Bool => K (some (.int (bi (r)))) (S, I, V, z)) q1 hk
    refine or_iload_n E rfl dX6_hasBuyer_4 ?_
    refine or_aload_n E rfl dX6_hasBuyer_5 ?_
    refine ot_getI E fl_6_71 dX6_hasBuyer_6 h_a.1 rfl ?_
    refine or_icmp_ge 16 E dX6_hasBuyer_9 rfl (fun q9 => ?_) (fun q9 => ?_)
    · replace hk := ite_p (P := fun r : Bool => K (some (.int (bi (r)))) (S, I, V, z)) q9 hk
      refine or_iconst (v := nI 0) E rfl dX6_hasBuyer_16 ?_
      exact or_zret E F dX6_hasBuyer_17 (Nat.le_refl _) (Nat.le_refl _) (bi_nar false) hk
    · replace hk := ite_n (P := fun r : Bool => K (some (.int (bi (r)))) (S, I, V, z)) q9 hk
      refine or_iconst (v := nI 1) E rfl dX6_hasBuyer_12 ?_
      refine or_goto 17 E dX6_hasBuyer_13 rfl ?_
      exact or_zret E F dX6_hasBuyer_17 (Nat.le_refl _) (Nat.le_refl _) (bi_nar true) hk
def K_hasRoom (a : Nat) (I : ow_I) : Bool :=
  if nI 20 ≤ I a 10 then false else true
set_option maxRecDepth 100000 in
set_option maxHeartbeats 400000 in
theorem cK_hasRoom {S : Nat → Option ow_Sh} {I : ow_I} {V : Nat → Nat → Value} {z : Nat} {a : Nat} (h_a : mk_S S a)  : ow_Cf yX6_hasRoom cX6_hasRoom 1 (some .boolean) 0 [.ref a] (S, I, V, z) (some (.int (bi (K_hasRoom a I)))) (S, I, V, z) := by
  refine ow_Cf.of rfl (Nat.le_of_ble_eq_true rfl) (fun X K E F hk => ?_)
  have E : ow_E X RX6 cX6_hasRoom 1 (ow_rm 0 0 0) := E
  refine or_lv [(0, .ref a)] rfl ?_
  dsimp only [K_hasRoom] at hk
  refine or_aload_n E rfl dX6_hasRoom_0 ?_
  refine ot_getI E fl_6_77 dX6_hasRoom_1 h_a.1 rfl ?_
  refine or_bipush (v := nI 20) E rfl dX6_hasRoom_4 ?_
  refine or_icmp_ge 13 E dX6_hasRoom_6 rfl (fun q6 => ?_) (fun q6 => ?_)
  · replace hk := ite_p (P := fun r : Bool => K (some (.int (bi (r)))) (S, I, V, z)) q6 hk
    refine or_iconst (v := nI 0) E rfl dX6_hasRoom_13 ?_
    exact or_zret E F dX6_hasRoom_14 (Nat.le_refl _) (Nat.le_refl _) (bi_nar false) hk
  · replace hk := ite_n (P := fun r : Bool => K (some (.int (bi (r)))) (S, I, V, z)) q6 hk
    refine or_iconst (v := nI 1) E rfl dX6_hasRoom_9 ?_
    refine or_goto 14 E dX6_hasRoom_10 rfl ?_
    exact or_zret E F dX6_hasRoom_14 (Nat.le_refl _) (Nat.le_refl _) (bi_nar true) hk
end
section
theorem kb_1 {a : Nat} {x : Int32} {I : ow_I} (h : K_hasBarrel a x I = true) : 0 ≤ x ∧ tn x < tn (I a 10) := by
  unfold K_hasBarrel at h
  split at h
  · exact absurd h (by decide)
  · split at h
    · exact absurd h (by decide)
    · exact lt_tn' (i_lt (by assumption)) (i_nlt (by assumption))
theorem ky_1 {a : Nat} {x : Int32} {I : ow_I} (h : K_hasBuyer a x I = true) : 0 ≤ x ∧ tn x < tn (I a 8) := by
  unfold K_hasBuyer at h
  split at h
  · exact absurd h (by decide)
  · split at h
    · exact absurd h (by decide)
    · exact lt_tn' (i_lt (by assumption)) (i_nlt (by assumption))
theorem kr_1 {a : Nat} {I : ow_I} (h : K_hasRoom a I = true) (h0 : 0 ≤ I a 10) : tn (I a 10) < 20 := by
  unfold K_hasRoom at h
  split at h
  · exact absurd h (by decide)
  · rename_i q
    have := (lt_tn (i_lt q) h0).2
    rw [tn_nI (by decide)] at this
    exact this
theorem ko_1 {a : Nat} {I : ow_I} (hV : k_V a I) (h : ¬ I a 13 = -1) : 0 ≤ I a 13 ∧ tn (I a 13) < 20 := by
  rcases hV.2.2.2.1 with q | q
  · exact absurd q h
  · exact q
theorem kl_1 {a : Nat} {I : ow_I} (hV : k_V a I) (h : ¬ I a 15 = -1) : 0 ≤ I a 15 ∧ tn (I a 15) < 6 := by
  rcases hV.2.2.2.2.1 with q | q
  · exact absurd q h
  · exact q
end
section
theorem kq_1 {a : Nat} {I : ow_I} (hV : k_V a I) (h : ¬ I a 12 ≤ 0) : 0 ≤ I (a + 4) 0 ∧ tn (I (a + 4) 0) < 20 := by
  refine hV.2.2.2.2.2.1 0 ?_
  rcases Nat.eq_zero_or_pos (tn (I a 12)) with z | z
  · exact absurd (by rw [← nI_tn hV.2.2.1.1, z]; decide) h
  · exact z
theorem fl_6_12 : ow_fl RX6 12 6 0 := ⟨_, rfl, by decide, ow_T_in 154 (by decide +kernel) (by decide +kernel), ow_ok6⟩
theorem fl_6_22 : ow_fl RX6 22 6 2 := ⟨_, rfl, by decide, ow_T_in 159 (by decide +kernel) (by decide +kernel), ow_ok6⟩
theorem fl_6_27 : ow_fl RX6 27 6 7 := ⟨_, rfl, by decide, ow_T_in 170 (by decide +kernel) (by decide +kernel), ow_ok6⟩
theorem fl_6_33 : ow_fl RX6 33 6 9 := ⟨_, rfl, by decide, ow_T_in 174 (by decide +kernel) (by decide +kernel), ow_ok6⟩
theorem fl_6_37 : ow_fl RX6 37 6 11 := ⟨_, rfl, by decide, ow_T_in 178 (by decide +kernel) (by decide +kernel), ow_ok6⟩
theorem fl_6_41 : ow_fl RX6 41 6 13 := ⟨_, rfl, by decide, ow_T_in 182 (by decide +kernel) (by decide +kernel), ow_ok6⟩
theorem fl_6_44 : ow_fl RX6 44 6 14 := ⟨_, rfl, by decide, ow_T_in 184 (by decide +kernel) (by decide +kernel), ow_ok6⟩
theorem fl_6_47 : ow_fl RX6 47 6 15 := ⟨_, rfl, by decide, ow_T_in 186 (by decide +kernel) (by decide +kernel), ow_ok6⟩
theorem fl_6_50 : ow_fl RX6 50 6 16 := ⟨_, rfl, by decide, ow_T_in 188 (by decide +kernel) (by decide +kernel), ow_ok6⟩
theorem fl_6_59 : ow_fl RX6 59 6 3 := ⟨_, rfl, by decide, ow_T_in 162 (by decide +kernel) (by decide +kernel), ow_ok6⟩
theorem fl_6_62 : ow_fl RX6 62 6 4 := ⟨_, rfl, by decide, ow_T_in 164 (by decide +kernel) (by decide +kernel), ow_ok6⟩
theorem fl_6_65 : ow_fl RX6 65 6 5 := ⟨_, rfl, by decide, ow_T_in 166 (by decide +kernel) (by decide +kernel), ow_ok6⟩
theorem fl_6_68 : ow_fl RX6 68 6 6 := ⟨_, rfl, by decide, ow_T_in 168 (by decide +kernel) (by decide +kernel), ow_ok6⟩
theorem fl_6_89 : ow_fl RX6 89 6 12 := ⟨_, rfl, by decide, ow_T_in 180 (by decide +kernel) (by decide +kernel), ow_ok6⟩
theorem fl_6_102 : ow_fl RX6 102 1 7 := ⟨_, rfl, by decide, ow_T_in 125 (by decide +kernel) (by decide +kernel), ow_ok1⟩
theorem fl_6_134 : ow_fl RX6 134 1 5 := ⟨_, rfl, by decide, ow_T_in 119 (by decide +kernel) (by decide +kernel), ow_ok1⟩
theorem fl_6_160 : ow_fl RX6 160 2 0 := ⟨_, rfl, by decide, ow_T_in 74 (by decide +kernel) (by decide +kernel), ow_ok2⟩
theorem fl_6_184 : ow_fl RX6 184 2 4 := ⟨_, rfl, by decide, ow_T_in 84 (by decide +kernel) (by decide +kernel), ow_ok2⟩
theorem fl_6_252 : ow_fl RX6 252 2 3 := ⟨_, rfl, by decide, ow_T_in 81 (by decide +kernel) (by decide +kernel), ow_ok2⟩
theorem fl_6_255 : ow_fl RX6 255 1 8 := ⟨_, rfl, by decide, ow_T_in 128 (by decide +kernel) (by decide +kernel), ow_ok1⟩
theorem fl_6_258 : ow_fl RX6 258 1 9 := ⟨_, rfl, by decide, ow_T_in 131 (by decide +kernel) (by decide +kernel), ow_ok1⟩
theorem fl_6_261 : ow_fl RX6 261 1 6 := ⟨_, rfl, by decide, ow_T_in 122 (by decide +kernel) (by decide +kernel), ow_ok1⟩
theorem fw_6_4 : ∃ r : vw_C, ow_cl[6]? = some r ∧ (r.2.1 4).2.2.2 = false ∧ parseFieldDescriptor (r.2.1 4).2.2.1 = some .int := ⟨_, rfl, rfl, by decide +kernel⟩
theorem fw_6_5 : ∃ r : vw_C, ow_cl[6]? = some r ∧ (r.2.1 5).2.2.2 = false ∧ parseFieldDescriptor (r.2.1 5).2.2.1 = some .int := ⟨_, rfl, rfl, by decide +kernel⟩
theorem fw_6_6 : ∃ r : vw_C, ow_cl[6]? = some r ∧ (r.2.1 6).2.2.2 = false ∧ parseFieldDescriptor (r.2.1 6).2.2.1 = some .int := ⟨_, rfl, rfl, by decide +kernel⟩
theorem fw_6_8 : ∃ r : vw_C, ow_cl[6]? = some r ∧ (r.2.1 8).2.2.2 = false ∧ parseFieldDescriptor (r.2.1 8).2.2.1 = some .int := ⟨_, rfl, rfl, by decide +kernel⟩
theorem fw_6_12 : ∃ r : vw_C, ow_cl[6]? = some r ∧ (r.2.1 12).2.2.2 = false ∧ parseFieldDescriptor (r.2.1 12).2.2.1 = some .int := ⟨_, rfl, rfl, by decide +kernel⟩
theorem fw_6_13 : ∃ r : vw_C, ow_cl[6]? = some r ∧ (r.2.1 13).2.2.2 = false ∧ parseFieldDescriptor (r.2.1 13).2.2.1 = some .int := ⟨_, rfl, rfl, by decide +kernel⟩
theorem fw_6_14 : ∃ r : vw_C, ow_cl[6]? = some r ∧ (r.2.1 14).2.2.2 = false ∧ parseFieldDescriptor (r.2.1 14).2.2.1 = some .int := ⟨_, rfl, rfl, by decide +kernel⟩
theorem fw_6_15 : ∃ r : vw_C, ow_cl[6]? = some r ∧ (r.2.1 15).2.2.2 = false ∧ parseFieldDescriptor (r.2.1 15).2.2.1 = some .int := ⟨_, rfl, rfl, by decide +kernel⟩
theorem fw_6_16 : ∃ r : vw_C, ow_cl[6]? = some r ∧ (r.2.1 16).2.2.2 = false ∧ parseFieldDescriptor (r.2.1 16).2.2.1 = some .int := ⟨_, rfl, rfl, by decide +kernel⟩
theorem lk_6_98 : ow_lv RX6 98 yX6_hasBarrel cX6_hasBarrel 2 (some .boolean) 1 := ⟨ow_T_in 1086 (by decide +kernel) (by decide +kernel), ow_T_in 948 (by decide +kernel) (by decide +kernel), ow_T_in 949 (by decide +kernel) (by decide +kernel), ow_T_in 2 (by decide +kernel) (by decide +kernel), ow_T_in 950 (by decide +kernel) (by decide +kernel), ⟨by decide +kernel, by decide +kernel, by decide +kernel⟩⟩
theorem lk_6_115 : ow_lv RX6 115 yX2_begin cX2_begin 4 none 3 := ⟨ow_T_in 490 (by decide +kernel) (by decide +kernel), ow_T_in 491 (by decide +kernel) (by decide +kernel), ow_T_in 492 (by decide +kernel) (by decide +kernel), ow_T_in 4 (by decide +kernel) (by decide +kernel), ow_T_in 493 (by decide +kernel) (by decide +kernel), ⟨by decide +kernel, by decide +kernel, by decide +kernel⟩⟩
theorem lk_6_127 : ow_lv RX6 127 yX6_enqueue cX6_enqueue 2 none 1 := ⟨ow_T_in 530 (by decide +kernel) (by decide +kernel), ow_T_in 532 (by decide +kernel) (by decide +kernel), ow_T_sel 16 (by decide +kernel) (by decide +kernel), ow_T_in 2 (by decide +kernel) (by decide +kernel), ow_T_in 533 (by decide +kernel) (by decide +kernel), ⟨by decide +kernel, by decide +kernel, by decide +kernel⟩⟩
theorem lk_6_153 : ow_lv RX6 153 yX6_dequeue cX6_dequeue 4 none 1 := ⟨ow_T_in 1120 (by decide +kernel) (by decide +kernel), ow_T_in 1122 (by decide +kernel) (by decide +kernel), ow_T_sel 22 (by decide +kernel) (by decide +kernel), ow_T_in 2 (by decide +kernel) (by decide +kernel), ow_T_in 1123 (by decide +kernel) (by decide +kernel), ⟨by decide +kernel, by decide +kernel, by decide +kernel⟩⟩
theorem lk_6_156 : ow_lv RX6 156 yX6_hasBuyer cX6_hasBuyer 2 (some .boolean) 1 := ⟨ow_T_in 1046 (by decide +kernel) (by decide +kernel), ow_T_in 1018 (by decide +kernel) (by decide +kernel), ow_T_in 1019 (by decide +kernel) (by decide +kernel), ow_T_in 2 (by decide +kernel) (by decide +kernel), ow_T_in 1020 (by decide +kernel) (by decide +kernel), ⟨by decide +kernel, by decide +kernel, by decide +kernel⟩⟩
theorem lk_6_166 : ow_lv RX6 166 yX2_valueOf cX2_valueOf 2 (some .double) 1 := ⟨ow_T_in 1221 (by decide +kernel) (by decide +kernel), ow_T_in 1222 (by decide +kernel) (by decide +kernel), ow_T_in 1223 (by decide +kernel) (by decide +kernel), ow_T_in 4 (by decide +kernel) (by decide +kernel), ow_T_in 1224 (by decide +kernel) (by decide +kernel), ⟨by decide +kernel, by decide +kernel, by decide +kernel⟩⟩
theorem lk_6_170 : ow_lv RX6 170 yX8_isLow cX8_isLow 1 (some .boolean) 0 := ⟨ow_T_in 1045 (by decide +kernel) (by decide +kernel), ow_T_in 916 (by decide +kernel) (by decide +kernel), ow_T_in 917 (by decide +kernel) (by decide +kernel), ow_T_in 3 (by decide +kernel) (by decide +kernel), ow_T_in 918 (by decide +kernel) (by decide +kernel), ⟨by decide +kernel, by decide +kernel, by decide +kernel⟩⟩
theorem lk_6_173 : ow_lv RX6 173 yX6_nextPrice cX6_nextPrice 1 (some .int) 0 := ⟨ow_T_in 1047 (by decide +kernel) (by decide +kernel), ow_T_in 1030 (by decide +kernel) (by decide +kernel), ow_T_in 1031 (by decide +kernel) (by decide +kernel), ow_T_in 2 (by decide +kernel) (by decide +kernel), ow_T_in 1032 (by decide +kernel) (by decide +kernel), ⟨by decide +kernel, by decide +kernel, by decide +kernel⟩⟩
theorem lk_6_177 : ow_lv RX6 177 yX6_withFee cX6_withFee 2 (some .int) 1 := ⟨ow_T_in 1048 (by decide +kernel) (by decide +kernel), ow_T_in 1049 (by decide +kernel) (by decide +kernel), ow_T_in 1050 (by decide +kernel) (by decide +kernel), ow_T_in 2 (by decide +kernel) (by decide +kernel), ow_T_in 1051 (by decide +kernel) (by decide +kernel), ⟨by decide +kernel, by decide +kernel, by decide +kernel⟩⟩
def K_isWaiting (a : Nat) (x : Int32) (I : ow_I) : Bool :=
  if K_hasBarrel a x I then if I (a + 11 + 2 * (tn x)) 7 = 0 then true else false else false
set_option maxRecDepth 100000 in
set_option maxHeartbeats 400000 in
theorem cK_isWaiting {S : Nat → Option ow_Sh} {I : ow_I} {V : Nat → Nat → Value} {z : Nat} {a : Nat} {x : Int32} (h_a : mk_S S a) (hV : k_V a I) : ow_Cf yX6_isWaiting cX6_isWaiting 2 (some .boolean) 1 [.ref a, .int x] (S, I, V, z) (some (.int (bi (K_isWaiting a x I)))) (S, I, V, z) := by
  refine ow_Cf.of rfl (Nat.le_of_ble_eq_true rfl) (fun X K E F hk => ?_)
  have E : ow_E X RX6 cX6_isWaiting 2 (ow_rm 1 0 0) := E
  refine or_lv [(0, .ref a), (1, .int x)] rfl ?_
  dsimp only [K_isWaiting] at hk
  refine or_aload_n E rfl dX6_isWaiting_0 ?_
  refine or_iload_n E rfl dX6_isWaiting_1 ?_
  refine or_cV1r (cK_hasBarrel  h_a ) E lk_6_98 dX6_isWaiting_2 h_a.1 rfl rfl (by decide) (by decide) ⟨Nat.le_refl _, Nat.le_refl _⟩ (Nat.le_of_ble_eq_true rfl) ?_
  refine or_if_eqZ 24 E dX6_isWaiting_5 rfl (fun q5 => ?_) (fun q5 => ?_)
  · replace hk := ite_n (P := fun r : Bool => K (some (.int (bi (r)))) (S, I, V, z)) (bz_neg q5) hk
    refine or_iconst (v := nI 0) E rfl dX6_isWaiting_24 ?_
    exact or_zret E F dX6_isWaiting_25 (Nat.le_refl _) (Nat.le_refl _) (bi_nar false) hk
  · replace hk := ite_p (P := fun r : Bool => K (some (.int (bi (r)))) (S, I, V, z)) q5 hk
    refine or_aload_n E rfl dX6_isWaiting_8 ?_
    refine ot_getC E fl_6_33 dX6_isWaiting_9 h_a.1 rfl ?_
    refine or_iload_n E rfl dX6_isWaiting_12 ?_
    refine or_top (nI_tn (kb_1 q5).1).symm ?_
    refine ot_aald (j := tn x) E dX6_isWaiting_13 h_a.2.2.2.1 rfl rfl (by have := (kb_1 q5).2; have := hV.2.1.2; omega) (Nat.le_of_ble_eq_true rfl) ?_
    refine ot_getI E fl_6_102 dX6_isWaiting_14 (h_a.2.2.2.2.2.2 (tn x) (by have := (kb_1 q5).2; have := hV.2.1.2; omega)).1 rfl ?_
    refine or_if_ne 24 E dX6_isWaiting_17 rfl (fun q17 => ?_) (fun q17 => ?_)
    · replace hk := ite_n (P := fun r : Bool => K (some (.int (bi (r)))) (S, I, V, z)) q17 hk
      refine or_iconst (v := nI 0) E rfl dX6_isWaiting_24 ?_
      exact or_zret E F dX6_isWaiting_25 (Nat.le_refl _) (Nat.le_refl _) (bi_nar false) hk
    · replace hk := ite_p (P := fun r : Bool => K (some (.int (bi (r)))) (S, I, V, z)) q17 hk
      refine or_iconst (v := nI 1) E rfl dX6_isWaiting_20 ?_
      refine or_goto 25 E dX6_isWaiting_21 rfl ?_
      exact or_zret E F dX6_isWaiting_25 (Nat.le_refl _) (Nat.le_refl _) (bi_nar true) hk
def K_withFee (a : Nat) (p : Int32) (I : ow_I) : Int32 :=
  p + ((p * (I a 3)) / (nI 100))
set_option maxRecDepth 100000 in
set_option maxHeartbeats 400000 in
theorem cK_withFee {S : Nat → Option ow_Sh} {I : ow_I} {V : Nat → Nat → Value} {z : Nat} {a : Nat} {p : Int32} (h_a : mk_S S a)  : ow_Cf yX6_withFee cX6_withFee 2 (some .int) 0 [.ref a, .int p] (S, I, V, z) (some (.int (K_withFee a p I))) (S, I, V, z) := by
  refine ow_Cf.of rfl (Nat.le_of_ble_eq_true rfl) (fun X K E F hk => ?_)
  have E : ow_E X RX6 cX6_withFee 2 (ow_rm 0 0 0) := E
  refine or_lv [(0, .ref a), (1, .int p)] rfl ?_
  dsimp only [K_withFee] at hk
  refine or_iload_n E rfl dX6_withFee_0 ?_
  refine or_iload_n E rfl dX6_withFee_1 ?_
  refine or_aload_n E rfl dX6_withFee_2 ?_
  refine ot_getI E fl_6_59 dX6_withFee_3 h_a.1 rfl ?_
  refine or_imul E dX6_withFee_6 ?_
  refine or_bipush (v := nI 100) E rfl dX6_withFee_7 ?_
  refine or_idiv E (by decide) dX6_withFee_9 ?_
  refine or_iadd E dX6_withFee_10 ?_
  exact or_iret E F dX6_withFee_11 (Nat.le_refl _) (Nat.le_refl _) hk
def K_nextPrice (a : Nat) (I : ow_I) : Int32 :=
  if I a 13 = (-1) then (-1) else if I a 15 = (-1) then I (a + 11 + 2 * (tn (I a 13))) 5 else I a 14 + (I a 2)
set_option maxRecDepth 100000 in
set_option maxHeartbeats 400000 in
theorem cK_nextPrice {S : Nat → Option ow_Sh} {I : ow_I} {V : Nat → Nat → Value} {z : Nat} {a : Nat} (h_a : mk_S S a) (hV : k_V a I) : ow_Cf yX6_nextPrice cX6_nextPrice 1 (some .int) 0 [.ref a] (S, I, V, z) (some (.int (K_nextPrice a I))) (S, I, V, z) := by
  refine ow_Cf.of rfl (Nat.le_of_ble_eq_true rfl) (fun X K E F hk => ?_)
  have E : ow_E X RX6 cX6_nextPrice 1 (ow_rm 0 0 0) := E
  refine or_lv [(0, .ref a)] rfl ?_
  dsimp only [K_nextPrice] at hk
  refine or_aload_n E rfl dX6_nextPrice_0 ?_
  refine ot_getI E fl_6_41 dX6_nextPrice_1 h_a.1 rfl ?_
  refine or_iconst (v := -1) E rfl dX6_nextPrice_4 ?_
  refine or_icmp_ne 10 E dX6_nextPrice_5 rfl (fun q5 => ?_) (fun q5 => ?_)
  · replace hk := ite_n (P := fun r : Int32 => K (some (.int (r))) (S, I, V, z)) q5 hk
    refine or_aload_n E rfl dX6_nextPrice_10 ?_
    refine ot_getI E fl_6_47 dX6_nextPrice_11 h_a.1 rfl ?_
    refine or_iconst (v := -1) E rfl dX6_nextPrice_14 ?_
    refine or_icmp_ne 33 E dX6_nextPrice_15 rfl (fun q15 => ?_) (fun q15 => ?_)
    · replace hk := ite_n (P := fun r : Int32 => K (some (.int (r))) (S, I, V, z)) q15 hk
      refine or_aload_n E rfl dX6_nextPrice_33 ?_
      refine ot_getI E fl_6_44 dX6_nextPrice_34 h_a.1 rfl ?_
      refine or_aload_n E rfl dX6_nextPrice_37 ?_
      refine ot_getI E fl_6_22 dX6_nextPrice_38 h_a.1 rfl ?_
      refine or_iadd E dX6_nextPrice_41 ?_
      exact or_iret E F dX6_nextPrice_42 (Nat.le_refl _) (Nat.le_refl _) hk
    · replace hk := ite_p (P := fun r : Int32 => K (some (.int (r))) (S, I, V, z)) q15 hk
      refine or_aload_n E rfl dX6_nextPrice_18 ?_
      refine ot_getC E fl_6_33 dX6_nextPrice_19 h_a.1 rfl ?_
      refine or_aload_n E rfl dX6_nextPrice_22 ?_
      refine ot_getI E fl_6_41 dX6_nextPrice_23 h_a.1 rfl ?_
      refine or_top (nI_tn (ko_1 hV q5).1).symm ?_
      refine ot_aald (j := tn (I a 13)) E dX6_nextPrice_26 h_a.2.2.2.1 rfl rfl (ko_1 hV q5).2 (Nat.le_of_ble_eq_true rfl) ?_
      refine ot_getI E fl_6_134 dX6_nextPrice_27 (h_a.2.2.2.2.2.2 (tn (I a 13)) (ko_1 hV q5).2).1 rfl ?_
      refine or_goto 42 E dX6_nextPrice_30 rfl ?_
      exact or_iret E F dX6_nextPrice_42 (Nat.le_refl _) (Nat.le_refl _) hk
  · replace hk := ite_p (P := fun r : Int32 => K (some (.int (r))) (S, I, V, z)) q5 hk
    refine or_iconst (v := -1) E rfl dX6_nextPrice_8 ?_
    exact or_iret E F dX6_nextPrice_9 (Nat.le_refl _) (Nat.le_refl _) hk
def K_isIdle (a : Nat) (I : ow_I) : Bool :=
  if I a 13 = (-1) then if I a 12 = 0 then true else false else false
set_option maxRecDepth 100000 in
set_option maxHeartbeats 400000 in
theorem cK_isIdle {S : Nat → Option ow_Sh} {I : ow_I} {V : Nat → Nat → Value} {z : Nat} {a : Nat} (h_a : mk_S S a)  : ow_Cf yX6_isIdle cX6_isIdle 1 (some .boolean) 0 [.ref a] (S, I, V, z) (some (.int (bi (K_isIdle a I)))) (S, I, V, z) := by
  refine ow_Cf.of rfl (Nat.le_of_ble_eq_true rfl) (fun X K E F hk => ?_)
  have E : ow_E X RX6 cX6_isIdle 1 (ow_rm 0 0 0) := E
  refine or_lv [(0, .ref a)] rfl ?_
  dsimp only [K_isIdle] at hk
  refine or_aload_n E rfl dX6_isIdle_0 ?_
  refine ot_getI E fl_6_41 dX6_isIdle_1 h_a.1 rfl ?_
  refine or_iconst (v := -1) E rfl dX6_isIdle_4 ?_
  refine or_icmp_ne 19 E dX6_isIdle_5 rfl (fun q5 => ?_) (fun q5 => ?_)
  · replace hk := ite_n (P := fun r : Bool => K (some (.int (bi (r)))) (S, I, V, z)) q5 hk
    refine or_iconst (v := nI 0) E rfl dX6_isIdle_19 ?_
    exact or_zret E F dX6_isIdle_20 (Nat.le_refl _) (Nat.le_refl _) (bi_nar false) hk
  · replace hk := ite_p (P := fun r : Bool => K (some (.int (bi (r)))) (S, I, V, z)) q5 hk
    refine or_aload_n E rfl dX6_isIdle_8 ?_
    refine ot_getI E fl_6_89 dX6_isIdle_9 h_a.1 rfl ?_
    refine or_if_ne 19 E dX6_isIdle_12 rfl (fun q12 => ?_) (fun q12 => ?_)
    · replace hk := ite_n (P := fun r : Bool => K (some (.int (bi (r)))) (S, I, V, z)) q12 hk
      refine or_iconst (v := nI 0) E rfl dX6_isIdle_19 ?_
      exact or_zret E F dX6_isIdle_20 (Nat.le_refl _) (Nat.le_refl _) (bi_nar false) hk
    · replace hk := ite_p (P := fun r : Bool => K (some (.int (bi (r)))) (S, I, V, z)) q12 hk
      refine or_iconst (v := nI 1) E rfl dX6_isIdle_15 ?_
      refine or_goto 20 E dX6_isIdle_16 rfl ?_
      exact or_zret E F dX6_isIdle_20 (Nat.le_refl _) (Nat.le_refl _) (bi_nar true) hk
def K_endBidding (a : Nat) (I : ow_I) : ow_I :=
  lt (ow_u I a 13 ((-1))) (fun (I1 : ow_I) => lt (ow_u I1 a 14 ((-1))) (fun (I2 : ow_I) => lt (ow_u I2 a 15 ((-1))) (fun (I3 : ow_I) => lt (ow_u I3 a 16 ((-1))) (fun (I4 : ow_I) => I4))))
set_option maxRecDepth 100000 in
set_option maxHeartbeats 400000 in
theorem cK_endBidding {S : Nat → Option ow_Sh} {I : ow_I} {V : Nat → Nat → Value} {z : Nat} {a : Nat} (h_a : mk_S S a)  : ow_Cf yX6_endBidding cX6_endBidding 1 none 0 [.ref a] (S, I, V, z) none (S, K_endBidding a I, V, z) := by
  refine ow_Cf.of rfl (Nat.le_of_ble_eq_true rfl) (fun X K E F hk => ?_)
  have E : ow_E X RX6 cX6_endBidding 1 (ow_rm 0 0 0) := E
  refine or_lv [(0, .ref a)] rfl ?_
  dsimp only [K_endBidding] at hk
  refine or_aload_n E rfl dX6_endBidding_0 ?_
  refine or_iconst (v := -1) E rfl dX6_endBidding_1 ?_
  refine ot_putI E fl_6_41 fw_6_13 dX6_endBidding_2 h_a.1 rfl ?_
  obtain ⟨I1, hI1⟩ : ∃ y_ : ow_I, y_ = ow_u I a 13 ((-1)) := ⟨_, rfl⟩
  replace hk := lt_k (P := fun r : ow_I => K none (S, r, V, z)) hI1 hk
  refine or_nmI hI1 ?_
  refine or_aload_n E rfl dX6_endBidding_5 ?_
  refine or_iconst (v := -1) E rfl dX6_endBidding_6 ?_
  refine ot_putI E fl_6_44 fw_6_14 dX6_endBidding_7 h_a.1 rfl ?_
  obtain ⟨I2, hI2⟩ : ∃ y_ : ow_I, y_ = ow_u I1 a 14 ((-1)) := ⟨_, rfl⟩
  replace hk := lt_k (P := fun r : ow_I => K none (S, r, V, z)) hI2 hk
  refine or_nmI hI2 ?_
  refine or_aload_n E rfl dX6_endBidding_10 ?_
  refine or_iconst (v := -1) E rfl dX6_endBidding_11 ?_
  refine ot_putI E fl_6_47 fw_6_15 dX6_endBidding_12 h_a.1 rfl ?_
  obtain ⟨I3, hI3⟩ : ∃ y_ : ow_I, y_ = ow_u I2 a 15 ((-1)) := ⟨_, rfl⟩
  replace hk := lt_k (P := fun r : ow_I => K none (S, r, V, z)) hI3 hk
  refine or_nmI hI3 ?_
  refine or_aload_n E rfl dX6_endBidding_15 ?_
  refine or_iconst (v := -1) E rfl dX6_endBidding_16 ?_
  refine ot_putI E fl_6_50 fw_6_16 dX6_endBidding_17 h_a.1 rfl ?_
  obtain ⟨I4, hI4⟩ : ∃ y_ : ow_I, y_ = ow_u I3 a 16 ((-1)) := ⟨_, rfl⟩
  replace hk := lt_k (P := fun r : ow_I => K none (S, r, V, z)) hI4 hk
  refine or_nmI hI4 ?_
  exact or_vret E F dX6_endBidding_20 (Nat.le_refl _) (Nat.le_refl _) hk
def K_enqueue (a : Nat) (x : Int32) (I : ow_I) : ow_I :=
  if 20 ≤ tn (I a 12) then I else lt (ow_u I (a + 4) (tn (I a 12)) x) (fun (I1 : ow_I) => lt (ow_u I1 a 12 (I1 a 12 + (nI 1))) (fun (I2 : ow_I) => I2))
set_option maxRecDepth 100000 in
set_option maxHeartbeats 400000 in
theorem cK_enqueue {S : Nat → Option ow_Sh} {I : ow_I} {V : Nat → Nat → Value} {z : Nat} {a : Nat} {x : Int32} (h_a : mk_S S a) (h12 : 0 ≤ I a 12) (h12b : tn (I a 12) ≤ 20) : ow_Cf yX6_enqueue cX6_enqueue 2 none 0 [.ref a, .int x] (S, I, V, z) none (S, K_enqueue a x I, V, z) := by
  refine ow_Cf.of rfl (Nat.le_of_ble_eq_true rfl) (fun X K E F hk => ?_)
  have E : ow_E X RX6 cX6_enqueue 2 (ow_rm 0 0 0) := E
  refine or_lv [(0, .ref a), (1, .int x)] rfl ?_
  dsimp only [K_enqueue] at hk
  refine or_aload_n E rfl dX6_enqueue_0 ?_
  refine ot_getI E fl_6_89 dX6_enqueue_1 h_a.1 rfl ?_
  refine or_top (nI_tn h12).symm ?_
  refine or_bipush (v := nI 20) E rfl dX6_enqueue_4 ?_
  refine or_icmp_geN 29 E dX6_enqueue_6 rfl (by omega) (by omega) (fun q6 => ?_) (fun q6 => ?_)
  · replace hk := ite_p (P := fun r : ow_I => K none (S, r, V, z)) q6 hk
    exact or_vret E F dX6_enqueue_29 (Nat.le_refl _) (Nat.le_refl _) hk
  · replace hk := ite_n (P := fun r : ow_I => K none (S, r, V, z)) q6 hk
    refine or_aload_n E rfl dX6_enqueue_9 ?_
    refine ot_getC E fl_6_37 dX6_enqueue_10 h_a.1 rfl ?_
    refine or_aload_n E rfl dX6_enqueue_13 ?_
    refine ot_getI E fl_6_89 dX6_enqueue_14 h_a.1 rfl ?_
    refine or_top (nI_tn h12).symm ?_
    refine or_iload_n E rfl dX6_enqueue_17 ?_
    refine ot_iast (j := tn (I a 12)) E dX6_enqueue_18 h_a.2.2.2.2.1 rfl rfl (by omega) (Nat.le_of_ble_eq_true rfl) ?_
    obtain ⟨I1, hI1⟩ : ∃ y_ : ow_I, y_ = ow_u I (a + 4) (tn (I a 12)) x := ⟨_, rfl⟩
    replace hk := lt_k (P := fun r : ow_I => K none (S, r, V, z)) hI1 hk
    refine or_nmI hI1 ?_
    refine or_aload_n E rfl dX6_enqueue_19 ?_
    refine or_dup E rfl dX6_enqueue_20 ?_
    refine ot_getI E fl_6_89 dX6_enqueue_21 h_a.1 rfl ?_
    refine or_iconst (v := nI 1) E rfl dX6_enqueue_24 ?_
    refine or_iadd E dX6_enqueue_25 ?_
    refine ot_putI E fl_6_89 fw_6_12 dX6_enqueue_26 h_a.1 rfl ?_
    obtain ⟨I2, hI2⟩ : ∃ y_ : ow_I, y_ = ow_u I1 a 12 (I1 a 12 + (nI 1)) := ⟨_, rfl⟩
    replace hk := lt_k (P := fun r : ow_I => K none (S, r, V, z)) hI2 hk
    refine or_nmI hI2 ?_
    exact or_vret E F dX6_enqueue_29 (Nat.le_refl _) (Nat.le_refl _) hk
def K_dequeue_L4 (a : Nat) (x : Int32) : Nat → ow_I → Nat → Nat → ow_I
  | 0, I, _, _ => I
  | n + 1, I, k, i => if tn (I a 12) ≤ i then lt (ow_u I a 12 (nI k)) (fun (I1 : ow_I) => I1) else if I (a + 4) i = x then K_dequeue_L4 a x n I k (i + 1) else lt (ow_u I (a + 4) k (I (a + 4) i)) (fun (I2 : ow_I) => K_dequeue_L4 a x n I2 (k + 1) (i + 1))
def K_dequeue (a : Nat) (x : Int32) (I : ow_I) : ow_I :=
  K_dequeue_L4 a x 21 I 0 0
set_option maxRecDepth 100000 in
set_option maxHeartbeats 400000 in
theorem cK_dequeue {S : Nat → Option ow_Sh} {I : ow_I} {V : Nat → Nat → Value} {z : Nat} {a : Nat} {x : Int32} (h_a : mk_S S a) (h12 : 0 ≤ I a 12) (h12b : tn (I a 12) ≤ 20) : ow_Cf yX6_dequeue cX6_dequeue 4 none 0 [.ref a, .int x] (S, I, V, z) none (S, K_dequeue a x I, V, z) := by
  refine ow_Cf.of rfl (Nat.le_of_ble_eq_true rfl) (fun X K E F hk => ?_)
  have E : ow_E X RX6 cX6_dequeue 4 (ow_rm 0 0 0) := E
  refine or_lv [(0, .ref a), (1, .int x)] rfl ?_
  have L4 : ∀ (n : Nat) (I : ow_I) (k : Nat) (i : Nat) (h12 : 0 ≤ I a 12) (h12b : tn (I a 12) ≤ 20) (hki : k ≤ i) (hi : i ≤ 20) (hm : 20 - i < n) (hk : K none (S, K_dequeue_L4 a x n I k i, V, z)), ow_W X 0 0 (S, I, V, z) 4 [(0, .ref a), (1, .int x), (2, .int (nI k)), (3, .int (nI i))] [] := by
    intro n
    induction n with
    | zero => intro I k i h12 h12b hki hi hm; omega
    | succ n ih =>
      intro I k i h12 h12b hki hi hm hk
      dsimp only [K_dequeue_L4] at hk
      refine or_iload_n E rfl dX6_dequeue_4 ?_
      refine or_aload_n E rfl dX6_dequeue_5 ?_
      refine ot_getI E fl_6_89 dX6_dequeue_6 h_a.1 rfl ?_
      refine or_top (nI_tn h12).symm ?_
      refine or_icmp_geN 43 E dX6_dequeue_9 rfl (by omega) (by omega) (fun q9 => ?_) (fun q9 => ?_)
      · replace hk := ite_p (P := fun r : ow_I => K none (S, r, V, z)) q9 hk
        refine or_aload_n E rfl dX6_dequeue_43 ?_
        refine or_iload_n E rfl dX6_dequeue_44 ?_
        refine ot_putI E fl_6_89 fw_6_12 dX6_dequeue_45 h_a.1 rfl ?_
        obtain ⟨I1, hI1⟩ : ∃ y_ : ow_I, y_ = ow_u I a 12 (nI k) := ⟨_, rfl⟩
        replace hk := lt_k (P := fun r : ow_I => K none (S, r, V, z)) hI1 hk
        refine or_nmI hI1 ?_
        exact or_vret E F dX6_dequeue_48 (Nat.le_refl _) (Nat.le_refl _) hk
      · replace hk := ite_n (P := fun r : ow_I => K none (S, r, V, z)) q9 hk
        refine or_aload_n E rfl dX6_dequeue_12 ?_
        refine ot_getC E fl_6_37 dX6_dequeue_13 h_a.1 rfl ?_
        refine or_iload_n E rfl dX6_dequeue_16 ?_
        refine ot_iald (j := i) E dX6_dequeue_17 h_a.2.2.2.2.1 rfl rfl (by omega) (Nat.le_of_ble_eq_true rfl) ?_
        refine or_iload_n E rfl dX6_dequeue_18 ?_
        refine or_icmp_eq 37 E dX6_dequeue_19 rfl (fun q19 => ?_) (fun q19 => ?_)
        · replace hk := ite_p (P := fun r : ow_I => K none (S, r, V, z)) q19 hk
          refine or_iincN (c := 1) E dX6_dequeue_37 rfl rfl (by decide) ?_
          refine or_goto 4 E dX6_dequeue_40 rfl ?_
          refine or_lv _ ?_ (ih _ _ _ h12 h12b (by omega) (by omega) (by omega) hk)
          rfl
        · replace hk := ite_n (P := fun r : ow_I => K none (S, r, V, z)) q19 hk
          refine or_aload_n E rfl dX6_dequeue_22 ?_
          refine ot_getC E fl_6_37 dX6_dequeue_23 h_a.1 rfl ?_
          refine or_iload_n E rfl dX6_dequeue_26 ?_
          refine or_aload_n E rfl dX6_dequeue_27 ?_
          refine ot_getC E fl_6_37 dX6_dequeue_28 h_a.1 rfl ?_
          refine or_iload_n E rfl dX6_dequeue_31 ?_
          refine ot_iald (j := i) E dX6_dequeue_32 h_a.2.2.2.2.1 rfl rfl (by omega) (Nat.le_of_ble_eq_true rfl) ?_
          refine ot_iast (j := k) E dX6_dequeue_33 h_a.2.2.2.2.1 rfl rfl (by omega) (Nat.le_of_ble_eq_true rfl) ?_
          obtain ⟨I2, hI2⟩ : ∃ y_ : ow_I, y_ = ow_u I (a + 4) k (I (a + 4) i) := ⟨_, rfl⟩
          replace hk := lt_k (P := fun r : ow_I => K none (S, r, V, z)) hI2 hk
          refine or_nmI hI2 ?_
          refine or_iincN (c := 1) E dX6_dequeue_34 rfl rfl (by decide) ?_
          refine or_iincN (c := 1) E dX6_dequeue_37 rfl rfl (by decide) ?_
          refine or_goto 4 E dX6_dequeue_40 rfl ?_
          refine or_lv _ ?_ (ih _ _ _ (by subst hI2; rw [rr_u (by omega)]; exact h12) (by subst hI2; rw [rr_u (by omega)]; exact h12b) (by subst hI2; omega) (by subst hI2; omega) (by omega) hk)
          rfl
  dsimp only [K_dequeue] at hk
  refine or_iconst (v := nI 0) E rfl dX6_dequeue_0 ?_
  refine or_istore_n E dX6_dequeue_1 (by decide) ?_
  refine or_iconst (v := nI 0) E rfl dX6_dequeue_2 ?_
  refine or_istore_n E dX6_dequeue_3 (by decide) ?_
  refine or_lv _ ?_ (L4 21 _ _ _ h12 h12b (by decide) (by decide) (by decide) hk)
  rfl
def K_takeBuyer (a : Nat) (p : Int32) (s : Int32) (f : Int32) (I : ow_I) : ow_I :=
  if 6 ≤ tn (I a 8) then I else lt (Y_begin (a + 5 + (tn (I a 8))) p s f I) (fun (I1 : ow_I) => lt (ow_u I1 a 8 (I1 a 8 + (nI 1))) (fun (I2 : ow_I) => lt (ow_u I2 a 6 (I2 a 6 + p)) (fun (I3 : ow_I) => I3)))
set_option maxRecDepth 100000 in
set_option maxHeartbeats 400000 in
theorem cK_takeBuyer {S : Nat → Option ow_Sh} {I : ow_I} {V : Nat → Nat → Value} {z : Nat} {a : Nat} {p : Int32} {s : Int32} {f : Int32} (h_a : mk_S S a) (hV : k_V a I) : ow_Cf yX6_takeBuyer cX6_takeBuyer 4 none 1 [.ref a, .int p, .int s, .int f] (S, I, V, z) none (S, K_takeBuyer a p s f I, V, z) := by
  refine ow_Cf.of rfl (Nat.le_of_ble_eq_true rfl) (fun X K E F hk => ?_)
  have E : ow_E X RX6 cX6_takeBuyer 4 (ow_rm 1 0 0) := E
  refine or_lv [(0, .ref a), (1, .int p), (2, .int s), (3, .int f)] rfl ?_
  have h8b := hV.1.2
  dsimp only [K_takeBuyer] at hk
  refine or_aload_n E rfl dX6_takeBuyer_0 ?_
  refine ot_getI E fl_6_71 dX6_takeBuyer_1 h_a.1 rfl ?_
  refine or_top (nI_tn hV.1.1).symm ?_
  refine or_bipush (v := nI 6) E rfl dX6_takeBuyer_4 ?_
  refine or_icmp_geN 44 E dX6_takeBuyer_6 rfl (by omega) (by omega) (fun q6 => ?_) (fun q6 => ?_)
  · replace hk := ite_p (P := fun r : ow_I => K none (S, r, V, z)) q6 hk
    exact or_vret E F dX6_takeBuyer_44 (Nat.le_refl _) (Nat.le_refl _) hk
  · replace hk := ite_n (P := fun r : ow_I => K none (S, r, V, z)) q6 hk
    refine or_aload_n E rfl dX6_takeBuyer_9 ?_
    refine ot_getC E fl_6_27 dX6_takeBuyer_10 h_a.1 rfl ?_
    refine or_aload_n E rfl dX6_takeBuyer_13 ?_
    refine ot_getI E fl_6_71 dX6_takeBuyer_14 h_a.1 rfl ?_
    refine or_top (nI_tn hV.1.1).symm ?_
    refine ot_aald (j := tn (I a 8)) E dX6_takeBuyer_17 h_a.2.2.1 rfl rfl (by omega) (Nat.le_of_ble_eq_true rfl) ?_
    refine or_iload_n E rfl dX6_takeBuyer_18 ?_
    refine or_iload_n E rfl dX6_takeBuyer_19 ?_
    refine or_iload_n E rfl dX6_takeBuyer_20 ?_
    refine or_cV3v (cY_begin  (h_a.2.2.2.2.2.1 (tn (I a 8)) (by omega)) ) E lk_6_115 dX6_takeBuyer_21 (h_a.2.2.2.2.2.1 (tn (I a 8)) (by omega)) rfl rfl (by decide) (by decide) ⟨Nat.le_refl _, Nat.le_refl _⟩ (Nat.le_of_ble_eq_true rfl) ?_
    obtain ⟨I1, hI1⟩ : ∃ y_ : ow_I, y_ = Y_begin (a + 5 + (tn (I a 8))) p s f I := ⟨_, rfl⟩
    replace hk := lt_k (P := fun r : ow_I => K none (S, r, V, z)) hI1 hk
    refine or_nmI hI1 ?_
    refine or_aload_n E rfl dX6_takeBuyer_24 ?_
    refine or_dup E rfl dX6_takeBuyer_25 ?_
    refine ot_getI E fl_6_71 dX6_takeBuyer_26 h_a.1 rfl ?_
    refine or_iconst (v := nI 1) E rfl dX6_takeBuyer_29 ?_
    refine or_iadd E dX6_takeBuyer_30 ?_
    refine ot_putI E fl_6_71 fw_6_8 dX6_takeBuyer_31 h_a.1 rfl ?_
    obtain ⟨I2, hI2⟩ : ∃ y_ : ow_I, y_ = ow_u I1 a 8 (I1 a 8 + (nI 1)) := ⟨_, rfl⟩
    replace hk := lt_k (P := fun r : ow_I => K none (S, r, V, z)) hI2 hk
    refine or_nmI hI2 ?_
    refine or_aload_n E rfl dX6_takeBuyer_34 ?_
    refine or_dup E rfl dX6_takeBuyer_35 ?_
    refine ot_getI E fl_6_68 dX6_takeBuyer_36 h_a.1 rfl ?_
    refine or_iload_n E rfl dX6_takeBuyer_39 ?_
    refine or_iadd E dX6_takeBuyer_40 ?_
    refine ot_putI E fl_6_68 fw_6_6 dX6_takeBuyer_41 h_a.1 rfl ?_
    obtain ⟨I3, hI3⟩ : ∃ y_ : ow_I, y_ = ow_u I2 a 6 (I2 a 6 + p) := ⟨_, rfl⟩
    replace hk := lt_k (P := fun r : ow_I => K none (S, r, V, z)) hI3 hk
    refine or_nmI hI3 ?_
    exact or_vret E F dX6_takeBuyer_44 (Nat.le_refl _) (Nat.le_refl _) hk
def K_coinsInPurses_L4 (a : Nat) : Nat → ow_I → Int32 → Nat → Int32
  | 0, I, _, _ => default
  | n + 1, I, c, i => if tn (I a 8) ≤ i then c else K_coinsInPurses_L4 a n I (c + (I (a + 5 + i) 0)) (i + 1)
def K_coinsInPurses (a : Nat) (I : ow_I) : Int32 :=
  K_coinsInPurses_L4 a 7 I (nI 0) 0
set_option maxRecDepth 100000 in
set_option maxHeartbeats 400000 in
theorem cK_coinsInPurses {S : Nat → Option ow_Sh} {I : ow_I} {V : Nat → Nat → Value} {z : Nat} {a : Nat} (h_a : mk_S S a) (h8 : 0 ≤ I a 8) (h8b : tn (I a 8) ≤ 6) : ow_Cf yX6_coinsInPurses cX6_coinsInPurses 3 (some .int) 0 [.ref a] (S, I, V, z) (some (.int (K_coinsInPurses a I))) (S, I, V, z) := by
  refine ow_Cf.of rfl (Nat.le_of_ble_eq_true rfl) (fun X K E F hk => ?_)
  have E : ow_E X RX6 cX6_coinsInPurses 3 (ow_rm 0 0 0) := E
  refine or_lv [(0, .ref a)] rfl ?_
  have L4 : ∀ (n : Nat) (I : ow_I) (c : Int32) (i : Nat) (h8 : 0 ≤ I a 8) (h8b : tn (I a 8) ≤ 6) (hi : i ≤ 6) (hm : 6 - i < n) (hk : K (some (.int (K_coinsInPurses_L4 a n I c i))) (S, I, V, z)), ow_W X 0 0 (S, I, V, z) 4 [(0, .ref a), (1, .int c), (2, .int (nI i))] [] := by
    intro n
    induction n with
    | zero => intro I c i h8 h8b hi hm; omega
    | succ n ih =>
      intro I c i h8 h8b hi hm hk
      dsimp only [K_coinsInPurses_L4] at hk
      refine or_iload_n E rfl dX6_coinsInPurses_4 ?_
      refine or_aload_n E rfl dX6_coinsInPurses_5 ?_
      refine ot_getI E fl_6_71 dX6_coinsInPurses_6 h_a.1 rfl ?_
      refine or_top (nI_tn h8).symm ?_
      refine or_icmp_geN 30 E dX6_coinsInPurses_9 rfl (by omega) (by omega) (fun q9 => ?_) (fun q9 => ?_)
      · replace hk := ite_p (P := fun r : Int32 => K (some (.int (r))) (S, I, V, z)) q9 hk
        refine or_iload_n E rfl dX6_coinsInPurses_30 ?_
        exact or_iret E F dX6_coinsInPurses_31 (Nat.le_refl _) (Nat.le_refl _) hk
      · replace hk := ite_n (P := fun r : Int32 => K (some (.int (r))) (S, I, V, z)) q9 hk
        refine or_iload_n E rfl dX6_coinsInPurses_12 ?_
        refine or_aload_n E rfl dX6_coinsInPurses_13 ?_
        refine ot_getC E fl_6_27 dX6_coinsInPurses_14 h_a.1 rfl ?_
        refine or_iload_n E rfl dX6_coinsInPurses_17 ?_
        refine ot_aald (j := i) E dX6_coinsInPurses_18 h_a.2.2.1 rfl rfl (by omega) (Nat.le_of_ble_eq_true rfl) ?_
        refine ot_getI E fl_6_160 dX6_coinsInPurses_19 (h_a.2.2.2.2.2.1 i (by omega)) rfl ?_
        refine or_iadd E dX6_coinsInPurses_22 ?_
        refine or_istore_n E dX6_coinsInPurses_23 (by decide) ?_
        refine or_iincN (c := 1) E dX6_coinsInPurses_24 rfl rfl (by decide) ?_
        refine or_goto 4 E dX6_coinsInPurses_27 rfl ?_
        refine or_lv _ ?_ (ih _ _ _ h8 h8b (by omega) (by omega) hk)
        rfl
  dsimp only [K_coinsInPurses] at hk
  refine or_iconst (v := nI 0) E rfl dX6_coinsInPurses_0 ?_
  refine or_istore_n E dX6_coinsInPurses_1 (by decide) ?_
  refine or_iconst (v := nI 0) E rfl dX6_coinsInPurses_2 ?_
  refine or_istore_n E dX6_coinsInPurses_3 (by decide) ?_
  refine or_lv _ ?_ (L4 7 _ _ _ h8 h8b (by decide) (by decide) hk)
  rfl
def K_keenest_L4 (a : Nat) (k : Nat) : Nat → ow_I → Nat → Nat → Nat
  | 0, I, _, _ => default
  | n + 1, I, j, i => if tn (I a 8) ≤ i then j else if Op.cmpValue (FP.dcmp (Y_valueOf (a + 5 + i) k I) (Y_valueOf (a + 5 + j) k I)) .l ≤ 0 then K_keenest_L4 a k n I j (i + 1) else K_keenest_L4 a k n I i (i + 1)
def K_keenest (a : Nat) (k : Nat) (I : ow_I) : Nat :=
  K_keenest_L4 a k 7 I 0 1
set_option maxRecDepth 100000 in
set_option maxHeartbeats 400000 in
theorem cK_keenest {S : Nat → Option ow_Sh} {I : ow_I} {V : Nat → Nat → Value} {z : Nat} {a : Nat} {k : Nat} (h_a : mk_S S a) (h_k : br_S S k) (h8 : 0 ≤ I a 8) (h8b : tn (I a 8) ≤ 6) : ow_Cf yX6_keenest cX6_keenest 4 (some .int) 1 [.ref a, .ref k] (S, I, V, z) (some (.int (nI (K_keenest a k I)))) (S, I, V, z) := by
  refine ow_Cf.of rfl (Nat.le_of_ble_eq_true rfl) (fun X K E F hk => ?_)
  have E : ow_E X RX6 cX6_keenest 4 (ow_rm 1 0 0) := E
  refine or_lv [(0, .ref a), (1, .ref k)] rfl ?_
  have L4 : ∀ (n : Nat) (I : ow_I) (j : Nat) (i : Nat) (h8 : 0 ≤ I a 8) (h8b : tn (I a 8) ≤ 6) (hj : j < 6) (hi : i ≤ 6) (hm : 6 - i < n) (hk : K (some (.int (nI (K_keenest_L4 a k n I j i)))) (S, I, V, z)), ow_W X 0 0 (S, I, V, z) 4 [(0, .ref a), (1, .ref k), (2, .int (nI j)), (3, .int (nI i))] [] := by
    intro n
    induction n with
    | zero => intro I j i h8 h8b hj hi hm; omega
    | succ n ih =>
      intro I j i h8 h8b hj hi hm hk
      dsimp only [K_keenest_L4] at hk
      refine or_iload_n E rfl dX6_keenest_4 ?_
      refine or_aload_n E rfl dX6_keenest_5 ?_
      refine ot_getI E fl_6_71 dX6_keenest_6 h_a.1 rfl ?_
      refine or_top (nI_tn h8).symm ?_
      refine or_icmp_geN 44 E dX6_keenest_9 rfl (by omega) (by omega) (fun q9 => ?_) (fun q9 => ?_)
      · replace hk := ite_p (P := fun r : Nat => K (some (.int (nI (r)))) (S, I, V, z)) q9 hk
        refine or_iload_n E rfl dX6_keenest_44 ?_
        exact or_iret E F dX6_keenest_45 (Nat.le_refl _) (Nat.le_refl _) hk
      · replace hk := ite_n (P := fun r : Nat => K (some (.int (nI (r)))) (S, I, V, z)) q9 hk
        refine or_aload_n E rfl dX6_keenest_12 ?_
        refine ot_getC E fl_6_27 dX6_keenest_13 h_a.1 rfl ?_
        refine or_iload_n E rfl dX6_keenest_16 ?_
        refine ot_aald (j := i) E dX6_keenest_17 h_a.2.2.1 rfl rfl (by omega) (Nat.le_of_ble_eq_true rfl) ?_
        refine or_aload_n E rfl dX6_keenest_18 ?_
        refine or_cV1r (cY_valueOf  (h_a.2.2.2.2.2.1 i (by omega)) h_k ) E lk_6_166 dX6_keenest_19 (h_a.2.2.2.2.2.1 i (by omega)) rfl rfl (by decide) (by decide) ⟨Nat.le_refl _, Nat.le_refl _⟩ (Nat.le_of_ble_eq_true rfl) ?_
        refine or_aload_n E rfl dX6_keenest_22 ?_
        refine ot_getC E fl_6_27 dX6_keenest_23 h_a.1 rfl ?_
        refine or_iload_n E rfl dX6_keenest_26 ?_
        refine ot_aald (j := j) E dX6_keenest_27 h_a.2.2.1 rfl rfl (by omega) (Nat.le_of_ble_eq_true rfl) ?_
        refine or_aload_n E rfl dX6_keenest_28 ?_
        refine or_cV1r (cY_valueOf  (h_a.2.2.2.2.2.1 j (by omega)) h_k ) E lk_6_166 dX6_keenest_29 (h_a.2.2.2.2.2.1 j (by omega)) rfl rfl (by decide) (by decide) ⟨Nat.le_refl _, Nat.le_refl _⟩ (Nat.le_of_ble_eq_true rfl) ?_
        refine or_dcmp E dX6_keenest_32 ?_
        refine or_if_le 38 E dX6_keenest_33 rfl (fun q33 => ?_) (fun q33 => ?_)
        · replace hk := ite_p (P := fun r : Nat => K (some (.int (nI (r)))) (S, I, V, z)) q33 hk
          refine or_iincN (c := 1) E dX6_keenest_38 rfl rfl (by decide) ?_
          refine or_goto 4 E dX6_keenest_41 rfl ?_
          refine or_lv _ ?_ (ih _ _ _ h8 h8b (by omega) (by omega) (by omega) hk)
          rfl
        · replace hk := ite_n (P := fun r : Nat => K (some (.int (nI (r)))) (S, I, V, z)) q33 hk
          refine or_iload_n E rfl dX6_keenest_36 ?_
          refine or_istore_n E dX6_keenest_37 (by decide) ?_
          refine or_iincN (c := 1) E dX6_keenest_38 rfl rfl (by decide) ?_
          refine or_goto 4 E dX6_keenest_41 rfl ?_
          refine or_lv _ ?_ (ih _ _ _ h8 h8b (by omega) (by omega) (by omega) hk)
          rfl
  dsimp only [K_keenest] at hk
  refine or_iconst (v := nI 0) E rfl dX6_keenest_0 ?_
  refine or_istore_n E dX6_keenest_1 (by decide) ?_
  refine or_iconst (v := nI 1) E rfl dX6_keenest_2 ?_
  refine or_istore_n E dX6_keenest_3 (by decide) ?_
  refine or_lv _ ?_ (L4 7 _ _ _ h8 h8b (by decide) (by decide) (by decide) hk)
  rfl
def K_refusal (a : Nat) (x : Int32) (I : ow_I) : Int32 :=
  if T_isLow (a + 1) I then if I a 13 = (-1) then nI 2 else if x = I a 15 then nI 3 else if K_hasBuyer a x I then if I (a + 5 + (tn x)) 0 < K_withFee a (K_nextPrice a I) I then nI 4 else nI 0 else nI 4 else nI 1
set_option maxRecDepth 100000 in
set_option maxHeartbeats 400000 in
theorem cK_refusal {S : Nat → Option ow_Sh} {I : ow_I} {V : Nat → Nat → Value} {z : Nat} {a : Nat} {x : Int32} (h_a : mk_S S a) (hV : k_V a I) : ow_Cf yX6_refusal cX6_refusal 2 (some .int) 1 [.ref a, .int x] (S, I, V, z) (some (.int (K_refusal a x I))) (S, I, V, z) := by
  refine ow_Cf.of rfl (Nat.le_of_ble_eq_true rfl) (fun X K E F hk => ?_)
  have E : ow_E X RX6 cX6_refusal 2 (ow_rm 1 0 0) := E
  refine or_lv [(0, .ref a), (1, .int x)] rfl ?_
  dsimp only [K_refusal] at hk
  refine or_aload_n E rfl dX6_refusal_0 ?_
  refine ot_getC E fl_6_12 dX6_refusal_1 h_a.1 rfl ?_
  refine or_cV0r (cT_isLow  h_a.2.1 ) E lk_6_170 dX6_refusal_4 h_a.2.1 rfl rfl (by decide) (by decide) ⟨Nat.le_refl _, Nat.le_refl _⟩ (Nat.le_of_ble_eq_true rfl) ?_
  refine or_if_neZ 12 E dX6_refusal_7 rfl (fun q7 => ?_) (fun q7 => ?_)
  · replace hk := ite_p (P := fun r : Int32 => K (some (.int (r))) (S, I, V, z)) q7 hk
    refine or_aload_n E rfl dX6_refusal_12 ?_
    refine ot_getI E fl_6_41 dX6_refusal_13 h_a.1 rfl ?_
    refine or_iconst (v := -1) E rfl dX6_refusal_16 ?_
    refine or_icmp_ne 22 E dX6_refusal_17 rfl (fun q17 => ?_) (fun q17 => ?_)
    · replace hk := ite_n (P := fun r : Int32 => K (some (.int (r))) (S, I, V, z)) q17 hk
      refine or_iload_n E rfl dX6_refusal_22 ?_
      refine or_aload_n E rfl dX6_refusal_23 ?_
      refine ot_getI E fl_6_47 dX6_refusal_24 h_a.1 rfl ?_
      refine or_icmp_ne 32 E dX6_refusal_27 rfl (fun q27 => ?_) (fun q27 => ?_)
      · replace hk := ite_n (P := fun r : Int32 => K (some (.int (r))) (S, I, V, z)) q27 hk
        refine or_aload_n E rfl dX6_refusal_32 ?_
        refine or_iload_n E rfl dX6_refusal_33 ?_
        refine or_cV1r (cK_hasBuyer  h_a ) E lk_6_156 dX6_refusal_34 h_a.1 rfl rfl (by decide) (by decide) ⟨Nat.le_refl _, Nat.le_refl _⟩ (Nat.le_of_ble_eq_true rfl) ?_
        refine or_if_eqZ 64 E dX6_refusal_37 rfl (fun q37 => ?_) (fun q37 => ?_)
        · replace hk := ite_n (P := fun r : Int32 => K (some (.int (r))) (S, I, V, z)) (bz_neg q37) hk
          refine or_iconst (v := nI 4) E rfl dX6_refusal_64 ?_
          exact or_iret E F dX6_refusal_65 (Nat.le_refl _) (Nat.le_refl _) hk
        · replace hk := ite_p (P := fun r : Int32 => K (some (.int (r))) (S, I, V, z)) q37 hk
          refine or_aload_n E rfl dX6_refusal_40 ?_
          refine ot_getC E fl_6_27 dX6_refusal_41 h_a.1 rfl ?_
          refine or_iload_n E rfl dX6_refusal_44 ?_
          refine or_top (nI_tn (ky_1 q37).1).symm ?_
          refine ot_aald (j := tn x) E dX6_refusal_45 h_a.2.2.1 rfl rfl (by have := (ky_1 q37).2; have := hV.1.2; omega) (Nat.le_of_ble_eq_true rfl) ?_
          refine ot_getI E fl_6_160 dX6_refusal_46 (h_a.2.2.2.2.2.1 (tn x) (by have := (ky_1 q37).2; have := hV.1.2; omega)) rfl ?_
          refine or_aload_n E rfl dX6_refusal_49 ?_
          refine or_aload_n E rfl dX6_refusal_50 ?_
          refine or_cV0r (cK_nextPrice  h_a hV) E lk_6_173 dX6_refusal_51 h_a.1 rfl rfl (by decide) (by decide) ⟨Nat.le_refl _, Nat.le_refl _⟩ (Nat.le_of_ble_eq_true rfl) ?_
          refine or_cV1r (cK_withFee  h_a ) E lk_6_177 dX6_refusal_54 h_a.1 rfl rfl (by decide) (by decide) ⟨Nat.le_refl _, Nat.le_refl _⟩ (Nat.le_of_ble_eq_true rfl) ?_
          refine or_icmp_lt 64 E dX6_refusal_57 rfl (fun q57 => ?_) (fun q57 => ?_)
          · replace hk := ite_p (P := fun r : Int32 => K (some (.int (r))) (S, I, V, z)) q57 hk
            refine or_iconst (v := nI 4) E rfl dX6_refusal_64 ?_
            exact or_iret E F dX6_refusal_65 (Nat.le_refl _) (Nat.le_refl _) hk
          · replace hk := ite_n (P := fun r : Int32 => K (some (.int (r))) (S, I, V, z)) q57 hk
            refine or_iconst (v := nI 0) E rfl dX6_refusal_60 ?_
            refine or_goto 65 E dX6_refusal_61 rfl ?_
            exact or_iret E F dX6_refusal_65 (Nat.le_refl _) (Nat.le_refl _) hk
      · replace hk := ite_p (P := fun r : Int32 => K (some (.int (r))) (S, I, V, z)) q27 hk
        refine or_iconst (v := nI 3) E rfl dX6_refusal_30 ?_
        exact or_iret E F dX6_refusal_31 (Nat.le_refl _) (Nat.le_refl _) hk
    · replace hk := ite_p (P := fun r : Int32 => K (some (.int (r))) (S, I, V, z)) q17 hk
      refine or_iconst (v := nI 2) E rfl dX6_refusal_20 ?_
      exact or_iret E F dX6_refusal_21 (Nat.le_refl _) (Nat.le_refl _) hk
  · replace hk := ite_n (P := fun r : Int32 => K (some (.int (r))) (S, I, V, z)) (bz_neg q7) hk
    refine or_iconst (v := nI 1) E rfl dX6_refusal_10 ?_
    exact or_iret E F dX6_refusal_11 (Nat.le_refl _) (Nat.le_refl _) hk
def K_takeNod (a : Nat) (x : Int32) (I : ow_I) : ow_I :=
  if K_hasBuyer a x I then lt (ow_u I a 14 (K_nextPrice a I)) (fun (I1 : ow_I) => lt (ow_u I1 a 15 x) (fun (I2 : ow_I) => lt (ow_u I2 a 16 (nI 0)) (fun (I3 : ow_I) => lt (ow_u I3 (a + 5 + (tn x)) 4 (I3 (a + 5 + (tn x)) 4 + (nI 1))) (fun (I4 : ow_I) => I4)))) else I
set_option maxRecDepth 100000 in
set_option maxHeartbeats 400000 in
theorem cK_takeNod {S : Nat → Option ow_Sh} {I : ow_I} {V : Nat → Nat → Value} {z : Nat} {a : Nat} {x : Int32} (h_a : mk_S S a) (hV : k_V a I) : ow_Cf yX6_takeNod cX6_takeNod 2 none 1 [.ref a, .int x] (S, I, V, z) none (S, K_takeNod a x I, V, z) := by
  refine ow_Cf.of rfl (Nat.le_of_ble_eq_true rfl) (fun X K E F hk => ?_)
  have E : ow_E X RX6 cX6_takeNod 2 (ow_rm 1 0 0) := E
  refine or_lv [(0, .ref a), (1, .int x)] rfl ?_
  dsimp only [K_takeNod] at hk
  refine or_aload_n E rfl dX6_takeNod_0 ?_
  refine or_iload_n E rfl dX6_takeNod_1 ?_
  refine or_cV1r (cK_hasBuyer  h_a ) E lk_6_156 dX6_takeNod_2 h_a.1 rfl rfl (by decide) (by decide) ⟨Nat.le_refl _, Nat.le_refl _⟩ (Nat.le_of_ble_eq_true rfl) ?_
  refine or_if_eqZ 41 E dX6_takeNod_5 rfl (fun q5 => ?_) (fun q5 => ?_)
  · replace hk := ite_n (P := fun r : ow_I => K none (S, r, V, z)) (bz_neg q5) hk
    exact or_vret E F dX6_takeNod_41 (Nat.le_refl _) (Nat.le_refl _) hk
  · replace hk := ite_p (P := fun r : ow_I => K none (S, r, V, z)) q5 hk
    refine or_aload_n E rfl dX6_takeNod_8 ?_
    refine or_aload_n E rfl dX6_takeNod_9 ?_
    refine or_cV0r (cK_nextPrice  h_a hV) E lk_6_173 dX6_takeNod_10 h_a.1 rfl rfl (by decide) (by decide) ⟨Nat.le_refl _, Nat.le_refl _⟩ (Nat.le_of_ble_eq_true rfl) ?_
    refine ot_putI E fl_6_44 fw_6_14 dX6_takeNod_13 h_a.1 rfl ?_
    obtain ⟨I1, hI1⟩ : ∃ y_ : ow_I, y_ = ow_u I a 14 (K_nextPrice a I) := ⟨_, rfl⟩
    replace hk := lt_k (P := fun r : ow_I => K none (S, r, V, z)) hI1 hk
    refine or_nmI hI1 ?_
    refine or_aload_n E rfl dX6_takeNod_16 ?_
    refine or_iload_n E rfl dX6_takeNod_17 ?_
    refine ot_putI E fl_6_47 fw_6_15 dX6_takeNod_18 h_a.1 rfl ?_
    obtain ⟨I2, hI2⟩ : ∃ y_ : ow_I, y_ = ow_u I1 a 15 x := ⟨_, rfl⟩
    replace hk := lt_k (P := fun r : ow_I => K none (S, r, V, z)) hI2 hk
    refine or_nmI hI2 ?_
    refine or_aload_n E rfl dX6_takeNod_21 ?_
    refine or_iconst (v := nI 0) E rfl dX6_takeNod_22 ?_
    refine ot_putI E fl_6_50 fw_6_16 dX6_takeNod_23 h_a.1 rfl ?_
    obtain ⟨I3, hI3⟩ : ∃ y_ : ow_I, y_ = ow_u I2 a 16 (nI 0) := ⟨_, rfl⟩
    replace hk := lt_k (P := fun r : ow_I => K none (S, r, V, z)) hI3 hk
    refine or_nmI hI3 ?_
    refine or_aload_n E rfl dX6_takeNod_26 ?_
    refine ot_getC E fl_6_27 dX6_takeNod_27 h_a.1 rfl ?_
    refine or_iload_n E rfl dX6_takeNod_30 ?_
    refine or_top (nI_tn (by subst hI3 hI2 hI1; exact (ky_1 q5).1)).symm ?_
    refine ot_aald (j := tn x) E dX6_takeNod_31 h_a.2.2.1 rfl rfl (by subst hI3 hI2 hI1; have := (ky_1 q5).2; have := hV.1.2; omega) (Nat.le_of_ble_eq_true rfl) ?_
    refine or_dup E rfl dX6_takeNod_32 ?_
    refine ot_getI E fl_6_184 dX6_takeNod_33 (h_a.2.2.2.2.2.1 (tn x) (by subst hI3 hI2 hI1; have := (ky_1 q5).2; have := hV.1.2; omega)) rfl ?_
    refine or_iconst (v := nI 1) E rfl dX6_takeNod_36 ?_
    refine or_iadd E dX6_takeNod_37 ?_
    refine ot_putI E fl_6_184 fw_2_4 dX6_takeNod_38 (h_a.2.2.2.2.2.1 (tn x) (by subst hI3 hI2 hI1; have := (ky_1 q5).2; have := hV.1.2; omega)) rfl ?_
    obtain ⟨I4, hI4⟩ : ∃ y_ : ow_I, y_ = ow_u I3 (a + 5 + (tn x)) 4 (I3 (a + 5 + (tn x)) 4 + (nI 1)) := ⟨_, rfl⟩
    replace hk := lt_k (P := fun r : ow_I => K none (S, r, V, z)) hI4 hk
    refine or_nmI hI4 ?_
    exact or_vret E F dX6_takeNod_41 (Nat.le_refl _) (Nat.le_refl _) hk
def K_sell (a : Nat) (k : Nat) (y : Nat) (I : ow_I) : ow_I :=
  lt (ow_u I y 0 (I y 0 - (K_withFee a (I a 14) I))) (fun (I1 : ow_I) => lt (ow_u I1 y 3 (I1 y 3 + (nI 1))) (fun (I2 : ow_I) => lt (ow_u I2 a 4 (I2 a 4 + (I2 a 14))) (fun (I3 : ow_I) => lt (ow_u I3 a 5 (I3 a 5 + (K_withFee a (I a 14) I - (I3 a 14)))) (fun (I4 : ow_I) => lt (ow_u I4 k 7 (nI 2)) (fun (I5 : ow_I) => lt (ow_u I5 k 8 (I5 a 15)) (fun (I6 : ow_I) => lt (ow_u I6 k 9 (I6 a 14)) (fun (I7 : ow_I) => I7)))))))
set_option maxRecDepth 100000 in
set_option maxHeartbeats 400000 in
theorem cK_sell {S : Nat → Option ow_Sh} {I : ow_I} {V : Nat → Nat → Value} {z : Nat} {a : Nat} {k : Nat} {y : Nat} (h_a : mk_S S a) (h_k : br_S S k) (h_y : by_S S y)  : ow_Cf yX6_sell cX6_sell 4 none 1 [.ref a, .ref k, .ref y] (S, I, V, z) none (S, K_sell a k y I, V, z) := by
  refine ow_Cf.of rfl (Nat.le_of_ble_eq_true rfl) (fun X K E F hk => ?_)
  have E : ow_E X RX6 cX6_sell 4 (ow_rm 1 0 0) := E
  refine or_lv [(0, .ref a), (1, .ref k), (2, .ref y)] rfl ?_
  dsimp only [K_sell] at hk
  refine or_aload_n E rfl dX6_sell_0 ?_
  refine or_aload_n E rfl dX6_sell_1 ?_
  refine ot_getI E fl_6_44 dX6_sell_2 h_a.1 rfl ?_
  refine or_cV1r (cK_withFee  h_a ) E lk_6_177 dX6_sell_5 h_a.1 rfl rfl (by decide) (by decide) ⟨Nat.le_refl _, Nat.le_refl _⟩ (Nat.le_of_ble_eq_true rfl) ?_
  refine or_istore_n E dX6_sell_8 (by decide) ?_
  refine or_aload_n E rfl dX6_sell_9 ?_
  refine or_dup E rfl dX6_sell_10 ?_
  refine ot_getI E fl_6_160 dX6_sell_11 h_y rfl ?_
  refine or_iload_n E rfl dX6_sell_14 ?_
  refine or_isub E dX6_sell_15 ?_
  refine ot_putI E fl_6_160 fw_2_0 dX6_sell_16 h_y rfl ?_
  obtain ⟨I1, hI1⟩ : ∃ y_ : ow_I, y_ = ow_u I y 0 (I y 0 - (K_withFee a (I a 14) I)) := ⟨_, rfl⟩
  replace hk := lt_k (P := fun r : ow_I => K none (S, r, V, z)) hI1 hk
  refine or_nmI hI1 ?_
  refine or_aload_n E rfl dX6_sell_19 ?_
  refine or_dup E rfl dX6_sell_20 ?_
  refine ot_getI E fl_6_252 dX6_sell_21 h_y rfl ?_
  refine or_iconst (v := nI 1) E rfl dX6_sell_24 ?_
  refine or_iadd E dX6_sell_25 ?_
  refine ot_putI E fl_6_252 fw_2_3 dX6_sell_26 h_y rfl ?_
  obtain ⟨I2, hI2⟩ : ∃ y_ : ow_I, y_ = ow_u I1 y 3 (I1 y 3 + (nI 1)) := ⟨_, rfl⟩
  replace hk := lt_k (P := fun r : ow_I => K none (S, r, V, z)) hI2 hk
  refine or_nmI hI2 ?_
  refine or_aload_n E rfl dX6_sell_29 ?_
  refine or_dup E rfl dX6_sell_30 ?_
  refine ot_getI E fl_6_62 dX6_sell_31 h_a.1 rfl ?_
  refine or_aload_n E rfl dX6_sell_34 ?_
  refine ot_getI E fl_6_44 dX6_sell_35 h_a.1 rfl ?_
  refine or_iadd E dX6_sell_38 ?_
  refine ot_putI E fl_6_62 fw_6_4 dX6_sell_39 h_a.1 rfl ?_
  obtain ⟨I3, hI3⟩ : ∃ y_ : ow_I, y_ = ow_u I2 a 4 (I2 a 4 + (I2 a 14)) := ⟨_, rfl⟩
  replace hk := lt_k (P := fun r : ow_I => K none (S, r, V, z)) hI3 hk
  refine or_nmI hI3 ?_
  refine or_aload_n E rfl dX6_sell_42 ?_
  refine or_dup E rfl dX6_sell_43 ?_
  refine ot_getI E fl_6_65 dX6_sell_44 h_a.1 rfl ?_
  refine or_iload_n E rfl dX6_sell_47 ?_
  refine or_aload_n E rfl dX6_sell_48 ?_
  refine ot_getI E fl_6_44 dX6_sell_49 h_a.1 rfl ?_
  refine or_isub E dX6_sell_52 ?_
  refine or_iadd E dX6_sell_53 ?_
  refine ot_putI E fl_6_65 fw_6_5 dX6_sell_54 h_a.1 rfl ?_
  obtain ⟨I4, hI4⟩ : ∃ y_ : ow_I, y_ = ow_u I3 a 5 (I3 a 5 + (K_withFee a (I a 14) I - (I3 a 14))) := ⟨_, rfl⟩
  replace hk := lt_k (P := fun r : ow_I => K none (S, r, V, z)) hI4 hk
  refine or_nmI hI4 ?_
  refine or_aload_n E rfl dX6_sell_57 ?_
  refine or_iconst (v := nI 2) E rfl dX6_sell_58 ?_
  refine ot_putI E fl_6_102 fw_1_7 dX6_sell_59 h_k.1 rfl ?_
  obtain ⟨I5, hI5⟩ : ∃ y_ : ow_I, y_ = ow_u I4 k 7 (nI 2) := ⟨_, rfl⟩
  replace hk := lt_k (P := fun r : ow_I => K none (S, r, V, z)) hI5 hk
  refine or_nmI hI5 ?_
  refine or_aload_n E rfl dX6_sell_62 ?_
  refine or_aload_n E rfl dX6_sell_63 ?_
  refine ot_getI E fl_6_47 dX6_sell_64 h_a.1 rfl ?_
  refine ot_putI E fl_6_255 fw_1_8 dX6_sell_67 h_k.1 rfl ?_
  obtain ⟨I6, hI6⟩ : ∃ y_ : ow_I, y_ = ow_u I5 k 8 (I5 a 15) := ⟨_, rfl⟩
  replace hk := lt_k (P := fun r : ow_I => K none (S, r, V, z)) hI6 hk
  refine or_nmI hI6 ?_
  refine or_aload_n E rfl dX6_sell_70 ?_
  refine or_aload_n E rfl dX6_sell_71 ?_
  refine ot_getI E fl_6_44 dX6_sell_72 h_a.1 rfl ?_
  refine ot_putI E fl_6_258 fw_1_9 dX6_sell_75 h_k.1 rfl ?_
  obtain ⟨I7, hI7⟩ : ∃ y_ : ow_I, y_ = ow_u I6 k 9 (I6 a 14) := ⟨_, rfl⟩
  replace hk := lt_k (P := fun r : ow_I => K none (S, r, V, z)) hI7 hk
  refine or_nmI hI7 ?_
  exact or_vret E F dX6_sell_78 (Nat.le_refl _) (Nat.le_refl _) hk
def K_sendBack (a : Nat) (x : Nat) (I : ow_I) : ow_I :=
  lt (ow_u I (a + 11 + 2 * x) 6 (I (a + 11 + 2 * x) 6 + (nI 1))) (fun (I1 : ow_I) => if I1 (a + 11 + 2 * x) 6 = nI 3 then lt (ow_u I1 (a + 11 + 2 * x) 7 (nI 3)) (fun (I4 : ow_I) => I4) else lt (ow_u I1 (a + 11 + 2 * x) 7 (nI 0)) (fun (I2 : ow_I) => lt (K_enqueue a (nI x) I2) (fun (I3 : ow_I) => I3)))
set_option maxRecDepth 100000 in
set_option maxHeartbeats 400000 in
theorem cK_sendBack {S : Nat → Option ow_Sh} {I : ow_I} {V : Nat → Nat → Value} {z : Nat} {a : Nat} {x : Nat} (h_a : mk_S S a) (hx : x < 20) (h12 : 0 ≤ I a 12) (h12b : tn (I a 12) ≤ 20) : ow_Cf yX6_sendBack cX6_sendBack 3 none 1 [.ref a, .int (nI x)] (S, I, V, z) none (S, K_sendBack a x I, V, z) := by
  refine ow_Cf.of rfl (Nat.le_of_ble_eq_true rfl) (fun X K E F hk => ?_)
  have E : ow_E X RX6 cX6_sendBack 3 (ow_rm 1 0 0) := E
  refine or_lv [(0, .ref a), (1, .int (nI x))] rfl ?_
  dsimp only [K_sendBack] at hk
  refine or_aload_n E rfl dX6_sendBack_0 ?_
  refine ot_getC E fl_6_33 dX6_sendBack_1 h_a.1 rfl ?_
  refine or_iload_n E rfl dX6_sendBack_4 ?_
  refine ot_aald (j := x) E dX6_sendBack_5 h_a.2.2.2.1 rfl rfl (by omega) (Nat.le_of_ble_eq_true rfl) ?_
  refine or_astore_n E dX6_sendBack_6 (by decide) ?_
  refine or_aload_n E rfl dX6_sendBack_7 ?_
  refine or_dup E rfl dX6_sendBack_8 ?_
  refine ot_getI E fl_6_261 dX6_sendBack_9 (h_a.2.2.2.2.2.2 x (by omega)).1 rfl ?_
  refine or_iconst (v := nI 1) E rfl dX6_sendBack_12 ?_
  refine or_iadd E dX6_sendBack_13 ?_
  refine ot_putI E fl_6_261 fw_1_6 dX6_sendBack_14 (h_a.2.2.2.2.2.2 x (by omega)).1 rfl ?_
  obtain ⟨I1, hI1⟩ : ∃ y_ : ow_I, y_ = ow_u I (a + 11 + 2 * x) 6 (I (a + 11 + 2 * x) 6 + (nI 1)) := ⟨_, rfl⟩
  replace hk := lt_k (P := fun r : ow_I => K none (S, r, V, z)) hI1 hk
  refine or_nmI hI1 ?_
  refine or_aload_n E rfl dX6_sendBack_17 ?_
  refine ot_getI E fl_6_261 dX6_sendBack_18 (h_a.2.2.2.2.2.2 x (by omega)).1 rfl ?_
  refine or_iconst (v := nI 3) E rfl dX6_sendBack_21 ?_
  refine or_icmp_ne 33 E dX6_sendBack_22 rfl (fun q22 => ?_) (fun q22 => ?_)
  · replace hk := ite_n (P := fun r : ow_I => K none (S, r, V, z)) q22 hk
    refine or_aload_n E rfl dX6_sendBack_33 ?_
    refine or_iconst (v := nI 0) E rfl dX6_sendBack_34 ?_
    refine ot_putI E fl_6_102 fw_1_7 dX6_sendBack_35 (h_a.2.2.2.2.2.2 x (by omega)).1 rfl ?_
    obtain ⟨I2, hI2⟩ : ∃ y_ : ow_I, y_ = ow_u I1 (a + 11 + 2 * x) 7 (nI 0) := ⟨_, rfl⟩
    replace hk := lt_k (P := fun r : ow_I => K none (S, r, V, z)) hI2 hk
    refine or_nmI hI2 ?_
    refine or_aload_n E rfl dX6_sendBack_38 ?_
    refine or_iload_n E rfl dX6_sendBack_39 ?_
    refine or_cV1v (cK_enqueue  h_a (by subst hI2 hI1; rw [rr_u (by omega), rr_u (by omega)]; exact h12) (by subst hI2 hI1; rw [rr_u (by omega), rr_u (by omega)]; exact h12b)) E lk_6_127 dX6_sendBack_40 h_a.1 rfl rfl (by decide) (by decide) ⟨Nat.le_refl _, Nat.le_refl _⟩ (Nat.le_of_ble_eq_true rfl) ?_
    obtain ⟨I3, hI3⟩ : ∃ y_ : ow_I, y_ = K_enqueue a (nI x) I2 := ⟨_, rfl⟩
    replace hk := lt_k (P := fun r : ow_I => K none (S, r, V, z)) hI3 hk
    refine or_nmI hI3 ?_
    exact or_vret E F dX6_sendBack_43 (Nat.le_refl _) (Nat.le_refl _) hk
  · replace hk := ite_p (P := fun r : ow_I => K none (S, r, V, z)) q22 hk
    refine or_aload_n E rfl dX6_sendBack_25 ?_
    refine or_iconst (v := nI 3) E rfl dX6_sendBack_26 ?_
    refine ot_putI E fl_6_102 fw_1_7 dX6_sendBack_27 (h_a.2.2.2.2.2.2 x (by omega)).1 rfl ?_
    obtain ⟨I4, hI4⟩ : ∃ y_ : ow_I, y_ = ow_u I1 (a + 11 + 2 * x) 7 (nI 3) := ⟨_, rfl⟩
    replace hk := lt_k (P := fun r : ow_I => K none (S, r, V, z)) hI4 hk
    refine or_nmI hI4 ?_
    refine or_goto 43 E dX6_sendBack_30 rfl ?_
    exact or_vret E F dX6_sendBack_43 (Nat.le_refl _) (Nat.le_refl _) hk
def K_openFirst (a : Nat) (I : ow_I) : ow_I :=
  if I a 12 ≤ 0 then I else lt (ow_u I a 13 (I (a + 4) 0)) (fun (I1 : ow_I) => lt (ow_u I1 a 16 (nI 0)) (fun (I2 : ow_I) => lt (ow_u I2 (a + 11 + 2 * (tn (I (a + 4) 0))) 7 (nI 1)) (fun (I3 : ow_I) => lt (K_dequeue a (I3 a 13) I3) (fun (I4 : ow_I) => I4))))
set_option maxRecDepth 100000 in
set_option maxHeartbeats 400000 in
theorem cK_openFirst {S : Nat → Option ow_Sh} {I : ow_I} {V : Nat → Nat → Value} {z : Nat} {a : Nat} (h_a : mk_S S a) (hV : k_V a I) : ow_Cf yX6_openFirst cX6_openFirst 1 none 1 [.ref a] (S, I, V, z) none (S, K_openFirst a I, V, z) := by
  refine ow_Cf.of rfl (Nat.le_of_ble_eq_true rfl) (fun X K E F hk => ?_)
  have E : ow_E X RX6 cX6_openFirst 1 (ow_rm 1 0 0) := E
  refine or_lv [(0, .ref a)] rfl ?_
  dsimp only [K_openFirst] at hk
  refine or_aload_n E rfl dX6_openFirst_0 ?_
  refine ot_getI E fl_6_89 dX6_openFirst_1 h_a.1 rfl ?_
  refine or_if_le 43 E dX6_openFirst_4 rfl (fun q4 => ?_) (fun q4 => ?_)
  · replace hk := ite_p (P := fun r : ow_I => K none (S, r, V, z)) q4 hk
    exact or_vret E F dX6_openFirst_43 (Nat.le_refl _) (Nat.le_refl _) hk
  · replace hk := ite_n (P := fun r : ow_I => K none (S, r, V, z)) q4 hk
    refine or_aload_n E rfl dX6_openFirst_7 ?_
    refine or_aload_n E rfl dX6_openFirst_8 ?_
    refine ot_getC E fl_6_37 dX6_openFirst_9 h_a.1 rfl ?_
    refine or_iconst (v := nI 0) E rfl dX6_openFirst_12 ?_
    refine ot_iald (j := 0) E dX6_openFirst_13 h_a.2.2.2.2.1 rfl rfl (by decide) (Nat.le_of_ble_eq_true rfl) ?_
    refine ot_putI E fl_6_41 fw_6_13 dX6_openFirst_14 h_a.1 rfl ?_
    obtain ⟨I1, hI1⟩ : ∃ y_ : ow_I, y_ = ow_u I a 13 (I (a + 4) 0) := ⟨_, rfl⟩
    replace hk := lt_k (P := fun r : ow_I => K none (S, r, V, z)) hI1 hk
    refine or_nmI hI1 ?_
    refine or_aload_n E rfl dX6_openFirst_17 ?_
    refine or_iconst (v := nI 0) E rfl dX6_openFirst_18 ?_
    refine ot_putI E fl_6_50 fw_6_16 dX6_openFirst_19 h_a.1 rfl ?_
    obtain ⟨I2, hI2⟩ : ∃ y_ : ow_I, y_ = ow_u I1 a 16 (nI 0) := ⟨_, rfl⟩
    replace hk := lt_k (P := fun r : ow_I => K none (S, r, V, z)) hI2 hk
    refine or_nmI hI2 ?_
    refine or_aload_n E rfl dX6_openFirst_22 ?_
    refine ot_getC E fl_6_33 dX6_openFirst_23 h_a.1 rfl ?_
    refine or_aload_n E rfl dX6_openFirst_26 ?_
    refine ot_getI E fl_6_41 dX6_openFirst_27 h_a.1 rfl ?_
    refine or_top (y := nI (tn (I (a + 4) 0))) (by subst hI2 hI1; rw [ow_u_k _ _ _ _ (by decide), ow_u_s]; exact (nI_tn (kq_1 hV q4).1).symm) ?_
    refine ot_aald (j := tn (I (a + 4) 0)) E dX6_openFirst_30 h_a.2.2.2.1 rfl rfl (kq_1 hV q4).2 (Nat.le_of_ble_eq_true rfl) ?_
    refine or_iconst (v := nI 1) E rfl dX6_openFirst_31 ?_
    refine ot_putI E fl_6_102 fw_1_7 dX6_openFirst_32 (h_a.2.2.2.2.2.2 (tn (I (a + 4) 0)) (kq_1 hV q4).2).1 rfl ?_
    obtain ⟨I3, hI3⟩ : ∃ y_ : ow_I, y_ = ow_u I2 (a + 11 + 2 * (tn (I (a + 4) 0))) 7 (nI 1) := ⟨_, rfl⟩
    replace hk := lt_k (P := fun r : ow_I => K none (S, r, V, z)) hI3 hk
    refine or_nmI hI3 ?_
    refine or_aload_n E rfl dX6_openFirst_35 ?_
    refine or_aload_n E rfl dX6_openFirst_36 ?_
    refine ot_getI E fl_6_41 dX6_openFirst_37 h_a.1 rfl ?_
    refine or_cV1v (cK_dequeue  h_a (by subst hI3 hI2 hI1; rw [rr_u (by omega), ow_u_k _ _ _ _ (by decide), ow_u_k _ _ _ _ (by decide)]; exact hV.2.2.1.1) (by subst hI3 hI2 hI1; rw [rr_u (by omega), ow_u_k _ _ _ _ (by decide), ow_u_k _ _ _ _ (by decide)]; exact hV.2.2.1.2)) E lk_6_153 dX6_openFirst_40 h_a.1 rfl rfl (by decide) (by decide) ⟨Nat.le_refl _, Nat.le_refl _⟩ (Nat.le_of_ble_eq_true rfl) ?_
    obtain ⟨I4, hI4⟩ : ∃ y_ : ow_I, y_ = K_dequeue a (I3 a 13) I3 := ⟨_, rfl⟩
    replace hk := lt_k (P := fun r : ow_I => K none (S, r, V, z)) hI4 hk
    refine or_nmI hI4 ?_
    exact or_vret E F dX6_openFirst_43 (Nat.le_refl _) (Nat.le_refl _) hk
end
section
theorem kw_1 {a : Nat} {x : Int32} {I : ow_I} (h : K_isWaiting a x I = true) : 0 ≤ x ∧ tn x < tn (I a 10) ∧ I (a + 11 + 2 * tn x) 7 = 0 := by
  unfold K_isWaiting at h
  split at h
  · rename_i hb
    have r := kb_1 hb
    split at h
    · exact ⟨r.1, r.2, by assumption⟩
    · exact absurd h (by decide)
  · exact absurd h (by decide)
theorem ref_0 {a : Nat} {x : Int32} {I : ow_I} (h : K_refusal a x I = 0) : 0 ≤ x ∧ tn x < tn (I a 8) := by
  unfold K_refusal at h
  revert h
  (repeat' split) <;> intro h
  all_goals first | exact ky_1 (by assumption) | exact absurd h (by decide)
theorem rr_keb {a b : Nat} {I : ow_I} (h : b ≠ a) : K_endBidding a I b = I b := by
  simp only [K_endBidding, lt_eq, rr_u h]
theorem rr_kenq {a b : Nat} {x : Int32} {I : ow_I} (h : b ≠ a) (h4 : b ≠ a + 4) : K_enqueue a x I b = I b := by
  simp only [K_enqueue, lt_eq]
  (repeat' split) <;> simp only [rr_u h, rr_u h4]
theorem kV_t {a k : Nat} {x : Int32} {I : ow_I} (hV : k_V a I) : k_V a (ow_u I (a + 1) k x) := by
  obtain ⟨h1, h2, h3, h4, h5, h6, h7⟩ := hV
  have e : ∀ b, b ≠ a + 1 → ow_u I (a + 1) k x b = I b := fun b hb => rr_u hb
  refine ⟨by rw [e a (by omega)]; exact h1, by rw [e a (by omega)]; exact h2, by rw [e a (by omega)]; exact h3, by rw [e a (by omega)]; exact h4, by rw [e a (by omega)]; exact h5, ?_, ?_⟩
  · rw [e a (by omega), e (a + 4) (by omega)]; exact h6
  · intro j hj
    rw [e _ (by omega)]
    exact h7 j hj
theorem kV_q {a k : Nat} {x : Int32} {I : ow_I} (hV : k_V a I) (hk : k = 16 ∨ k = 14) : k_V a (ow_u I a k x) := by
  obtain ⟨h1, h2, h3, h4, h5, h6, h7⟩ := hV
  have e : ∀ b, b ≠ a → ow_u I a k x b = I b := fun b hb => rr_u hb
  have f : ∀ j, j ≠ k → ow_u I a k x a j = I a j := fun j hj => ow_u_k _ _ _ _ hj _
  refine ⟨by rw [f 8 (by omega)]; exact h1, by rw [f 10 (by omega)]; exact h2, by rw [f 12 (by omega)]; exact h3, by rw [f 13 (by omega)]; exact h4, by rw [f 15 (by omega)]; exact h5, ?_, ?_⟩
  · rw [f 12 (by omega), e (a + 4) (by omega)]; exact h6
  · intro j hj
    rw [e _ (by omega)]
    exact h7 j hj
end
section
theorem lm_6_163 : ow_lm RX6 163 Lib.Math.min.name Lib.Math.min.code := ⟨ow_T_in 1133 (by decide +kernel) (by decide +kernel), ow_T_in 437 (by decide +kernel) (by decide +kernel), ow_T_in 18 (by decide +kernel) (by decide +kernel), ow_T_in 438 (by decide +kernel) (by decide +kernel)⟩
theorem fl_6_92 : ow_fl RX6 92 8 2 := ⟨_, rfl, by decide, ow_T_in 55 (by decide +kernel) (by decide +kernel), ow_ok8⟩
theorem fl_6_108 : ow_fl RX6 108 1 1 := ⟨_, rfl, by decide, ow_T_in 108 (by decide +kernel) (by decide +kernel), ow_ok1⟩
theorem fw_6_10 : ∃ r : vw_C, ow_cl[6]? = some r ∧ (r.2.1 10).2.2.2 = false ∧ parseFieldDescriptor (r.2.1 10).2.2.1 = some .int := ⟨_, rfl, rfl, by decide +kernel⟩
theorem lk_6_95 : ow_lv RX6 95 yX6_endBidding cX6_endBidding 1 none 0 := ⟨ow_T_in 443 (by decide +kernel) (by decide +kernel), ow_T_in 445 (by decide +kernel) (by decide +kernel), ow_T_sel 3 (by decide +kernel) (by decide +kernel), ow_T_in 2 (by decide +kernel) (by decide +kernel), ow_T_in 446 (by decide +kernel) (by decide +kernel), ⟨by decide +kernel, by decide +kernel, by decide +kernel⟩⟩
theorem lk_6_105 : ow_lv RX6 105 yX6_isWaiting cX6_isWaiting 2 (some .boolean) 1 := ⟨ow_T_in 1082 (by decide +kernel) (by decide +kernel), ow_T_in 1083 (by decide +kernel) (by decide +kernel), ow_T_in 1084 (by decide +kernel) (by decide +kernel), ow_T_in 2 (by decide +kernel) (by decide +kernel), ow_T_in 1085 (by decide +kernel) (by decide +kernel), ⟨by decide +kernel, by decide +kernel, by decide +kernel⟩⟩
theorem lk_6_111 : ow_lv RX6 111 yX6_hasRoom cX6_hasRoom 1 (some .boolean) 0 := ⟨ow_T_in 507 (by decide +kernel) (by decide +kernel), ow_T_in 508 (by decide +kernel) (by decide +kernel), ow_T_in 509 (by decide +kernel) (by decide +kernel), ow_T_in 2 (by decide +kernel) (by decide +kernel), ow_T_in 510 (by decide +kernel) (by decide +kernel), ⟨by decide +kernel, by decide +kernel, by decide +kernel⟩⟩
theorem lk_6_119 : ow_lv RX6 119 yX1_fill cX1_fill 5 none 3 := ⟨ow_T_in 511 (by decide +kernel) (by decide +kernel), ow_T_in 512 (by decide +kernel) (by decide +kernel), ow_T_in 513 (by decide +kernel) (by decide +kernel), ow_T_in 5 (by decide +kernel) (by decide +kernel), ow_T_in 514 (by decide +kernel) (by decide +kernel), ⟨by decide +kernel, by decide +kernel, by decide +kernel⟩⟩
theorem lk_6_123 : ow_lv RX6 123 yX1_beginWaiting cX1_beginWaiting 2 none 1 := ⟨ow_T_in 526 (by decide +kernel) (by decide +kernel), ow_T_in 527 (by decide +kernel) (by decide +kernel), ow_T_in 528 (by decide +kernel) (by decide +kernel), ow_T_in 5 (by decide +kernel) (by decide +kernel), ow_T_in 529 (by decide +kernel) (by decide +kernel), ⟨by decide +kernel, by decide +kernel, by decide +kernel⟩⟩
theorem lk_6_181 : ow_lv RX6 181 yX6_refusal cX6_refusal 2 (some .int) 1 := ⟨ow_T_in 1220 (by decide +kernel) (by decide +kernel), ow_T_in 1042 (by decide +kernel) (by decide +kernel), ow_T_in 1043 (by decide +kernel) (by decide +kernel), ow_T_in 2 (by decide +kernel) (by decide +kernel), ow_T_in 1044 (by decide +kernel) (by decide +kernel), ⟨by decide +kernel, by decide +kernel, by decide +kernel⟩⟩
theorem lk_6_245 : ow_lv RX6 245 yX6_sell cX6_sell 4 none 2 := ⟨ow_T_in 1204 (by decide +kernel) (by decide +kernel), ow_T_in 1206 (by decide +kernel) (by decide +kernel), ow_T_sel 26 (by decide +kernel) (by decide +kernel), ow_T_in 2 (by decide +kernel) (by decide +kernel), ow_T_in 1207 (by decide +kernel) (by decide +kernel), ⟨by decide +kernel, by decide +kernel, by decide +kernel⟩⟩
theorem lk_6_249 : ow_lv RX6 249 yX6_sendBack cX6_sendBack 3 none 1 := ⟨ow_T_in 1208 (by decide +kernel) (by decide +kernel), ow_T_in 1210 (by decide +kernel) (by decide +kernel), ow_T_sel 27 (by decide +kernel) (by decide +kernel), ow_T_in 2 (by decide +kernel) (by decide +kernel), ow_T_in 1211 (by decide +kernel) (by decide +kernel), ⟨by decide +kernel, by decide +kernel, by decide +kernel⟩⟩
theorem wd_1132 : Cond.constant RX6 159 (nI 99999) ∈ ow_T := ow_T_in 1132 (by decide +kernel) (by decide +kernel)
def K_canCut (a : Nat) (x : Int32) (e : Int32) (I : ow_I) : Bool :=
  if K_isWaiting a x I then if e < nI 1 then false else if I (a + 11 + 2 * (tn x)) 1 ≤ e then false else if K_hasRoom a I then true else false else false
set_option maxRecDepth 100000 in
set_option maxHeartbeats 400000 in
theorem cK_canCut {S : Nat → Option ow_Sh} {I : ow_I} {V : Nat → Nat → Value} {z : Nat} {a : Nat} {x : Int32} {e : Int32} (h_a : mk_S S a) (hV : k_V a I) : ow_Cf yX6_canCut cX6_canCut 3 (some .boolean) 2 [.ref a, .int x, .int e] (S, I, V, z) (some (.int (bi (K_canCut a x e I)))) (S, I, V, z) := by
  refine ow_Cf.of rfl (Nat.le_of_ble_eq_true rfl) (fun X K E F hk => ?_)
  have E : ow_E X RX6 cX6_canCut 3 (ow_rm 2 0 0) := E
  refine or_lv [(0, .ref a), (1, .int x), (2, .int e)] rfl ?_
  dsimp only [K_canCut] at hk
  refine or_aload_n E rfl dX6_canCut_0 ?_
  refine or_iload_n E rfl dX6_canCut_1 ?_
  refine or_cV1r (cK_isWaiting  h_a hV) E lk_6_105 dX6_canCut_2 h_a.1 rfl rfl (by decide) (by decide) ⟨Nat.le_refl _, Nat.le_refl _⟩ (Nat.le_of_ble_eq_true rfl) ?_
  refine or_if_eqZ 37 E dX6_canCut_5 rfl (fun q5 => ?_) (fun q5 => ?_)
  · replace hk := ite_n (P := fun r : Bool => K (some (.int (bi (r)))) (S, I, V, z)) (bz_neg q5) hk
    refine or_iconst (v := nI 0) E rfl dX6_canCut_37 ?_
    exact or_zret E F dX6_canCut_38 (Nat.le_refl _) (Nat.le_refl _) (bi_nar false) hk
  · replace hk := ite_p (P := fun r : Bool => K (some (.int (bi (r)))) (S, I, V, z)) q5 hk
    refine or_iload_n E rfl dX6_canCut_8 ?_
    refine or_iconst (v := nI 1) E rfl dX6_canCut_9 ?_
    refine or_icmp_lt 37 E dX6_canCut_10 rfl (fun q10 => ?_) (fun q10 => ?_)
    · replace hk := ite_p (P := fun r : Bool => K (some (.int (bi (r)))) (S, I, V, z)) q10 hk
      refine or_iconst (v := nI 0) E rfl dX6_canCut_37 ?_
      exact or_zret E F dX6_canCut_38 (Nat.le_refl _) (Nat.le_refl _) (bi_nar false) hk
    · replace hk := ite_n (P := fun r : Bool => K (some (.int (bi (r)))) (S, I, V, z)) q10 hk
      refine or_aload_n E rfl dX6_canCut_13 ?_
      refine ot_getC E fl_6_33 dX6_canCut_14 h_a.1 rfl ?_
      refine or_iload_n E rfl dX6_canCut_17 ?_
      refine or_top (nI_tn (kw_1 q5).1).symm ?_
      refine ot_aald (j := tn x) E dX6_canCut_18 h_a.2.2.2.1 rfl rfl (by have := (kw_1 q5).2.1; have := hV.2.1.2; omega) (Nat.le_of_ble_eq_true rfl) ?_
      refine ot_getI E fl_6_108 dX6_canCut_19 (h_a.2.2.2.2.2.2 (tn x) (by have := (kw_1 q5).2.1; have := hV.2.1.2; omega)).1 rfl ?_
      refine or_iload_n E rfl dX6_canCut_22 ?_
      refine or_icmp_le 37 E dX6_canCut_23 rfl (fun q23 => ?_) (fun q23 => ?_)
      · replace hk := ite_p (P := fun r : Bool => K (some (.int (bi (r)))) (S, I, V, z)) q23 hk
        refine or_iconst (v := nI 0) E rfl dX6_canCut_37 ?_
        exact or_zret E F dX6_canCut_38 (Nat.le_refl _) (Nat.le_refl _) (bi_nar false) hk
      · replace hk := ite_n (P := fun r : Bool => K (some (.int (bi (r)))) (S, I, V, z)) q23 hk
        refine or_aload_n E rfl dX6_canCut_26 ?_
        refine or_cV0r (cK_hasRoom  h_a ) E lk_6_111 dX6_canCut_27 h_a.1 rfl rfl (by decide) (by decide) ⟨Nat.le_refl _, Nat.le_refl _⟩ (Nat.le_of_ble_eq_true rfl) ?_
        refine or_if_eqZ 37 E dX6_canCut_30 rfl (fun q30 => ?_) (fun q30 => ?_)
        · replace hk := ite_n (P := fun r : Bool => K (some (.int (bi (r)))) (S, I, V, z)) (bz_neg q30) hk
          refine or_iconst (v := nI 0) E rfl dX6_canCut_37 ?_
          exact or_zret E F dX6_canCut_38 (Nat.le_refl _) (Nat.le_refl _) (bi_nar false) hk
        · replace hk := ite_p (P := fun r : Bool => K (some (.int (bi (r)))) (S, I, V, z)) q30 hk
          refine or_iconst (v := nI 1) E rfl dX6_canCut_33 ?_
          refine or_goto 38 E dX6_canCut_34 rfl ?_
          exact or_zret E F dX6_canCut_38 (Nat.le_refl _) (Nat.le_refl _) (bi_nar true) hk
def K_takeAway (a : Nat) (x : Int32) (I : ow_I) : ow_I :=
  if K_isWaiting a x I then lt (ow_u I (a + 11 + 2 * (tn x)) 7 (nI 3)) (fun (I1 : ow_I) => lt (K_dequeue a x I1) (fun (I2 : ow_I) => I2)) else I
set_option maxRecDepth 100000 in
set_option maxHeartbeats 400000 in
theorem cK_takeAway {S : Nat → Option ow_Sh} {I : ow_I} {V : Nat → Nat → Value} {z : Nat} {a : Nat} {x : Int32} (h_a : mk_S S a) (hV : k_V a I) : ow_Cf yX6_takeAway cX6_takeAway 2 none 2 [.ref a, .int x] (S, I, V, z) none (S, K_takeAway a x I, V, z) := by
  refine ow_Cf.of rfl (Nat.le_of_ble_eq_true rfl) (fun X K E F hk => ?_)
  have E : ow_E X RX6 cX6_takeAway 2 (ow_rm 2 0 0) := E
  refine or_lv [(0, .ref a), (1, .int x)] rfl ?_
  dsimp only [K_takeAway] at hk
  refine or_aload_n E rfl dX6_takeAway_0 ?_
  refine or_iload_n E rfl dX6_takeAway_1 ?_
  refine or_cV1r (cK_isWaiting  h_a hV) E lk_6_105 dX6_takeAway_2 h_a.1 rfl rfl (by decide) (by decide) ⟨Nat.le_refl _, Nat.le_refl _⟩ (Nat.le_of_ble_eq_true rfl) ?_
  refine or_if_eqZ 23 E dX6_takeAway_5 rfl (fun q5 => ?_) (fun q5 => ?_)
  · replace hk := ite_n (P := fun r : ow_I => K none (S, r, V, z)) (bz_neg q5) hk
    exact or_vret E F dX6_takeAway_23 (Nat.le_refl _) (Nat.le_refl _) hk
  · replace hk := ite_p (P := fun r : ow_I => K none (S, r, V, z)) q5 hk
    refine or_aload_n E rfl dX6_takeAway_8 ?_
    refine ot_getC E fl_6_33 dX6_takeAway_9 h_a.1 rfl ?_
    refine or_iload_n E rfl dX6_takeAway_12 ?_
    refine or_top (nI_tn (kw_1 q5).1).symm ?_
    refine ot_aald (j := tn x) E dX6_takeAway_13 h_a.2.2.2.1 rfl rfl (by have := (kw_1 q5).2.1; have := hV.2.1.2; omega) (Nat.le_of_ble_eq_true rfl) ?_
    refine or_iconst (v := nI 3) E rfl dX6_takeAway_14 ?_
    refine ot_putI E fl_6_102 fw_1_7 dX6_takeAway_15 (h_a.2.2.2.2.2.2 (tn x) (by have := (kw_1 q5).2.1; have := hV.2.1.2; omega)).1 rfl ?_
    obtain ⟨I1, hI1⟩ : ∃ y_ : ow_I, y_ = ow_u I (a + 11 + 2 * (tn x)) 7 (nI 3) := ⟨_, rfl⟩
    replace hk := lt_k (P := fun r : ow_I => K none (S, r, V, z)) hI1 hk
    refine or_nmI hI1 ?_
    refine or_aload_n E rfl dX6_takeAway_18 ?_
    refine or_iload_n E rfl dX6_takeAway_19 ?_
    refine or_cV1v (cK_dequeue  h_a (by subst hI1; rw [rr_u (by omega)]; exact hV.2.2.1.1) (by subst hI1; rw [rr_u (by omega)]; exact hV.2.2.1.2)) E lk_6_153 dX6_takeAway_20 h_a.1 rfl rfl (by decide) (by decide) ⟨Nat.le_refl _, Nat.le_refl _⟩ (Nat.le_of_ble_eq_true rfl) ?_
    obtain ⟨I2, hI2⟩ : ∃ y_ : ow_I, y_ = K_dequeue a x I1 := ⟨_, rfl⟩
    replace hk := lt_k (P := fun r : ow_I => K none (S, r, V, z)) hI2 hk
    refine or_nmI hI2 ?_
    exact or_vret E F dX6_takeAway_23 (Nat.le_refl _) (Nat.le_refl _) hk
def K_putCoins (a : Nat) (x : Int32) (c : Int32) (I : ow_I) : ow_I :=
  if K_hasBuyer a x I then lt (ow_u I (a + 5 + (tn x)) 0 (I (a + 5 + (tn x)) 0 + (i_min c (nI 99999 - (I (a + 5 + (tn x)) 0))))) (fun (I1 : ow_I) => lt (ow_u I1 a 6 (I1 a 6 + (i_min c (nI 99999 - (I (a + 5 + (tn x)) 0))))) (fun (I2 : ow_I) => I2)) else I
set_option maxRecDepth 100000 in
set_option maxHeartbeats 400000 in
theorem cK_putCoins {S : Nat → Option ow_Sh} {I : ow_I} {V : Nat → Nat → Value} {z : Nat} {a : Nat} {x : Int32} {c : Int32} (h_a : mk_S S a) (hV : k_V a I) : ow_Cf yX6_putCoins cX6_putCoins 4 none 1 [.ref a, .int x, .int c] (S, I, V, z) none (S, K_putCoins a x c I, V, z) := by
  refine ow_Cf.of rfl (Nat.le_of_ble_eq_true rfl) (fun X K E F hk => ?_)
  have E : ow_E X RX6 cX6_putCoins 4 (ow_rm 1 0 0) := E
  refine or_lv [(0, .ref a), (1, .int x), (2, .int c)] rfl ?_
  dsimp only [K_putCoins] at hk
  refine or_aload_n E rfl dX6_putCoins_0 ?_
  refine or_iload_n E rfl dX6_putCoins_1 ?_
  refine or_cV1r (cK_hasBuyer  h_a ) E lk_6_156 dX6_putCoins_2 h_a.1 rfl rfl (by decide) (by decide) ⟨Nat.le_refl _, Nat.le_refl _⟩ (Nat.le_of_ble_eq_true rfl) ?_
  refine or_if_eqZ 50 E dX6_putCoins_5 rfl (fun q5 => ?_) (fun q5 => ?_)
  · replace hk := ite_n (P := fun r : ow_I => K none (S, r, V, z)) (bz_neg q5) hk
    exact or_vret E F dX6_putCoins_50 (Nat.le_refl _) (Nat.le_refl _) hk
  · replace hk := ite_p (P := fun r : ow_I => K none (S, r, V, z)) q5 hk
    refine or_iload_n E rfl dX6_putCoins_8 ?_
    refine or_ldc (v := nI 99999) E wd_1132 dX6_putCoins_9 ?_
    refine or_aload_n E rfl dX6_putCoins_11 ?_
    refine ot_getC E fl_6_27 dX6_putCoins_12 h_a.1 rfl ?_
    refine or_iload_n E rfl dX6_putCoins_15 ?_
    refine or_top (nI_tn (ky_1 q5).1).symm ?_
    refine ot_aald (j := tn x) E dX6_putCoins_16 h_a.2.2.1 rfl rfl (by have := (ky_1 q5).2; have := hV.1.2; omega) (Nat.le_of_ble_eq_true rfl) ?_
    refine ot_getI E fl_6_160 dX6_putCoins_17 (h_a.2.2.2.2.2.1 (tn x) (by have := (ky_1 q5).2; have := hV.1.2; omega)) rfl ?_
    refine or_isub E dX6_putCoins_20 ?_
    refine or_mmin E lm_6_163 dX6_putCoins_21 (Nat.le_of_ble_eq_true rfl) ⟨Nat.le_refl _, Nat.le_refl _⟩ (Nat.le_of_ble_eq_true rfl) ?_
    refine or_istore_n E dX6_putCoins_24 (by decide) ?_
    refine or_aload_n E rfl dX6_putCoins_25 ?_
    refine ot_getC E fl_6_27 dX6_putCoins_26 h_a.1 rfl ?_
    refine or_iload_n E rfl dX6_putCoins_29 ?_
    refine or_top (nI_tn (ky_1 q5).1).symm ?_
    refine ot_aald (j := tn x) E dX6_putCoins_30 h_a.2.2.1 rfl rfl (by have := (ky_1 q5).2; have := hV.1.2; omega) (Nat.le_of_ble_eq_true rfl) ?_
    refine or_dup E rfl dX6_putCoins_31 ?_
    refine ot_getI E fl_6_160 dX6_putCoins_32 (h_a.2.2.2.2.2.1 (tn x) (by have := (ky_1 q5).2; have := hV.1.2; omega)) rfl ?_
    refine or_iload_n E rfl dX6_putCoins_35 ?_
    refine or_iadd E dX6_putCoins_36 ?_
    refine ot_putI E fl_6_160 fw_2_0 dX6_putCoins_37 (h_a.2.2.2.2.2.1 (tn x) (by have := (ky_1 q5).2; have := hV.1.2; omega)) rfl ?_
    obtain ⟨I1, hI1⟩ : ∃ y_ : ow_I, y_ = ow_u I (a + 5 + (tn x)) 0 (I (a + 5 + (tn x)) 0 + (i_min c (nI 99999 - (I (a + 5 + (tn x)) 0)))) := ⟨_, rfl⟩
    replace hk := lt_k (P := fun r : ow_I => K none (S, r, V, z)) hI1 hk
    refine or_nmI hI1 ?_
    refine or_aload_n E rfl dX6_putCoins_40 ?_
    refine or_dup E rfl dX6_putCoins_41 ?_
    refine ot_getI E fl_6_68 dX6_putCoins_42 h_a.1 rfl ?_
    refine or_iload_n E rfl dX6_putCoins_45 ?_
    refine or_iadd E dX6_putCoins_46 ?_
    refine ot_putI E fl_6_68 fw_6_6 dX6_putCoins_47 h_a.1 rfl ?_
    obtain ⟨I2, hI2⟩ : ∃ y_ : ow_I, y_ = ow_u I1 a 6 (I1 a 6 + (i_min c (nI 99999 - (I (a + 5 + (tn x)) 0)))) := ⟨_, rfl⟩
    replace hk := lt_k (P := fun r : ow_I => K none (S, r, V, z)) hI2 hk
    refine or_nmI hI2 ?_
    exact or_vret E F dX6_putCoins_50 (Nat.le_refl _) (Nat.le_refl _) hk
def K_takeBarrel (a : Nat) (r : Int32) (f : Nat) (s : Nat) (e : Nat) (I : ow_I) : Int32 × ow_I :=
  if K_hasRoom a I then lt (ow_u I a 10 (I a 10 + (nI 1))) (fun (I1 : ow_I) => lt (B_fill (a + 11 + 2 * (tn (I a 10))) f s e I1) (fun (I2 : ow_I) => lt (B_beginWaiting (a + 11 + 2 * (tn (I a 10))) r I2) (fun (I3 : ow_I) => lt (K_enqueue a (nI (tn (I a 10))) I3) (fun (I4 : ow_I) => (nI (tn (I a 10)), I4))))) else ((-1), I)
set_option maxRecDepth 100000 in
set_option maxHeartbeats 400000 in
theorem cK_takeBarrel {S : Nat → Option ow_Sh} {I : ow_I} {V : Nat → Nat → Value} {z : Nat} {a : Nat} {r : Int32} {f : Nat} {s : Nat} {e : Nat} (h_a : mk_S S a) (h_f : i9_S S f) (hV : k_V a I) (hs : s ≤ 9) (hee : e < 2 ^ 31) : ow_Cf yX6_takeBarrel cX6_takeBarrel 6 (some .int) 3 [.ref a, .int r, .ref f, .int (nI s), .int (nI e)] (S, I, V, z) (some (.int ((K_takeBarrel a r f s e I).1))) (S, (K_takeBarrel a r f s e I).2, V, z) := by
  refine ow_Cf.of rfl (Nat.le_of_ble_eq_true rfl) (fun X K E F hk => ?_)
  have E : ow_E X RX6 cX6_takeBarrel 6 (ow_rm 3 0 0) := E
  refine or_lv [(0, .ref a), (1, .int r), (2, .ref f), (3, .int (nI s)), (4, .int (nI e))] rfl ?_
  dsimp only [K_takeBarrel] at hk
  refine or_aload_n E rfl dX6_takeBarrel_0 ?_
  refine or_cV0r (cK_hasRoom  h_a ) E lk_6_111 dX6_takeBarrel_1 h_a.1 rfl rfl (by decide) (by decide) ⟨Nat.le_refl _, Nat.le_refl _⟩ (Nat.le_of_ble_eq_true rfl) ?_
  refine or_if_neZ 9 E dX6_takeBarrel_4 rfl (fun q4 => ?_) (fun q4 => ?_)
  · replace hk := ite_p (P := fun r : Int32 × ow_I => K (some (.int ((r).1))) (S, (r).2, V, z)) q4 hk
    refine or_aload_n E rfl dX6_takeBarrel_9 ?_
    refine ot_getI E fl_6_77 dX6_takeBarrel_10 h_a.1 rfl ?_
    refine or_top (nI_tn hV.2.1.1).symm ?_
    refine or_istore E dX6_takeBarrel_13 (by decide) ?_
    refine or_aload_n E rfl dX6_takeBarrel_15 ?_
    refine or_dup E rfl dX6_takeBarrel_16 ?_
    refine ot_getI E fl_6_77 dX6_takeBarrel_17 h_a.1 rfl ?_
    refine or_iconst (v := nI 1) E rfl dX6_takeBarrel_20 ?_
    refine or_iadd E dX6_takeBarrel_21 ?_
    refine ot_putI E fl_6_77 fw_6_10 dX6_takeBarrel_22 h_a.1 rfl ?_
    obtain ⟨I1, hI1⟩ : ∃ y_ : ow_I, y_ = ow_u I a 10 (I a 10 + (nI 1)) := ⟨_, rfl⟩
    replace hk := lt_k (P := fun r : Int32 × ow_I => K (some (.int ((r).1))) (S, (r).2, V, z)) hI1 hk
    refine or_nmI hI1 ?_
    refine or_aload_n E rfl dX6_takeBarrel_25 ?_
    refine ot_getC E fl_6_33 dX6_takeBarrel_26 h_a.1 rfl ?_
    refine or_iload E rfl dX6_takeBarrel_29 ?_
    refine ot_aald (j := tn (I a 10)) E dX6_takeBarrel_31 h_a.2.2.2.1 rfl rfl (kr_1 q4 hV.2.1.1) (Nat.le_of_ble_eq_true rfl) ?_
    refine or_aload_n E rfl dX6_takeBarrel_32 ?_
    refine or_iload_n E rfl dX6_takeBarrel_33 ?_
    refine or_iload E rfl dX6_takeBarrel_34 ?_
    refine or_cV3v (cB_fill  (h_a.2.2.2.2.2.2 (tn (I a 10)) (kr_1 q4 hV.2.1.1)) h_f hs hee) E lk_6_119 dX6_takeBarrel_36 (h_a.2.2.2.2.2.2 (tn (I a 10)) (kr_1 q4 hV.2.1.1)).1 rfl rfl (by decide) (by decide) ⟨Nat.le_refl _, Nat.le_refl _⟩ (Nat.le_of_ble_eq_true rfl) ?_
    obtain ⟨I2, hI2⟩ : ∃ y_ : ow_I, y_ = B_fill (a + 11 + 2 * (tn (I a 10))) f s e I1 := ⟨_, rfl⟩
    replace hk := lt_k (P := fun r : Int32 × ow_I => K (some (.int ((r).1))) (S, (r).2, V, z)) hI2 hk
    refine or_nmI hI2 ?_
    refine or_aload_n E rfl dX6_takeBarrel_39 ?_
    refine ot_getC E fl_6_33 dX6_takeBarrel_40 h_a.1 rfl ?_
    refine or_iload E rfl dX6_takeBarrel_43 ?_
    refine ot_aald (j := tn (I a 10)) E dX6_takeBarrel_45 h_a.2.2.2.1 rfl rfl (kr_1 q4 hV.2.1.1) (Nat.le_of_ble_eq_true rfl) ?_
    refine or_iload_n E rfl dX6_takeBarrel_46 ?_
    refine or_cV1v (cB_beginWaiting  (h_a.2.2.2.2.2.2 (tn (I a 10)) (kr_1 q4 hV.2.1.1)) ) E lk_6_123 dX6_takeBarrel_47 (h_a.2.2.2.2.2.2 (tn (I a 10)) (kr_1 q4 hV.2.1.1)).1 rfl rfl (by decide) (by decide) ⟨Nat.le_refl _, Nat.le_refl _⟩ (Nat.le_of_ble_eq_true rfl) ?_
    obtain ⟨I3, hI3⟩ : ∃ y_ : ow_I, y_ = B_beginWaiting (a + 11 + 2 * (tn (I a 10))) r I2 := ⟨_, rfl⟩
    replace hk := lt_k (P := fun r : Int32 × ow_I => K (some (.int ((r).1))) (S, (r).2, V, z)) hI3 hk
    refine or_nmI hI3 ?_
    refine or_aload_n E rfl dX6_takeBarrel_50 ?_
    refine or_iload E rfl dX6_takeBarrel_51 ?_
    refine or_cV1v (cK_enqueue  h_a (by subst hI3 hI2 hI1; have := (kr_1 q4 hV.2.1.1); rw [rr_bbw (by omega), rr_bf (by omega) (by omega), ow_u_k _ _ _ _ (by decide)]; exact hV.2.2.1.1) (by subst hI3 hI2 hI1; have := (kr_1 q4 hV.2.1.1); rw [rr_bbw (by omega), rr_bf (by omega) (by omega), ow_u_k _ _ _ _ (by decide)]; exact hV.2.2.1.2)) E lk_6_127 dX6_takeBarrel_53 h_a.1 rfl rfl (by decide) (by decide) ⟨Nat.le_refl _, Nat.le_refl _⟩ (Nat.le_of_ble_eq_true rfl) ?_
    obtain ⟨I4, hI4⟩ : ∃ y_ : ow_I, y_ = K_enqueue a (nI (tn (I a 10))) I3 := ⟨_, rfl⟩
    replace hk := lt_k (P := fun r : Int32 × ow_I => K (some (.int ((r).1))) (S, (r).2, V, z)) hI4 hk
    refine or_nmI hI4 ?_
    refine or_iload E rfl dX6_takeBarrel_56 ?_
    try dsimp only at hk
    exact or_iret E F dX6_takeBarrel_58 (Nat.le_refl _) (Nat.le_refl _) hk
  · replace hk := ite_n (P := fun r : Int32 × ow_I => K (some (.int ((r).1))) (S, (r).2, V, z)) (bz_neg q4) hk
    refine or_iconst (v := -1) E rfl dX6_takeBarrel_7 ?_
    try dsimp only at hk
    exact or_iret E F dX6_takeBarrel_8 (Nat.le_refl _) (Nat.le_refl _) hk
def K_beginEmpty (a : Nat) (I : ow_I) : ow_I :=
  lt (ow_u I (a + 1) 2 (nI 0)) (fun (I1 : ow_I) => lt (ow_u I1 a 4 (nI 0)) (fun (I2 : ow_I) => lt (ow_u I2 a 5 (nI 0)) (fun (I3 : ow_I) => lt (ow_u I3 a 6 (nI 0)) (fun (I4 : ow_I) => lt (ow_u I4 a 8 (nI 0)) (fun (I5 : ow_I) => lt (ow_u I5 a 10 (nI 0)) (fun (I6 : ow_I) => lt (ow_u I6 a 12 (nI 0)) (fun (I7 : ow_I) => lt (K_endBidding a I7) (fun (I8 : ow_I) => I8))))))))
set_option maxRecDepth 100000 in
set_option maxHeartbeats 400000 in
theorem cK_beginEmpty {S : Nat → Option ow_Sh} {I : ow_I} {V : Nat → Nat → Value} {z : Nat} {a : Nat} (h_a : mk_S S a)  : ow_Cf yX6_beginEmpty cX6_beginEmpty 1 none 1 [.ref a] (S, I, V, z) none (S, K_beginEmpty a I, V, z) := by
  refine ow_Cf.of rfl (Nat.le_of_ble_eq_true rfl) (fun X K E F hk => ?_)
  have E : ow_E X RX6 cX6_beginEmpty 1 (ow_rm 1 0 0) := E
  refine or_lv [(0, .ref a)] rfl ?_
  dsimp only [K_beginEmpty] at hk
  refine or_aload_n E rfl dX6_beginEmpty_0 ?_
  refine ot_getC E fl_6_12 dX6_beginEmpty_1 h_a.1 rfl ?_
  refine or_iconst (v := nI 0) E rfl dX6_beginEmpty_4 ?_
  refine ot_putI E fl_6_92 fw_8_2 dX6_beginEmpty_5 h_a.2.1 rfl ?_
  obtain ⟨I1, hI1⟩ : ∃ y_ : ow_I, y_ = ow_u I (a + 1) 2 (nI 0) := ⟨_, rfl⟩
  replace hk := lt_k (P := fun r : ow_I => K none (S, r, V, z)) hI1 hk
  refine or_nmI hI1 ?_
  refine or_aload_n E rfl dX6_beginEmpty_8 ?_
  refine or_iconst (v := nI 0) E rfl dX6_beginEmpty_9 ?_
  refine ot_putI E fl_6_62 fw_6_4 dX6_beginEmpty_10 h_a.1 rfl ?_
  obtain ⟨I2, hI2⟩ : ∃ y_ : ow_I, y_ = ow_u I1 a 4 (nI 0) := ⟨_, rfl⟩
  replace hk := lt_k (P := fun r : ow_I => K none (S, r, V, z)) hI2 hk
  refine or_nmI hI2 ?_
  refine or_aload_n E rfl dX6_beginEmpty_13 ?_
  refine or_iconst (v := nI 0) E rfl dX6_beginEmpty_14 ?_
  refine ot_putI E fl_6_65 fw_6_5 dX6_beginEmpty_15 h_a.1 rfl ?_
  obtain ⟨I3, hI3⟩ : ∃ y_ : ow_I, y_ = ow_u I2 a 5 (nI 0) := ⟨_, rfl⟩
  replace hk := lt_k (P := fun r : ow_I => K none (S, r, V, z)) hI3 hk
  refine or_nmI hI3 ?_
  refine or_aload_n E rfl dX6_beginEmpty_18 ?_
  refine or_iconst (v := nI 0) E rfl dX6_beginEmpty_19 ?_
  refine ot_putI E fl_6_68 fw_6_6 dX6_beginEmpty_20 h_a.1 rfl ?_
  obtain ⟨I4, hI4⟩ : ∃ y_ : ow_I, y_ = ow_u I3 a 6 (nI 0) := ⟨_, rfl⟩
  replace hk := lt_k (P := fun r : ow_I => K none (S, r, V, z)) hI4 hk
  refine or_nmI hI4 ?_
  refine or_aload_n E rfl dX6_beginEmpty_23 ?_
  refine or_iconst (v := nI 0) E rfl dX6_beginEmpty_24 ?_
  refine ot_putI E fl_6_71 fw_6_8 dX6_beginEmpty_25 h_a.1 rfl ?_
  obtain ⟨I5, hI5⟩ : ∃ y_ : ow_I, y_ = ow_u I4 a 8 (nI 0) := ⟨_, rfl⟩
  replace hk := lt_k (P := fun r : ow_I => K none (S, r, V, z)) hI5 hk
  refine or_nmI hI5 ?_
  refine or_aload_n E rfl dX6_beginEmpty_28 ?_
  refine or_iconst (v := nI 0) E rfl dX6_beginEmpty_29 ?_
  refine ot_putI E fl_6_77 fw_6_10 dX6_beginEmpty_30 h_a.1 rfl ?_
  obtain ⟨I6, hI6⟩ : ∃ y_ : ow_I, y_ = ow_u I5 a 10 (nI 0) := ⟨_, rfl⟩
  replace hk := lt_k (P := fun r : ow_I => K none (S, r, V, z)) hI6 hk
  refine or_nmI hI6 ?_
  refine or_aload_n E rfl dX6_beginEmpty_33 ?_
  refine or_iconst (v := nI 0) E rfl dX6_beginEmpty_34 ?_
  refine ot_putI E fl_6_89 fw_6_12 dX6_beginEmpty_35 h_a.1 rfl ?_
  obtain ⟨I7, hI7⟩ : ∃ y_ : ow_I, y_ = ow_u I6 a 12 (nI 0) := ⟨_, rfl⟩
  replace hk := lt_k (P := fun r : ow_I => K none (S, r, V, z)) hI7 hk
  refine or_nmI hI7 ?_
  refine or_aload_n E rfl dX6_beginEmpty_38 ?_
  refine or_cV0v (cK_endBidding  h_a ) E lk_6_95 dX6_beginEmpty_39 h_a.1 rfl rfl (by decide) (by decide) ⟨Nat.le_refl _, Nat.le_refl _⟩ (Nat.le_of_ble_eq_true rfl) ?_
  obtain ⟨I8, hI8⟩ : ∃ y_ : ow_I, y_ = K_endBidding a I7 := ⟨_, rfl⟩
  replace hk := lt_k (P := fun r : ow_I => K none (S, r, V, z)) hI8 hk
  refine or_nmI hI8 ?_
  exact or_vret E F dX6_beginEmpty_42 (Nat.le_refl _) (Nat.le_refl _) hk
def K_closeBarrel (a : Nat) (I : ow_I) : Bool × ow_I :=
  if I a 13 = (-1) then (false, I) else if I a 15 = (-1) then lt (K_sendBack a (tn (I a 13)) I) (fun (I1 : ow_I) => lt (K_endBidding a I1) (fun (I2 : ow_I) => (false, I2))) else lt (K_sell a (a + 11 + 2 * (tn (I a 13))) (a + 5 + (tn (I a 15))) I) (fun (I3 : ow_I) => lt (K_endBidding a I3) (fun (I4 : ow_I) => (true, I4)))
set_option maxRecDepth 100000 in
set_option maxHeartbeats 400000 in
theorem cK_closeBarrel {S : Nat → Option ow_Sh} {I : ow_I} {V : Nat → Nat → Value} {z : Nat} {a : Nat} (h_a : mk_S S a) (hV : k_V a I) : ow_Cf yX6_closeBarrel cX6_closeBarrel 2 (some .boolean) 2 [.ref a] (S, I, V, z) (some (.int (bi ((K_closeBarrel a I).1)))) (S, (K_closeBarrel a I).2, V, z) := by
  refine ow_Cf.of rfl (Nat.le_of_ble_eq_true rfl) (fun X K E F hk => ?_)
  have E : ow_E X RX6 cX6_closeBarrel 2 (ow_rm 2 0 0) := E
  refine or_lv [(0, .ref a)] rfl ?_
  dsimp only [K_closeBarrel] at hk
  refine or_aload_n E rfl dX6_closeBarrel_0 ?_
  refine ot_getI E fl_6_41 dX6_closeBarrel_1 h_a.1 rfl ?_
  refine or_iconst (v := -1) E rfl dX6_closeBarrel_4 ?_
  refine or_icmp_ne 10 E dX6_closeBarrel_5 rfl (fun q5 => ?_) (fun q5 => ?_)
  · replace hk := ite_n (P := fun r : Bool × ow_I => K (some (.int (bi ((r).1)))) (S, (r).2, V, z)) q5 hk
    refine or_aload_n E rfl dX6_closeBarrel_10 ?_
    refine ot_getI E fl_6_47 dX6_closeBarrel_11 h_a.1 rfl ?_
    refine or_iconst (v := -1) E rfl dX6_closeBarrel_14 ?_
    refine or_icmp_eq 22 E dX6_closeBarrel_15 rfl (fun q15 => ?_) (fun q15 => ?_)
    · replace hk := ite_p (P := fun r : Bool × ow_I => K (some (.int (bi ((r).1)))) (S, (r).2, V, z)) q15 hk
      refine or_iconst (v := nI 0) E rfl dX6_closeBarrel_22 ?_
      refine or_istore_n E dX6_closeBarrel_23 (by decide) ?_
      refine or_iload_n E rfl dX6_closeBarrel_24 ?_
      refine or_if_eqN 53 E dX6_closeBarrel_25 rfl (by omega) (fun q25 => ?_) (fun q25 => absurd q25 (by decide))
      refine or_aload_n E rfl dX6_closeBarrel_53 ?_
      refine or_aload_n E rfl dX6_closeBarrel_54 ?_
      refine ot_getI E fl_6_41 dX6_closeBarrel_55 h_a.1 rfl ?_
      refine or_top (nI_tn (ko_1 hV q5).1).symm ?_
      refine or_cV1v (cK_sendBack  h_a (ko_1 hV q5).2 hV.2.2.1.1 hV.2.2.1.2) E lk_6_249 dX6_closeBarrel_58 h_a.1 rfl rfl (by decide) (by decide) ⟨Nat.le_refl _, Nat.le_refl _⟩ (Nat.le_of_ble_eq_true rfl) ?_
      obtain ⟨I1, hI1⟩ : ∃ y_ : ow_I, y_ = K_sendBack a (tn (I a 13)) I := ⟨_, rfl⟩
      replace hk := lt_k (P := fun r : Bool × ow_I => K (some (.int (bi ((r).1)))) (S, (r).2, V, z)) hI1 hk
      refine or_nmI hI1 ?_
      refine or_aload_n E rfl dX6_closeBarrel_61 ?_
      refine or_cV0v (cK_endBidding  h_a ) E lk_6_95 dX6_closeBarrel_62 h_a.1 rfl rfl (by decide) (by decide) ⟨Nat.le_refl _, Nat.le_refl _⟩ (Nat.le_of_ble_eq_true rfl) ?_
      obtain ⟨I2, hI2⟩ : ∃ y_ : ow_I, y_ = K_endBidding a I1 := ⟨_, rfl⟩
      replace hk := lt_k (P := fun r : Bool × ow_I => K (some (.int (bi ((r).1)))) (S, (r).2, V, z)) hI2 hk
      refine or_nmI hI2 ?_
      refine or_iload_n E rfl dX6_closeBarrel_65 ?_
      try dsimp only at hk
      exact or_zret E F dX6_closeBarrel_66 (Nat.le_refl _) (Nat.le_refl _) (bi_nar false) hk
    · replace hk := ite_n (P := fun r : Bool × ow_I => K (some (.int (bi ((r).1)))) (S, (r).2, V, z)) q15 hk
      refine or_iconst (v := nI 1) E rfl dX6_closeBarrel_18 ?_
      refine or_goto 23 E dX6_closeBarrel_19 rfl ?_
      refine or_istore_n E dX6_closeBarrel_23 (by decide) ?_
      refine or_iload_n E rfl dX6_closeBarrel_24 ?_
      refine or_if_eqN 53 E dX6_closeBarrel_25 rfl (by omega) (fun q25 => absurd q25 (by decide)) (fun q25 => ?_)
      refine or_aload_n E rfl dX6_closeBarrel_28 ?_
      refine or_aload_n E rfl dX6_closeBarrel_29 ?_
      refine ot_getC E fl_6_33 dX6_closeBarrel_30 h_a.1 rfl ?_
      refine or_aload_n E rfl dX6_closeBarrel_33 ?_
      refine ot_getI E fl_6_41 dX6_closeBarrel_34 h_a.1 rfl ?_
      refine or_top (nI_tn (ko_1 hV q5).1).symm ?_
      refine ot_aald (j := tn (I a 13)) E dX6_closeBarrel_37 h_a.2.2.2.1 rfl rfl (ko_1 hV q5).2 (Nat.le_of_ble_eq_true rfl) ?_
      refine or_aload_n E rfl dX6_closeBarrel_38 ?_
      refine ot_getC E fl_6_27 dX6_closeBarrel_39 h_a.1 rfl ?_
      refine or_aload_n E rfl dX6_closeBarrel_42 ?_
      refine ot_getI E fl_6_47 dX6_closeBarrel_43 h_a.1 rfl ?_
      refine or_top (nI_tn (kl_1 hV q15).1).symm ?_
      refine ot_aald (j := tn (I a 15)) E dX6_closeBarrel_46 h_a.2.2.1 rfl rfl (kl_1 hV q15).2 (Nat.le_of_ble_eq_true rfl) ?_
      refine or_cV2v (cK_sell  h_a (h_a.2.2.2.2.2.2 (tn (I a 13)) (ko_1 hV q5).2) (h_a.2.2.2.2.2.1 (tn (I a 15)) (kl_1 hV q15).2) ) E lk_6_245 dX6_closeBarrel_47 h_a.1 rfl rfl (by decide) (by decide) ⟨Nat.le_refl _, Nat.le_refl _⟩ (Nat.le_of_ble_eq_true rfl) ?_
      obtain ⟨I3, hI3⟩ : ∃ y_ : ow_I, y_ = K_sell a (a + 11 + 2 * (tn (I a 13))) (a + 5 + (tn (I a 15))) I := ⟨_, rfl⟩
      replace hk := lt_k (P := fun r : Bool × ow_I => K (some (.int (bi ((r).1)))) (S, (r).2, V, z)) hI3 hk
      refine or_nmI hI3 ?_
      refine or_goto 61 E dX6_closeBarrel_50 rfl ?_
      refine or_aload_n E rfl dX6_closeBarrel_61 ?_
      refine or_cV0v (cK_endBidding  h_a ) E lk_6_95 dX6_closeBarrel_62 h_a.1 rfl rfl (by decide) (by decide) ⟨Nat.le_refl _, Nat.le_refl _⟩ (Nat.le_of_ble_eq_true rfl) ?_
      obtain ⟨I4, hI4⟩ : ∃ y_ : ow_I, y_ = K_endBidding a I3 := ⟨_, rfl⟩
      replace hk := lt_k (P := fun r : Bool × ow_I => K (some (.int (bi ((r).1)))) (S, (r).2, V, z)) hI4 hk
      refine or_nmI hI4 ?_
      refine or_iload_n E rfl dX6_closeBarrel_65 ?_
      try dsimp only at hk
      exact or_zret E F dX6_closeBarrel_66 (Nat.le_refl _) (Nat.le_refl _) (bi_nar true) hk
  · replace hk := ite_p (P := fun r : Bool × ow_I => K (some (.int (bi ((r).1)))) (S, (r).2, V, z)) q5 hk
    refine or_iconst (v := nI 0) E rfl dX6_closeBarrel_8 ?_
    try dsimp only at hk
    exact or_zret E F dX6_closeBarrel_9 (Nat.le_refl _) (Nat.le_refl _) (bi_nar false) hk
def K_whoNods_L33 (a : Nat) : Nat → ow_I → Int32 → Nat → Int32
  | 0, I, _, _ => default
  | n + 1, I, y, i => if tn (I a 8) ≤ i then (-1) else if nI (tn (I a 8)) ≤ y + (nI 1) then if K_refusal a (nI 0) I = 0 then if Op.cmpValue (FP.dcmp (Y_valueOf (a + 5 + 0) (a + 11 + 2 * (tn (I a 13))) I) (FP.i2d (K_nextPrice a I))) .l < 0 then K_whoNods_L33 a n I (nI 0) (i + 1) else nI 0 else K_whoNods_L33 a n I (nI 0) (i + 1) else if K_refusal a (y + (nI 1)) I = 0 then if Op.cmpValue (FP.dcmp (Y_valueOf (a + 5 + (tn (y + (nI 1)))) (a + 11 + 2 * (tn (I a 13))) I) (FP.i2d (K_nextPrice a I))) .l < 0 then K_whoNods_L33 a n I (y + (nI 1)) (i + 1) else y + (nI 1) else K_whoNods_L33 a n I (y + (nI 1)) (i + 1)
def K_whoNods (a : Nat) (I : ow_I) : Int32 :=
  if I a 13 = (-1) then (-1) else K_whoNods_L33 a 7 I (I a 15) 0
set_option maxRecDepth 100000 in
set_option maxHeartbeats 400000 in
theorem cK_whoNods {S : Nat → Option ow_Sh} {I : ow_I} {V : Nat → Nat → Value} {z : Nat} {a : Nat} (h_a : mk_S S a) (hV : k_V a I) : ow_Cf yX6_whoNods cX6_whoNods 5 (some .int) 2 [.ref a] (S, I, V, z) (some (.int (K_whoNods a I))) (S, I, V, z) := by
  refine ow_Cf.of rfl (Nat.le_of_ble_eq_true rfl) (fun X K E F hk => ?_)
  have E : ow_E X RX6 cX6_whoNods 5 (ow_rm 2 0 0) := E
  refine or_lv [(0, .ref a)] rfl ?_
  have L33 : ∀ (n : Nat) (I : ow_I) (y : Int32) (i : Nat) (hV : k_V a I) (q5 : ¬ I a 13 = (-1)) (hi : i ≤ 6) (hm : 6 - i < n) (hk : K (some (.int (K_whoNods_L33 a n I y i))) (S, I, V, z)), ow_W X 0 0 (S, I, V, z) 33 [(0, .ref a), (1, .ref (a + 11 + 2 * (tn (I a 13)))), (2, .int (K_nextPrice a I)), (3, .int y), (4, .int (nI i))] [] := by
    intro n
    induction n with
    | zero => intro I y i hV q5 hi hm; omega
    | succ n ih =>
      intro I y i hV q5 hi hm hk
      dsimp only [K_whoNods_L33] at hk
      have h8b := hV.1.2
      refine or_iload E rfl dX6_whoNods_33 ?_
      refine or_aload_n E rfl dX6_whoNods_35 ?_
      refine ot_getI E fl_6_71 dX6_whoNods_36 h_a.1 rfl ?_
      refine or_top (nI_tn hV.1.1).symm ?_
      refine or_icmp_geN 92 E dX6_whoNods_39 rfl (by omega) (by omega) (fun q39 => ?_) (fun q39 => ?_)
      · replace hk := ite_p (P := fun r : Int32 => K (some (.int (r))) (S, I, V, z)) q39 hk
        refine or_iconst (v := -1) E rfl dX6_whoNods_92 ?_
        exact or_iret E F dX6_whoNods_93 (Nat.le_refl _) (Nat.le_refl _) hk
      · replace hk := ite_n (P := fun r : Int32 => K (some (.int (r))) (S, I, V, z)) q39 hk
        refine or_iload_n E rfl dX6_whoNods_42 ?_
        refine or_iconst (v := nI 1) E rfl dX6_whoNods_43 ?_
        refine or_iadd E dX6_whoNods_44 ?_
        refine or_aload_n E rfl dX6_whoNods_45 ?_
        refine ot_getI E fl_6_71 dX6_whoNods_46 h_a.1 rfl ?_
        refine or_top (nI_tn hV.1.1).symm ?_
        refine or_icmp_ge 58 E dX6_whoNods_49 rfl (fun q49 => ?_) (fun q49 => ?_)
        · replace hk := ite_p (P := fun r : Int32 => K (some (.int (r))) (S, I, V, z)) q49 hk
          refine or_iconst (v := nI 0) E rfl dX6_whoNods_58 ?_
          refine or_istore_n E dX6_whoNods_59 (by decide) ?_
          refine or_aload_n E rfl dX6_whoNods_60 ?_
          refine or_iload_n E rfl dX6_whoNods_61 ?_
          refine or_cV1r (cK_refusal  h_a hV) E lk_6_181 dX6_whoNods_62 h_a.1 rfl rfl (by decide) (by decide) ⟨Nat.le_refl _, Nat.le_refl _⟩ (Nat.le_of_ble_eq_true rfl) ?_
          refine or_if_ne 86 E dX6_whoNods_65 rfl (fun q65 => ?_) (fun q65 => ?_)
          · replace hk := ite_n (P := fun r : Int32 => K (some (.int (r))) (S, I, V, z)) q65 hk
            refine or_iincN (c := 1) E dX6_whoNods_86 rfl rfl (by decide) ?_
            refine or_goto 33 E dX6_whoNods_89 rfl ?_
            refine or_lv _ ?_ (ih _ _ _ hV q5 (by omega) (by omega) hk)
            rfl
          · replace hk := ite_p (P := fun r : Int32 => K (some (.int (r))) (S, I, V, z)) q65 hk
            refine or_aload_n E rfl dX6_whoNods_68 ?_
            refine ot_getC E fl_6_27 dX6_whoNods_69 h_a.1 rfl ?_
            refine or_iload_n E rfl dX6_whoNods_72 ?_
            refine ot_aald (j := 0) E dX6_whoNods_73 h_a.2.2.1 rfl rfl (by decide) (Nat.le_of_ble_eq_true rfl) ?_
            refine or_aload_n E rfl dX6_whoNods_74 ?_
            refine or_cV1r (cY_valueOf  (h_a.2.2.2.2.2.1 0 (by decide)) (h_a.2.2.2.2.2.2 (tn (I a 13)) (ko_1 hV q5).2) ) E lk_6_166 dX6_whoNods_75 (h_a.2.2.2.2.2.1 0 (by decide)) rfl rfl (by decide) (by decide) ⟨Nat.le_refl _, Nat.le_refl _⟩ (Nat.le_of_ble_eq_true rfl) ?_
            refine or_iload_n E rfl dX6_whoNods_78 ?_
            refine or_i2d E dX6_whoNods_79 ?_
            refine or_dcmp E dX6_whoNods_80 ?_
            refine or_if_lt 86 E dX6_whoNods_81 rfl (fun q81 => ?_) (fun q81 => ?_)
            · replace hk := ite_p (P := fun r : Int32 => K (some (.int (r))) (S, I, V, z)) q81 hk
              refine or_iincN (c := 1) E dX6_whoNods_86 rfl rfl (by decide) ?_
              refine or_goto 33 E dX6_whoNods_89 rfl ?_
              refine or_lv _ ?_ (ih _ _ _ hV q5 (by omega) (by omega) hk)
              rfl
            · replace hk := ite_n (P := fun r : Int32 => K (some (.int (r))) (S, I, V, z)) q81 hk
              refine or_iload_n E rfl dX6_whoNods_84 ?_
              exact or_iret E F dX6_whoNods_85 (Nat.le_refl _) (Nat.le_refl _) hk
        · replace hk := ite_n (P := fun r : Int32 => K (some (.int (r))) (S, I, V, z)) q49 hk
          refine or_iload_n E rfl dX6_whoNods_52 ?_
          refine or_iconst (v := nI 1) E rfl dX6_whoNods_53 ?_
          refine or_iadd E dX6_whoNods_54 ?_
          refine or_goto 59 E dX6_whoNods_55 rfl ?_
          refine or_istore_n E dX6_whoNods_59 (by decide) ?_
          refine or_aload_n E rfl dX6_whoNods_60 ?_
          refine or_iload_n E rfl dX6_whoNods_61 ?_
          refine or_cV1r (cK_refusal  h_a hV) E lk_6_181 dX6_whoNods_62 h_a.1 rfl rfl (by decide) (by decide) ⟨Nat.le_refl _, Nat.le_refl _⟩ (Nat.le_of_ble_eq_true rfl) ?_
          refine or_if_ne 86 E dX6_whoNods_65 rfl (fun q65 => ?_) (fun q65 => ?_)
          · replace hk := ite_n (P := fun r : Int32 => K (some (.int (r))) (S, I, V, z)) q65 hk
            refine or_iincN (c := 1) E dX6_whoNods_86 rfl rfl (by decide) ?_
            refine or_goto 33 E dX6_whoNods_89 rfl ?_
            refine or_lv _ ?_ (ih _ _ _ hV q5 (by omega) (by omega) hk)
            rfl
          · replace hk := ite_p (P := fun r : Int32 => K (some (.int (r))) (S, I, V, z)) q65 hk
            refine or_aload_n E rfl dX6_whoNods_68 ?_
            refine ot_getC E fl_6_27 dX6_whoNods_69 h_a.1 rfl ?_
            refine or_iload_n E rfl dX6_whoNods_72 ?_
            refine or_top (nI_tn (ref_0 q65).1).symm ?_
            refine ot_aald (j := tn (y + (nI 1))) E dX6_whoNods_73 h_a.2.2.1 rfl rfl (by have := (ref_0 q65).2; have := hV.1.2; omega) (Nat.le_of_ble_eq_true rfl) ?_
            refine or_aload_n E rfl dX6_whoNods_74 ?_
            refine or_cV1r (cY_valueOf  (h_a.2.2.2.2.2.1 (tn (y + (nI 1))) (by have := (ref_0 q65).2; have := hV.1.2; omega)) (h_a.2.2.2.2.2.2 (tn (I a 13)) (ko_1 hV q5).2) ) E lk_6_166 dX6_whoNods_75 (h_a.2.2.2.2.2.1 (tn (y + (nI 1))) (by have := (ref_0 q65).2; have := hV.1.2; omega)) rfl rfl (by decide) (by decide) ⟨Nat.le_refl _, Nat.le_refl _⟩ (Nat.le_of_ble_eq_true rfl) ?_
            refine or_iload_n E rfl dX6_whoNods_78 ?_
            refine or_i2d E dX6_whoNods_79 ?_
            refine or_dcmp E dX6_whoNods_80 ?_
            refine or_if_lt 86 E dX6_whoNods_81 rfl (fun q81 => ?_) (fun q81 => ?_)
            · replace hk := ite_p (P := fun r : Int32 => K (some (.int (r))) (S, I, V, z)) q81 hk
              refine or_iincN (c := 1) E dX6_whoNods_86 rfl rfl (by decide) ?_
              refine or_goto 33 E dX6_whoNods_89 rfl ?_
              refine or_lv _ ?_ (ih _ _ _ hV q5 (by omega) (by omega) hk)
              rfl
            · replace hk := ite_n (P := fun r : Int32 => K (some (.int (r))) (S, I, V, z)) q81 hk
              refine or_iload_n E rfl dX6_whoNods_84 ?_
              exact or_iret E F dX6_whoNods_85 (Nat.le_refl _) (Nat.le_refl _) hk
  dsimp only [K_whoNods] at hk
  refine or_aload_n E rfl dX6_whoNods_0 ?_
  refine ot_getI E fl_6_41 dX6_whoNods_1 h_a.1 rfl ?_
  refine or_iconst (v := -1) E rfl dX6_whoNods_4 ?_
  refine or_icmp_ne 10 E dX6_whoNods_5 rfl (fun q5 => ?_) (fun q5 => ?_)
  · replace hk := ite_n (P := fun r : Int32 => K (some (.int (r))) (S, I, V, z)) q5 hk
    refine or_aload_n E rfl dX6_whoNods_10 ?_
    refine ot_getC E fl_6_33 dX6_whoNods_11 h_a.1 rfl ?_
    refine or_aload_n E rfl dX6_whoNods_14 ?_
    refine ot_getI E fl_6_41 dX6_whoNods_15 h_a.1 rfl ?_
    refine or_top (nI_tn (ko_1 hV q5).1).symm ?_
    refine ot_aald (j := tn (I a 13)) E dX6_whoNods_18 h_a.2.2.2.1 rfl rfl (ko_1 hV q5).2 (Nat.le_of_ble_eq_true rfl) ?_
    refine or_astore_n E dX6_whoNods_19 (by decide) ?_
    refine or_aload_n E rfl dX6_whoNods_20 ?_
    refine or_cV0r (cK_nextPrice  h_a hV) E lk_6_173 dX6_whoNods_21 h_a.1 rfl rfl (by decide) (by decide) ⟨Nat.le_refl _, Nat.le_refl _⟩ (Nat.le_of_ble_eq_true rfl) ?_
    refine or_istore_n E dX6_whoNods_24 (by decide) ?_
    refine or_aload_n E rfl dX6_whoNods_25 ?_
    refine ot_getI E fl_6_47 dX6_whoNods_26 h_a.1 rfl ?_
    refine or_istore_n E dX6_whoNods_29 (by decide) ?_
    refine or_iconst (v := nI 0) E rfl dX6_whoNods_30 ?_
    refine or_istore E dX6_whoNods_31 (by decide) ?_
    refine or_lv _ ?_ (L33 7 _ _ _ hV q5 (by decide) (by decide) hk)
    rfl
  · replace hk := ite_p (P := fun r : Int32 => K (some (.int (r))) (S, I, V, z)) q5 hk
    refine or_iconst (v := -1) E rfl dX6_whoNods_8 ?_
    exact or_iret E F dX6_whoNods_9 (Nat.le_refl _) (Nat.le_refl _) hk
end
section
theorem kc_1 {a : Nat} {x e : Int32} {I : ow_I} (hV : k_V a I) (h : K_canCut a x e I = true) : 0 ≤ x ∧ tn x < tn (I a 10) ∧ 0 ≤ e ∧ 1 ≤ tn e ∧ tn e < tn (I (a + 11 + 2 * tn x) 1) ∧ tn (I a 10) < 20 := by
  unfold K_canCut at h
  split at h
  · rename_i hw
    have w := kw_1 hw
    split at h
    · exact absurd h (by decide)
    · rename_i h1
      have h1 := i_nlt h1
      have he : 0 ≤ e := by
        rw [Int32.le_iff_toInt_le] at h1 ⊢
        have z : (0 : Int32).toInt = 0 := by decide
        have y : (nI 1).toInt = 1 := by decide
        omega
      split at h
      · exact absurd h (by decide)
      · rename_i h2
        split at h
        · rename_i hr
          have r := lt_tn (i_lt h2) he
          refine ⟨w.1, w.2.1, he, ?_, r.2, kr_1 hr hV.2.1.1⟩
          rw [← nI_tn he] at h1
          rcases Nat.eq_zero_or_pos (tn e) with z | z
          · rw [z] at h1; exact absurd h1 (by decide)
          · exact z
        · exact absurd h (by decide)
  · exact absurd h (by decide)
theorem lc_6_83 : ow_lc RX6 83 := ⟨ow_T_in 892 (by decide +kernel) (by decide +kernel), ow_T_in 621 (by decide +kernel) (by decide +kernel), ow_T_in 620 (by decide +kernel) (by decide +kernel), ow_T_in 21 (by decide +kernel) (by decide +kernel)⟩
theorem lm_6_137 : ow_lm RX6 137 Lib.Math.max.name Lib.Math.max.code := ⟨ow_T_in 1092 (by decide +kernel) (by decide +kernel), ow_T_in 524 (by decide +kernel) (by decide +kernel), ow_T_in 18 (by decide +kernel) (by decide +kernel), ow_T_in 525 (by decide +kernel) (by decide +kernel)⟩
theorem fl_6_18 : ow_fl RX6 18 6 1 := ⟨_, rfl, by decide, ow_T_in 157 (by decide +kernel) (by decide +kernel), ow_ok6⟩
theorem fl_6_143 : ow_fl RX6 143 1 0 := ⟨_, rfl, by decide, ow_T_in 104 (by decide +kernel) (by decide +kernel), ow_ok1⟩
theorem fw_6_1 : ∃ r : vw_C, ow_cl[6]? = some r ∧ (r.2.1 1).2.2.2 = false ∧ parseFieldDescriptor (r.2.1 1).2.2.1 = some .int := ⟨_, rfl, rfl, by decide +kernel⟩
theorem fw_6_2 : ∃ r : vw_C, ow_cl[6]? = some r ∧ (r.2.1 2).2.2.2 = false ∧ parseFieldDescriptor (r.2.1 2).2.2.1 = some .int := ⟨_, rfl, rfl, by decide +kernel⟩
theorem fw_6_3 : ∃ r : vw_C, ow_cl[6]? = some r ∧ (r.2.1 3).2.2.2 = false ∧ parseFieldDescriptor (r.2.1 3).2.2.1 = some .int := ⟨_, rfl, rfl, by decide +kernel⟩
theorem lk_6_55 : ow_lv RX6 55 yX8_copyFrom cX8_copyFrom 2 none 1 := ⟨ow_T_in 879 (by decide +kernel) (by decide +kernel), ow_T_in 880 (by decide +kernel) (by decide +kernel), ow_T_in 881 (by decide +kernel) (by decide +kernel), ow_T_in 3 (by decide +kernel) (by decide +kernel), ow_T_in 882 (by decide +kernel) (by decide +kernel), ⟨by decide +kernel, by decide +kernel, by decide +kernel⟩⟩
theorem lk_6_74 : ow_lv RX6 74 yX2_copyFrom cX2_copyFrom 2 none 1 := ⟨ow_T_in 883 (by decide +kernel) (by decide +kernel), ow_T_in 884 (by decide +kernel) (by decide +kernel), ow_T_in 885 (by decide +kernel) (by decide +kernel), ow_T_in 4 (by decide +kernel) (by decide +kernel), ow_T_in 886 (by decide +kernel) (by decide +kernel), ⟨by decide +kernel, by decide +kernel, by decide +kernel⟩⟩
theorem lk_6_80 : ow_lv RX6 80 yX1_copyFrom cX1_copyFrom 2 none 1 := ⟨ow_T_in 887 (by decide +kernel) (by decide +kernel), ow_T_in 888 (by decide +kernel) (by decide +kernel), ow_T_in 889 (by decide +kernel) (by decide +kernel), ow_T_in 5 (by decide +kernel) (by decide +kernel), ow_T_in 890 (by decide +kernel) (by decide +kernel), ⟨by decide +kernel, by decide +kernel, by decide +kernel⟩⟩
theorem lk_6_130 : ow_lv RX6 130 yX6_canCut cX6_canCut 3 (some .boolean) 2 := ⟨ow_T_in 1091 (by decide +kernel) (by decide +kernel), ow_T_in 1079 (by decide +kernel) (by decide +kernel), ow_T_in 1080 (by decide +kernel) (by decide +kernel), ow_T_in 2 (by decide +kernel) (by decide +kernel), ow_T_in 1081 (by decide +kernel) (by decide +kernel), ⟨by decide +kernel, by decide +kernel, by decide +kernel⟩⟩
theorem lk_6_146 : ow_lv RX6 146 yX6_takeBarrel cX6_takeBarrel 6 (some .int) 4 := ⟨ow_T_in 1093 (by decide +kernel) (by decide +kernel), ow_T_in 504 (by decide +kernel) (by decide +kernel), ow_T_in 505 (by decide +kernel) (by decide +kernel), ow_T_in 2 (by decide +kernel) (by decide +kernel), ow_T_in 506 (by decide +kernel) (by decide +kernel), ⟨by decide +kernel, by decide +kernel, by decide +kernel⟩⟩
theorem lk_6_150 : ow_lv RX6 150 yX1_keepFirst cX1_keepFirst 2 none 1 := ⟨ow_T_in 1094 (by decide +kernel) (by decide +kernel), ow_T_in 1095 (by decide +kernel) (by decide +kernel), ow_T_in 1096 (by decide +kernel) (by decide +kernel), ow_T_in 5 (by decide +kernel) (by decide +kernel), ow_T_in 1097 (by decide +kernel) (by decide +kernel), ⟨by decide +kernel, by decide +kernel, by decide +kernel⟩⟩
theorem lk_6_212 : ow_lv RX6 212 yX6_takeNod cX6_takeNod 2 none 1 := ⟨ow_T_in 1228 (by decide +kernel) (by decide +kernel), ow_T_in 1061 (by decide +kernel) (by decide +kernel), ow_T_in 1062 (by decide +kernel) (by decide +kernel), ow_T_in 2 (by decide +kernel) (by decide +kernel), ow_T_in 1063 (by decide +kernel) (by decide +kernel), ⟨by decide +kernel, by decide +kernel, by decide +kernel⟩⟩
theorem lk_6_233 : ow_lv RX6 233 yX8_hornBlows cX8_hornBlows 1 (some .boolean) 0 := ⟨ow_T_in 1196 (by decide +kernel) (by decide +kernel), ow_T_in 1197 (by decide +kernel) (by decide +kernel), ow_T_in 1198 (by decide +kernel) (by decide +kernel), ow_T_in 3 (by decide +kernel) (by decide +kernel), ow_T_in 1199 (by decide +kernel) (by decide +kernel), ⟨by decide +kernel, by decide +kernel, by decide +kernel⟩⟩
theorem lk_6_236 : ow_lv RX6 236 yX6_closeBarrel cX6_closeBarrel 2 (some .boolean) 0 := ⟨ow_T_in 1200 (by decide +kernel) (by decide +kernel), ow_T_in 1202 (by decide +kernel) (by decide +kernel), ow_T_sel 25 (by decide +kernel) (by decide +kernel), ow_T_in 2 (by decide +kernel) (by decide +kernel), ow_T_in 1203 (by decide +kernel) (by decide +kernel), ⟨by decide +kernel, by decide +kernel, by decide +kernel⟩⟩
theorem lk_6_239 : ow_lv RX6 239 yX6_openFirst cX6_openFirst 1 none 0 := ⟨ow_T_in 1212 (by decide +kernel) (by decide +kernel), ow_T_in 1214 (by decide +kernel) (by decide +kernel), ow_T_sel 28 (by decide +kernel) (by decide +kernel), ow_T_in 2 (by decide +kernel) (by decide +kernel), ow_T_in 1215 (by decide +kernel) (by decide +kernel), ⟨by decide +kernel, by decide +kernel, by decide +kernel⟩⟩
theorem lk_6_242 : ow_lv RX6 242 yX6_whoNods cX6_whoNods 5 (some .int) 0 := ⟨ow_T_in 1216 (by decide +kernel) (by decide +kernel), ow_T_in 1217 (by decide +kernel) (by decide +kernel), ow_T_in 1218 (by decide +kernel) (by decide +kernel), ow_T_in 2 (by decide +kernel) (by decide +kernel), ow_T_in 1219 (by decide +kernel) (by decide +kernel), ⟨by decide +kernel, by decide +kernel, by decide +kernel⟩⟩
def K_passOneMinute (a : Nat) (I : ow_I) : Bool × ow_I :=
  lt (ow_u I (a + 1) 2 (I (a + 1) 2 + (nI 1))) (fun (I1 : ow_I) => if T_hornBlows (a + 1) I1 then lt (K_closeBarrel a I1) (fun (r6 : Bool × ow_I) => (r6.1, r6.2)) else if T_isLow (a + 1) I1 then if I1 a 13 = (-1) then lt (K_openFirst a I1) (fun (I5 : ow_I) => (false, I5)) else if K_whoNods a I1 = (-1) then lt (ow_u I1 a 16 (I1 a 16 + (nI 1))) (fun (I2 : ow_I) => if I2 a 16 = I2 a 1 then lt (K_closeBarrel a I2) (fun (r3 : Bool × ow_I) => if r3.1 then (true, r3.2) else (false, r3.2)) else (false, I2)) else lt (K_takeNod a (K_whoNods a I1) I1) (fun (I4 : ow_I) => (false, I4)) else (false, I1))
set_option maxRecDepth 100000 in
set_option maxHeartbeats 400000 in
theorem cK_passOneMinute {S : Nat → Option ow_Sh} {I : ow_I} {V : Nat → Nat → Value} {z : Nat} {a : Nat} (h_a : mk_S S a) (hV : k_V a I) : ow_Cf yX6_passOneMinute cX6_passOneMinute 2 (some .boolean) 3 [.ref a] (S, I, V, z) (some (.int (bi ((K_passOneMinute a I).1)))) (S, (K_passOneMinute a I).2, V, z) := by
  refine ow_Cf.of rfl (Nat.le_of_ble_eq_true rfl) (fun X K E F hk => ?_)
  have E : ow_E X RX6 cX6_passOneMinute 2 (ow_rm 3 0 0) := E
  refine or_lv [(0, .ref a)] rfl ?_
  dsimp only [K_passOneMinute] at hk
  refine or_aload_n E rfl dX6_passOneMinute_0 ?_
  refine ot_getC E fl_6_12 dX6_passOneMinute_1 h_a.1 rfl ?_
  refine or_dup E rfl dX6_passOneMinute_4 ?_
  refine ot_getI E fl_6_92 dX6_passOneMinute_5 h_a.2.1 rfl ?_
  refine or_iconst (v := nI 1) E rfl dX6_passOneMinute_8 ?_
  refine or_iadd E dX6_passOneMinute_9 ?_
  refine ot_putI E fl_6_92 fw_8_2 dX6_passOneMinute_10 h_a.2.1 rfl ?_
  obtain ⟨I1, hI1⟩ : ∃ y_ : ow_I, y_ = ow_u I (a + 1) 2 (I (a + 1) 2 + (nI 1)) := ⟨_, rfl⟩
  replace hk := lt_k (P := fun r : Bool × ow_I => K (some (.int (bi ((r).1)))) (S, (r).2, V, z)) hI1 hk
  refine or_nmI hI1 ?_
  refine or_aload_n E rfl dX6_passOneMinute_13 ?_
  refine ot_getC E fl_6_12 dX6_passOneMinute_14 h_a.1 rfl ?_
  refine or_cV0r (cT_hornBlows  h_a.2.1 ) E lk_6_233 dX6_passOneMinute_17 h_a.2.1 rfl rfl (by decide) (by decide) ⟨Nat.le_refl _, Nat.le_refl _⟩ (Nat.le_of_ble_eq_true rfl) ?_
  refine or_if_eqZ 28 E dX6_passOneMinute_20 rfl (fun q20 => ?_) (fun q20 => ?_)
  · replace hk := ite_n (P := fun r : Bool × ow_I => K (some (.int (bi ((r).1)))) (S, (r).2, V, z)) (bz_neg q20) hk
    refine or_aload_n E rfl dX6_passOneMinute_28 ?_
    refine ot_getC E fl_6_12 dX6_passOneMinute_29 h_a.1 rfl ?_
    refine or_cV0r (cT_isLow  h_a.2.1 ) E lk_6_170 dX6_passOneMinute_32 h_a.2.1 rfl rfl (by decide) (by decide) ⟨Nat.le_refl _, Nat.le_refl _⟩ (Nat.le_of_ble_eq_true rfl) ?_
    refine or_if_neZ 40 E dX6_passOneMinute_35 rfl (fun q35 => ?_) (fun q35 => ?_)
    · replace hk := ite_p (P := fun r : Bool × ow_I => K (some (.int (bi ((r).1)))) (S, (r).2, V, z)) q35 hk
      refine or_aload_n E rfl dX6_passOneMinute_40 ?_
      refine ot_getI E fl_6_41 dX6_passOneMinute_41 h_a.1 rfl ?_
      refine or_iconst (v := -1) E rfl dX6_passOneMinute_44 ?_
      refine or_icmp_ne 54 E dX6_passOneMinute_45 rfl (fun q45 => ?_) (fun q45 => ?_)
      · replace hk := ite_n (P := fun r : Bool × ow_I => K (some (.int (bi ((r).1)))) (S, (r).2, V, z)) q45 hk
        refine or_aload_n E rfl dX6_passOneMinute_54 ?_
        refine or_cV0r (cK_whoNods  h_a (by subst hI1; exact (kV_t hV))) E lk_6_242 dX6_passOneMinute_55 h_a.1 rfl rfl (by decide) (by decide) ⟨Nat.le_refl _, Nat.le_refl _⟩ (Nat.le_of_ble_eq_true rfl) ?_
        refine or_istore_n E dX6_passOneMinute_58 (by decide) ?_
        refine or_iload_n E rfl dX6_passOneMinute_59 ?_
        refine or_iconst (v := -1) E rfl dX6_passOneMinute_60 ?_
        refine or_icmp_eq 71 E dX6_passOneMinute_61 rfl (fun q61 => ?_) (fun q61 => ?_)
        · replace hk := ite_p (P := fun r : Bool × ow_I => K (some (.int (bi ((r).1)))) (S, (r).2, V, z)) q61 hk
          refine or_aload_n E rfl dX6_passOneMinute_71 ?_
          refine or_dup E rfl dX6_passOneMinute_72 ?_
          refine ot_getI E fl_6_50 dX6_passOneMinute_73 h_a.1 rfl ?_
          refine or_iconst (v := nI 1) E rfl dX6_passOneMinute_76 ?_
          refine or_iadd E dX6_passOneMinute_77 ?_
          refine ot_putI E fl_6_50 fw_6_16 dX6_passOneMinute_78 h_a.1 rfl ?_
          obtain ⟨I2, hI2⟩ : ∃ y_ : ow_I, y_ = ow_u I1 a 16 (I1 a 16 + (nI 1)) := ⟨_, rfl⟩
          replace hk := lt_k (P := fun r : Bool × ow_I => K (some (.int (bi ((r).1)))) (S, (r).2, V, z)) hI2 hk
          refine or_nmI hI2 ?_
          refine or_aload_n E rfl dX6_passOneMinute_81 ?_
          refine ot_getI E fl_6_50 dX6_passOneMinute_82 h_a.1 rfl ?_
          refine or_aload_n E rfl dX6_passOneMinute_85 ?_
          refine ot_getI E fl_6_18 dX6_passOneMinute_86 h_a.1 rfl ?_
          refine or_icmp_ne 103 E dX6_passOneMinute_89 rfl (fun q89 => ?_) (fun q89 => ?_)
          · replace hk := ite_n (P := fun r : Bool × ow_I => K (some (.int (bi ((r).1)))) (S, (r).2, V, z)) q89 hk
            refine or_iconst (v := nI 0) E rfl dX6_passOneMinute_103 ?_
            try dsimp only at hk
            exact or_zret E F dX6_passOneMinute_104 (Nat.le_refl _) (Nat.le_refl _) (bi_nar false) hk
          · replace hk := ite_p (P := fun r : Bool × ow_I => K (some (.int (bi ((r).1)))) (S, (r).2, V, z)) q89 hk
            refine or_aload_n E rfl dX6_passOneMinute_92 ?_
            refine or_cV0r (cK_closeBarrel  h_a (by subst hI2 hI1; exact (kV_q (kV_t hV) (Or.inl rfl)))) E lk_6_236 dX6_passOneMinute_93 h_a.1 rfl rfl (by decide) (by decide) ⟨Nat.le_refl _, Nat.le_refl _⟩ (Nat.le_of_ble_eq_true rfl) ?_
            obtain ⟨r3, hr3⟩ : ∃ y_ : Bool × ow_I, y_ = K_closeBarrel a I2 := ⟨_, rfl⟩
            replace hk := lt_k (P := fun r : Bool × ow_I => K (some (.int (bi ((r).1)))) (S, (r).2, V, z)) hr3 hk
            refine or_nmZ hr3 ?_
            refine or_if_eqZ 103 E dX6_passOneMinute_96 rfl (fun q96 => ?_) (fun q96 => ?_)
            · replace hk := ite_n (P := fun r : Bool × ow_I => K (some (.int (bi ((r).1)))) (S, (r).2, V, z)) (bz_neg q96) hk
              refine or_iconst (v := nI 0) E rfl dX6_passOneMinute_103 ?_
              try dsimp only at hk
              exact or_zret E F dX6_passOneMinute_104 (Nat.le_refl _) (Nat.le_refl _) (bi_nar false) hk
            · replace hk := ite_p (P := fun r : Bool × ow_I => K (some (.int (bi ((r).1)))) (S, (r).2, V, z)) q96 hk
              refine or_iconst (v := nI 1) E rfl dX6_passOneMinute_99 ?_
              refine or_goto 104 E dX6_passOneMinute_100 rfl ?_
              try dsimp only at hk
              exact or_zret E F dX6_passOneMinute_104 (Nat.le_refl _) (Nat.le_refl _) (bi_nar true) hk
        · replace hk := ite_n (P := fun r : Bool × ow_I => K (some (.int (bi ((r).1)))) (S, (r).2, V, z)) q61 hk
          refine or_aload_n E rfl dX6_passOneMinute_64 ?_
          refine or_iload_n E rfl dX6_passOneMinute_65 ?_
          refine or_cV1v (cK_takeNod  h_a (by subst hI1; exact (kV_t hV))) E lk_6_212 dX6_passOneMinute_66 h_a.1 rfl rfl (by decide) (by decide) ⟨Nat.le_refl _, Nat.le_refl _⟩ (Nat.le_of_ble_eq_true rfl) ?_
          obtain ⟨I4, hI4⟩ : ∃ y_ : ow_I, y_ = K_takeNod a (K_whoNods a I1) I1 := ⟨_, rfl⟩
          replace hk := lt_k (P := fun r : Bool × ow_I => K (some (.int (bi ((r).1)))) (S, (r).2, V, z)) hI4 hk
          refine or_nmI hI4 ?_
          refine or_iconst (v := nI 0) E rfl dX6_passOneMinute_69 ?_
          try dsimp only at hk
          exact or_zret E F dX6_passOneMinute_70 (Nat.le_refl _) (Nat.le_refl _) (bi_nar false) hk
      · replace hk := ite_p (P := fun r : Bool × ow_I => K (some (.int (bi ((r).1)))) (S, (r).2, V, z)) q45 hk
        refine or_aload_n E rfl dX6_passOneMinute_48 ?_
        refine or_cV0v (cK_openFirst  h_a (by subst hI1; exact (kV_t hV))) E lk_6_239 dX6_passOneMinute_49 h_a.1 rfl rfl (by decide) (by decide) ⟨Nat.le_refl _, Nat.le_refl _⟩ (Nat.le_of_ble_eq_true rfl) ?_
        obtain ⟨I5, hI5⟩ : ∃ y_ : ow_I, y_ = K_openFirst a I1 := ⟨_, rfl⟩
        replace hk := lt_k (P := fun r : Bool × ow_I => K (some (.int (bi ((r).1)))) (S, (r).2, V, z)) hI5 hk
        refine or_nmI hI5 ?_
        refine or_iconst (v := nI 0) E rfl dX6_passOneMinute_52 ?_
        try dsimp only at hk
        exact or_zret E F dX6_passOneMinute_53 (Nat.le_refl _) (Nat.le_refl _) (bi_nar false) hk
    · replace hk := ite_n (P := fun r : Bool × ow_I => K (some (.int (bi ((r).1)))) (S, (r).2, V, z)) (bz_neg q35) hk
      refine or_iconst (v := nI 0) E rfl dX6_passOneMinute_38 ?_
      try dsimp only at hk
      exact or_zret E F dX6_passOneMinute_39 (Nat.le_refl _) (Nat.le_refl _) (bi_nar false) hk
  · replace hk := ite_p (P := fun r : Bool × ow_I => K (some (.int (bi ((r).1)))) (S, (r).2, V, z)) q20 hk
    refine or_aload_n E rfl dX6_passOneMinute_23 ?_
    refine or_cV0r (cK_closeBarrel  h_a (by subst hI1; exact (kV_t hV))) E lk_6_236 dX6_passOneMinute_24 h_a.1 rfl rfl (by decide) (by decide) ⟨Nat.le_refl _, Nat.le_refl _⟩ (Nat.le_of_ble_eq_true rfl) ?_
    obtain ⟨r6, hr6⟩ : ∃ y_ : Bool × ow_I, y_ = K_closeBarrel a I1 := ⟨_, rfl⟩
    replace hk := lt_k (P := fun r : Bool × ow_I => K (some (.int (bi ((r).1)))) (S, (r).2, V, z)) hr6 hk
    refine or_nmZ hr6 ?_
    try dsimp only at hk
    exact or_zret E F dX6_passOneMinute_27 (Nat.le_refl _) (Nat.le_refl _) (bi_nar _) hk
def K_cut (a : Nat) (x : Int32) (e : Int32) (I : ow_I) : Int32 × ow_I :=
  if K_canCut a x e I then lt (K_takeBarrel a (i_max (((I (a + 11 + 2 * (tn x)) 5) * e) / (nI (tn (I (a + 11 + 2 * (tn x)) 1)))) (nI 1)) ((a + 11 + 2 * (tn x)) + 1) ((tn (I (a + 11 + 2 * (tn x)) 1)) - (tn e)) (tn (I (a + 11 + 2 * (tn x)) 1)) I) (fun (r1 : Int32 × ow_I) => lt (B_keepFirst (a + 11 + 2 * (tn x)) ((tn (I (a + 11 + 2 * (tn x)) 1)) - (tn e)) r1.2) (fun (I2 : ow_I) => lt (ow_u I2 (a + 11 + 2 * (tn x)) 5 (i_max (I2 (a + 11 + 2 * (tn x)) 5 - (((I (a + 11 + 2 * (tn x)) 5) * e) / (nI (tn (I (a + 11 + 2 * (tn x)) 1))))) (nI 1))) (fun (I3 : ow_I) => (r1.1, I3)))) else ((-1), I)
set_option maxRecDepth 100000 in
set_option maxHeartbeats 400000 in
theorem cK_cut {S : Nat → Option ow_Sh} {I : ow_I} {V : Nat → Nat → Value} {z : Nat} {a : Nat} {x : Int32} {e : Int32} (h_a : mk_S S a) (hV : k_V a I) : ow_Cf yX6_cut cX6_cut 7 (some .int) 4 [.ref a, .int x, .int e] (S, I, V, z) (some (.int ((K_cut a x e I).1))) (S, (K_cut a x e I).2, V, z) := by
  refine ow_Cf.of rfl (Nat.le_of_ble_eq_true rfl) (fun X K E F hk => ?_)
  have E : ow_E X RX6 cX6_cut 7 (ow_rm 4 0 0) := E
  refine or_lv [(0, .ref a), (1, .int x), (2, .int e)] rfl ?_
  dsimp only [K_cut] at hk
  refine or_aload_n E rfl dX6_cut_0 ?_
  refine or_iload_n E rfl dX6_cut_1 ?_
  refine or_iload_n E rfl dX6_cut_2 ?_
  refine or_cV2r (cK_canCut  h_a hV) E lk_6_130 dX6_cut_3 h_a.1 rfl rfl (by decide) (by decide) ⟨Nat.le_refl _, Nat.le_refl _⟩ (Nat.le_of_ble_eq_true rfl) ?_
  refine or_if_neZ 11 E dX6_cut_6 rfl (fun q6 => ?_) (fun q6 => ?_)
  · replace hk := ite_p (P := fun r : Int32 × ow_I => K (some (.int ((r).1))) (S, (r).2, V, z)) q6 hk
    refine or_aload_n E rfl dX6_cut_11 ?_
    refine ot_getC E fl_6_33 dX6_cut_12 h_a.1 rfl ?_
    refine or_iload_n E rfl dX6_cut_15 ?_
    refine or_top (nI_tn (kc_1 hV q6).1).symm ?_
    refine ot_aald (j := tn x) E dX6_cut_16 h_a.2.2.2.1 rfl rfl (by have := (kc_1 hV q6).2.1; have := hV.2.1.2; omega) (Nat.le_of_ble_eq_true rfl) ?_
    refine or_astore_n E dX6_cut_17 (by decide) ?_
    refine or_aload_n E rfl dX6_cut_18 ?_
    refine ot_getI E fl_6_108 dX6_cut_19 (h_a.2.2.2.2.2.2 (tn x) (by have := (kc_1 hV q6).2.1; have := hV.2.1.2; omega)).1 rfl ?_
    refine or_top (nI_tn (hV.2.2.2.2.2.2 (tn x) (by have := (kc_1 hV q6).2.1; have := hV.2.1.2; omega)).1).symm ?_
    refine or_istore E dX6_cut_22 (by decide) ?_
    refine or_aload_n E rfl dX6_cut_24 ?_
    refine ot_getI E fl_6_134 dX6_cut_25 (h_a.2.2.2.2.2.2 (tn x) (by have := (kc_1 hV q6).2.1; have := hV.2.1.2; omega)).1 rfl ?_
    refine or_iload_n E rfl dX6_cut_28 ?_
    refine or_imul E dX6_cut_29 ?_
    refine or_iload E rfl dX6_cut_30 ?_
    refine or_idiv E (by have := (kc_1 hV q6).2.2.2.2; have := (hV.2.2.2.2.2.2 (tn x) (by have := (kc_1 hV q6).2.1; have := hV.2.1.2; omega)).2; rw [nI_z (by omega)]; omega) dX6_cut_32 ?_
    refine or_istore E dX6_cut_33 (by decide) ?_
    refine or_aload_n E rfl dX6_cut_35 ?_
    refine or_iload E rfl dX6_cut_36 ?_
    refine or_iconst (v := nI 1) E rfl dX6_cut_38 ?_
    refine or_mmax E lm_6_137 dX6_cut_39 (Nat.le_of_ble_eq_true rfl) ⟨Nat.le_refl _, Nat.le_refl _⟩ (Nat.le_of_ble_eq_true rfl) ?_
    refine or_aload_n E rfl dX6_cut_42 ?_
    refine ot_getC E fl_6_143 dX6_cut_43 (h_a.2.2.2.2.2.2 (tn x) (by have := (kc_1 hV q6).2.1; have := hV.2.1.2; omega)).1 rfl ?_
    refine or_iload E rfl dX6_cut_46 ?_
    refine or_iload_n E rfl dX6_cut_48 ?_
    refine or_top (nI_tn (kc_1 hV q6).2.2.1).symm ?_
    refine or_isubN E dX6_cut_49 (by have := (kc_1 hV q6).2.2.2.2; omega) ?_
    refine or_iload E rfl dX6_cut_50 ?_
    refine or_cV4r (cK_takeBarrel  h_a (h_a.2.2.2.2.2.2 (tn x) (by have := (kc_1 hV q6).2.1; have := hV.2.1.2; omega)).2 hV (by have := (hV.2.2.2.2.2.2 (tn x) (by have := (kc_1 hV q6).2.1; have := hV.2.1.2; omega)).2; omega) (by have := (hV.2.2.2.2.2.2 (tn x) (by have := (kc_1 hV q6).2.1; have := hV.2.1.2; omega)).2; omega)) E lk_6_146 dX6_cut_52 h_a.1 rfl rfl (by decide) (by decide) ⟨Nat.le_refl _, Nat.le_refl _⟩ (Nat.le_of_ble_eq_true rfl) ?_
    obtain ⟨r1, hr1⟩ : ∃ y_ : Int32 × ow_I, y_ = K_takeBarrel a (i_max (((I (a + 11 + 2 * (tn x)) 5) * e) / (nI (tn (I (a + 11 + 2 * (tn x)) 1)))) (nI 1)) ((a + 11 + 2 * (tn x)) + 1) ((tn (I (a + 11 + 2 * (tn x)) 1)) - (tn e)) (tn (I (a + 11 + 2 * (tn x)) 1)) I := ⟨_, rfl⟩
    replace hk := lt_k (P := fun r : Int32 × ow_I => K (some (.int ((r).1))) (S, (r).2, V, z)) hr1 hk
    refine or_nmJ hr1 ?_
    refine or_istore E dX6_cut_55 (by decide) ?_
    refine or_aload_n E rfl dX6_cut_57 ?_
    refine or_iload E rfl dX6_cut_58 ?_
    refine or_iload_n E rfl dX6_cut_60 ?_
    refine or_top (nI_tn (by subst hr1; exact (kc_1 hV q6).2.2.1)).symm ?_
    refine or_isubN E dX6_cut_61 (by subst hr1; have := (kc_1 hV q6).2.2.2.2; omega) ?_
    refine or_cV1v (cB_keepFirst  (h_a.2.2.2.2.2.2 (tn x) (by have := (kc_1 hV q6).2.1; have := hV.2.1.2; omega)) (by subst hr1; have := (hV.2.2.2.2.2.2 (tn x) (by have := (kc_1 hV q6).2.1; have := hV.2.1.2; omega)).2; omega)) E lk_6_150 dX6_cut_62 (h_a.2.2.2.2.2.2 (tn x) (by have := (kc_1 hV q6).2.1; have := hV.2.1.2; omega)).1 rfl rfl (by decide) (by decide) ⟨Nat.le_refl _, Nat.le_refl _⟩ (Nat.le_of_ble_eq_true rfl) ?_
    obtain ⟨I2, hI2⟩ : ∃ y_ : ow_I, y_ = B_keepFirst (a + 11 + 2 * (tn x)) ((tn (I (a + 11 + 2 * (tn x)) 1)) - (tn e)) r1.2 := ⟨_, rfl⟩
    replace hk := lt_k (P := fun r : Int32 × ow_I => K (some (.int ((r).1))) (S, (r).2, V, z)) hI2 hk
    refine or_nmI hI2 ?_
    refine or_aload_n E rfl dX6_cut_65 ?_
    refine or_aload_n E rfl dX6_cut_66 ?_
    refine ot_getI E fl_6_134 dX6_cut_67 (h_a.2.2.2.2.2.2 (tn x) (by have := (kc_1 hV q6).2.1; have := hV.2.1.2; omega)).1 rfl ?_
    refine or_iload E rfl dX6_cut_70 ?_
    refine or_isub E dX6_cut_72 ?_
    refine or_iconst (v := nI 1) E rfl dX6_cut_73 ?_
    refine or_mmax E lm_6_137 dX6_cut_74 (Nat.le_of_ble_eq_true rfl) ⟨Nat.le_refl _, Nat.le_refl _⟩ (Nat.le_of_ble_eq_true rfl) ?_
    refine ot_putI E fl_6_134 fw_1_5 dX6_cut_77 (h_a.2.2.2.2.2.2 (tn x) (by have := (kc_1 hV q6).2.1; have := hV.2.1.2; omega)).1 rfl ?_
    obtain ⟨I3, hI3⟩ : ∃ y_ : ow_I, y_ = ow_u I2 (a + 11 + 2 * (tn x)) 5 (i_max (I2 (a + 11 + 2 * (tn x)) 5 - (((I (a + 11 + 2 * (tn x)) 5) * e) / (nI (tn (I (a + 11 + 2 * (tn x)) 1))))) (nI 1)) := ⟨_, rfl⟩
    replace hk := lt_k (P := fun r : Int32 × ow_I => K (some (.int ((r).1))) (S, (r).2, V, z)) hI3 hk
    refine or_nmI hI3 ?_
    refine or_iload E rfl dX6_cut_80 ?_
    try dsimp only at hk
    exact or_iret E F dX6_cut_82 (Nat.le_refl _) (Nat.le_refl _) hk
  · replace hk := ite_n (P := fun r : Int32 × ow_I => K (some (.int ((r).1))) (S, (r).2, V, z)) (bz_neg q6) hk
    refine or_iconst (v := -1) E rfl dX6_cut_9 ?_
    try dsimp only at hk
    exact or_iret E F dX6_cut_10 (Nat.le_refl _) (Nat.le_refl _) hk
def K_copyFrom_L108 (a : Nat) (o : Nat) : Nat → ow_I → Nat → ow_I
  | 0, I, _ => I
  | n + 1, I, i => if tn (I a 10) ≤ i then lt (ow_cp I (o + 4) (a + 4) 20) (fun (I10 : ow_I) => lt (ow_u I10 a 12 (I10 o 12)) (fun (I11 : ow_I) => lt (ow_u I11 a 13 (I11 o 13)) (fun (I12 : ow_I) => lt (ow_u I12 a 14 (I12 o 14)) (fun (I13 : ow_I) => lt (ow_u I13 a 15 (I13 o 15)) (fun (I14 : ow_I) => lt (ow_u I14 a 16 (I14 o 16)) (fun (I15 : ow_I) => I15)))))) else lt (B_copyFrom (a + 11 + 2 * i) (o + 11 + 2 * i) I) (fun (I16 : ow_I) => K_copyFrom_L108 a o n I16 (i + 1))
def K_copyFrom_L69 (a : Nat) (o : Nat) : Nat → ow_I → Nat → ow_I
  | 0, I, _ => I
  | n + 1, I, i => if tn (I a 8) ≤ i then lt (ow_u I a 10 (I o 10)) (fun (I9 : ow_I) => K_copyFrom_L108 a o 21 I9 0) else lt (Y_copyFrom (a + 5 + i) (o + 5 + i) I) (fun (I17 : ow_I) => K_copyFrom_L69 a o n I17 (i + 1))
def K_copyFrom (a : Nat) (o : Nat) (I : ow_I) : ow_I :=
  lt (T_copyFrom (a + 1) (o + 1) I) (fun (I1 : ow_I) => lt (ow_u I1 a 1 (I1 o 1)) (fun (I2 : ow_I) => lt (ow_u I2 a 2 (I2 o 2)) (fun (I3 : ow_I) => lt (ow_u I3 a 3 (I3 o 3)) (fun (I4 : ow_I) => lt (ow_u I4 a 4 (I4 o 4)) (fun (I5 : ow_I) => lt (ow_u I5 a 5 (I5 o 5)) (fun (I6 : ow_I) => lt (ow_u I6 a 6 (I6 o 6)) (fun (I7 : ow_I) => lt (ow_u I7 a 8 (I7 o 8)) (fun (I8 : ow_I) => K_copyFrom_L69 a o 7 I8 0))))))))
set_option maxRecDepth 100000 in
set_option maxHeartbeats 400000 in
theorem cK_copyFrom {S : Nat → Option ow_Sh} {I : ow_I} {V : Nat → Nat → Value} {z : Nat} {a : Nat} {o : Nat} (h_a : mk_S S a) (h_o : mk_S S o) (hd : o + 51 ≤ a ∨ a + 51 ≤ o) (g8 : 0 ≤ I o 8) (g8b : tn (I o 8) ≤ 6) (g10 : 0 ≤ I o 10) (g10b : tn (I o 10) ≤ 20) : ow_Cf yX6_copyFrom cX6_copyFrom 3 none 2 [.ref a, .ref o] (S, I, V, z) none (S, K_copyFrom a o I, V, z) := by
  refine ow_Cf.of rfl (Nat.le_of_ble_eq_true rfl) (fun X K E F hk => ?_)
  have E : ow_E X RX6 cX6_copyFrom 3 (ow_rm 2 0 0) := E
  refine or_lv [(0, .ref a), (1, .ref o)] rfl ?_
  have L108 : ∀ (n : Nat) (I : ow_I) (i : Nat) (h10 : 0 ≤ I a 10) (h10b : tn (I a 10) ≤ 20) (hi : i ≤ 20) (hm : 20 - i < n) (hk : K none (S, K_copyFrom_L108 a o n I i, V, z)), ow_W X 0 0 (S, I, V, z) 108 [(0, .ref a), (1, .ref o), (2, .int (nI i))] [] := by
    intro n
    induction n with
    | zero => intro I i h10 h10b hi hm; omega
    | succ n ih =>
      intro I i h10 h10b hi hm hk
      dsimp only [K_copyFrom_L108] at hk
      refine or_iload_n E rfl dX6_copyFrom_108 ?_
      refine or_aload_n E rfl dX6_copyFrom_109 ?_
      refine ot_getI E fl_6_77 dX6_copyFrom_110 h_a.1 rfl ?_
      refine or_top (nI_tn h10).symm ?_
      refine or_icmp_geN 137 E dX6_copyFrom_113 rfl (by omega) (by omega) (fun q113 => ?_) (fun q113 => ?_)
      · replace hk := ite_p (P := fun r : ow_I => K none (S, r, V, z)) q113 hk
        refine or_aload_n E rfl dX6_copyFrom_137 ?_
        refine ot_getC E fl_6_37 dX6_copyFrom_138 h_o.1 rfl ?_
        refine or_iconst (v := nI 0) E rfl dX6_copyFrom_141 ?_
        refine or_aload_n E rfl dX6_copyFrom_142 ?_
        refine ot_getC E fl_6_37 dX6_copyFrom_143 h_a.1 rfl ?_
        refine or_iconst (v := nI 0) E rfl dX6_copyFrom_146 ?_
        refine or_bipush (v := nI 20) E rfl dX6_copyFrom_147 ?_
        refine or_acopy (n := 20) E lc_6_83 dX6_copyFrom_149 h_o.2.2.2.2.1 h_a.2.2.2.2.1 (fun _ _ => rfl) (fun _ _ => rfl) (by decide) (by decide) ⟨Nat.le_of_ble_eq_true rfl, Nat.le_of_ble_eq_true rfl⟩ (by decide) ?_
        obtain ⟨I10, hI10⟩ : ∃ y_ : ow_I, y_ = ow_cp I (o + 4) (a + 4) 20 := ⟨_, rfl⟩
        replace hk := lt_k (P := fun r : ow_I => K none (S, r, V, z)) hI10 hk
        refine or_nmI hI10 ?_
        refine or_aload_n E rfl dX6_copyFrom_152 ?_
        refine or_aload_n E rfl dX6_copyFrom_153 ?_
        refine ot_getI E fl_6_89 dX6_copyFrom_154 h_o.1 rfl ?_
        refine ot_putI E fl_6_89 fw_6_12 dX6_copyFrom_157 h_a.1 rfl ?_
        obtain ⟨I11, hI11⟩ : ∃ y_ : ow_I, y_ = ow_u I10 a 12 (I10 o 12) := ⟨_, rfl⟩
        replace hk := lt_k (P := fun r : ow_I => K none (S, r, V, z)) hI11 hk
        refine or_nmI hI11 ?_
        refine or_aload_n E rfl dX6_copyFrom_160 ?_
        refine or_aload_n E rfl dX6_copyFrom_161 ?_
        refine ot_getI E fl_6_41 dX6_copyFrom_162 h_o.1 rfl ?_
        refine ot_putI E fl_6_41 fw_6_13 dX6_copyFrom_165 h_a.1 rfl ?_
        obtain ⟨I12, hI12⟩ : ∃ y_ : ow_I, y_ = ow_u I11 a 13 (I11 o 13) := ⟨_, rfl⟩
        replace hk := lt_k (P := fun r : ow_I => K none (S, r, V, z)) hI12 hk
        refine or_nmI hI12 ?_
        refine or_aload_n E rfl dX6_copyFrom_168 ?_
        refine or_aload_n E rfl dX6_copyFrom_169 ?_
        refine ot_getI E fl_6_44 dX6_copyFrom_170 h_o.1 rfl ?_
        refine ot_putI E fl_6_44 fw_6_14 dX6_copyFrom_173 h_a.1 rfl ?_
        obtain ⟨I13, hI13⟩ : ∃ y_ : ow_I, y_ = ow_u I12 a 14 (I12 o 14) := ⟨_, rfl⟩
        replace hk := lt_k (P := fun r : ow_I => K none (S, r, V, z)) hI13 hk
        refine or_nmI hI13 ?_
        refine or_aload_n E rfl dX6_copyFrom_176 ?_
        refine or_aload_n E rfl dX6_copyFrom_177 ?_
        refine ot_getI E fl_6_47 dX6_copyFrom_178 h_o.1 rfl ?_
        refine ot_putI E fl_6_47 fw_6_15 dX6_copyFrom_181 h_a.1 rfl ?_
        obtain ⟨I14, hI14⟩ : ∃ y_ : ow_I, y_ = ow_u I13 a 15 (I13 o 15) := ⟨_, rfl⟩
        replace hk := lt_k (P := fun r : ow_I => K none (S, r, V, z)) hI14 hk
        refine or_nmI hI14 ?_
        refine or_aload_n E rfl dX6_copyFrom_184 ?_
        refine or_aload_n E rfl dX6_copyFrom_185 ?_
        refine ot_getI E fl_6_50 dX6_copyFrom_186 h_o.1 rfl ?_
        refine ot_putI E fl_6_50 fw_6_16 dX6_copyFrom_189 h_a.1 rfl ?_
        obtain ⟨I15, hI15⟩ : ∃ y_ : ow_I, y_ = ow_u I14 a 16 (I14 o 16) := ⟨_, rfl⟩
        replace hk := lt_k (P := fun r : ow_I => K none (S, r, V, z)) hI15 hk
        refine or_nmI hI15 ?_
        exact or_vret E F dX6_copyFrom_192 (Nat.le_refl _) (Nat.le_refl _) hk
      · replace hk := ite_n (P := fun r : ow_I => K none (S, r, V, z)) q113 hk
        refine or_aload_n E rfl dX6_copyFrom_116 ?_
        refine ot_getC E fl_6_33 dX6_copyFrom_117 h_a.1 rfl ?_
        refine or_iload_n E rfl dX6_copyFrom_120 ?_
        refine ot_aald (j := i) E dX6_copyFrom_121 h_a.2.2.2.1 rfl rfl (by omega) (Nat.le_of_ble_eq_true rfl) ?_
        refine or_aload_n E rfl dX6_copyFrom_122 ?_
        refine ot_getC E fl_6_33 dX6_copyFrom_123 h_o.1 rfl ?_
        refine or_iload_n E rfl dX6_copyFrom_126 ?_
        refine ot_aald (j := i) E dX6_copyFrom_127 h_o.2.2.2.1 rfl rfl (by omega) (Nat.le_of_ble_eq_true rfl) ?_
        refine or_cV1v (cB_copyFrom  (h_a.2.2.2.2.2.2 i (by omega)) (h_o.2.2.2.2.2.2 i (by omega)) ) E lk_6_80 dX6_copyFrom_128 (h_a.2.2.2.2.2.2 i (by omega)).1 rfl rfl (by decide) (by decide) ⟨Nat.le_refl _, Nat.le_refl _⟩ (Nat.le_of_ble_eq_true rfl) ?_
        obtain ⟨I16, hI16⟩ : ∃ y_ : ow_I, y_ = B_copyFrom (a + 11 + 2 * i) (o + 11 + 2 * i) I := ⟨_, rfl⟩
        replace hk := lt_k (P := fun r : ow_I => K none (S, r, V, z)) hI16 hk
        refine or_nmI hI16 ?_
        refine or_iincN (c := 1) E dX6_copyFrom_131 rfl rfl (by decide) ?_
        refine or_goto 108 E dX6_copyFrom_134 rfl ?_
        refine or_lv _ ?_ (ih _ _ (by subst hI16; rw [rr_bcp (by omega) (by omega)]; exact h10) (by subst hI16; rw [rr_bcp (by omega) (by omega)]; exact h10b) (by subst hI16; omega) (by omega) hk)
        rfl
  have L69 : ∀ (n : Nat) (I : ow_I) (i : Nat) (h8 : 0 ≤ I a 8) (h8b : tn (I a 8) ≤ 6) (g10 : 0 ≤ I o 10) (g10b : tn (I o 10) ≤ 20) (hi : i ≤ 6) (hm : 6 - i < n) (hk : K none (S, K_copyFrom_L69 a o n I i, V, z)), ow_W X 0 0 (S, I, V, z) 69 [(0, .ref a), (1, .ref o), (2, .int (nI i))] [] := by
    intro n
    induction n with
    | zero => intro I i h8 h8b g10 g10b hi hm; omega
    | succ n ih =>
      intro I i h8 h8b g10 g10b hi hm hk
      dsimp only [K_copyFrom_L69] at hk
      refine or_iload_n E rfl dX6_copyFrom_69 ?_
      refine or_aload_n E rfl dX6_copyFrom_70 ?_
      refine ot_getI E fl_6_71 dX6_copyFrom_71 h_a.1 rfl ?_
      refine or_top (nI_tn h8).symm ?_
      refine or_icmp_geN 98 E dX6_copyFrom_74 rfl (by omega) (by omega) (fun q74 => ?_) (fun q74 => ?_)
      · replace hk := ite_p (P := fun r : ow_I => K none (S, r, V, z)) q74 hk
        refine or_aload_n E rfl dX6_copyFrom_98 ?_
        refine or_aload_n E rfl dX6_copyFrom_99 ?_
        refine ot_getI E fl_6_77 dX6_copyFrom_100 h_o.1 rfl ?_
        refine ot_putI E fl_6_77 fw_6_10 dX6_copyFrom_103 h_a.1 rfl ?_
        obtain ⟨I9, hI9⟩ : ∃ y_ : ow_I, y_ = ow_u I a 10 (I o 10) := ⟨_, rfl⟩
        replace hk := lt_k (P := fun r : ow_I => K none (S, r, V, z)) hI9 hk
        refine or_nmI hI9 ?_
        refine or_iconst (v := nI 0) E rfl dX6_copyFrom_106 ?_
        refine or_istore_n E dX6_copyFrom_107 (by decide) ?_
        refine or_lv _ ?_ (L108 21 _ _ (by subst hI9; rw [ow_u_s]; exact g10) (by subst hI9; rw [ow_u_s]; exact g10b) (by decide) (by decide) hk)
        rfl
      · replace hk := ite_n (P := fun r : ow_I => K none (S, r, V, z)) q74 hk
        refine or_aload_n E rfl dX6_copyFrom_77 ?_
        refine ot_getC E fl_6_27 dX6_copyFrom_78 h_a.1 rfl ?_
        refine or_iload_n E rfl dX6_copyFrom_81 ?_
        refine ot_aald (j := i) E dX6_copyFrom_82 h_a.2.2.1 rfl rfl (by omega) (Nat.le_of_ble_eq_true rfl) ?_
        refine or_aload_n E rfl dX6_copyFrom_83 ?_
        refine ot_getC E fl_6_27 dX6_copyFrom_84 h_o.1 rfl ?_
        refine or_iload_n E rfl dX6_copyFrom_87 ?_
        refine ot_aald (j := i) E dX6_copyFrom_88 h_o.2.2.1 rfl rfl (by omega) (Nat.le_of_ble_eq_true rfl) ?_
        refine or_cV1v (cY_copyFrom  (h_a.2.2.2.2.2.1 i (by omega)) (h_o.2.2.2.2.2.1 i (by omega)) ) E lk_6_74 dX6_copyFrom_89 (h_a.2.2.2.2.2.1 i (by omega)) rfl rfl (by decide) (by decide) ⟨Nat.le_refl _, Nat.le_refl _⟩ (Nat.le_of_ble_eq_true rfl) ?_
        obtain ⟨I17, hI17⟩ : ∃ y_ : ow_I, y_ = Y_copyFrom (a + 5 + i) (o + 5 + i) I := ⟨_, rfl⟩
        replace hk := lt_k (P := fun r : ow_I => K none (S, r, V, z)) hI17 hk
        refine or_nmI hI17 ?_
        refine or_iincN (c := 1) E dX6_copyFrom_92 rfl rfl (by decide) ?_
        refine or_goto 69 E dX6_copyFrom_95 rfl ?_
        refine or_lv _ ?_ (ih _ _ (by subst hI17; rw [rr_ycp (by omega)]; exact h8) (by subst hI17; rw [rr_ycp (by omega)]; exact h8b) (by subst hI17; rw [rr_ycp (by omega)]; exact g10) (by subst hI17; rw [rr_ycp (by omega)]; exact g10b) (by subst hI17; omega) (by omega) hk)
        rfl
  dsimp only [K_copyFrom] at hk
  refine or_aload_n E rfl dX6_copyFrom_0 ?_
  refine ot_getC E fl_6_12 dX6_copyFrom_1 h_a.1 rfl ?_
  refine or_aload_n E rfl dX6_copyFrom_4 ?_
  refine ot_getC E fl_6_12 dX6_copyFrom_5 h_o.1 rfl ?_
  refine or_cV1v (cT_copyFrom  h_a.2.1 h_o.2.1 ) E lk_6_55 dX6_copyFrom_8 h_a.2.1 rfl rfl (by decide) (by decide) ⟨Nat.le_refl _, Nat.le_refl _⟩ (Nat.le_of_ble_eq_true rfl) ?_
  obtain ⟨I1, hI1⟩ : ∃ y_ : ow_I, y_ = T_copyFrom (a + 1) (o + 1) I := ⟨_, rfl⟩
  replace hk := lt_k (P := fun r : ow_I => K none (S, r, V, z)) hI1 hk
  refine or_nmI hI1 ?_
  refine or_aload_n E rfl dX6_copyFrom_11 ?_
  refine or_aload_n E rfl dX6_copyFrom_12 ?_
  refine ot_getI E fl_6_18 dX6_copyFrom_13 h_o.1 rfl ?_
  refine ot_putI E fl_6_18 fw_6_1 dX6_copyFrom_16 h_a.1 rfl ?_
  obtain ⟨I2, hI2⟩ : ∃ y_ : ow_I, y_ = ow_u I1 a 1 (I1 o 1) := ⟨_, rfl⟩
  replace hk := lt_k (P := fun r : ow_I => K none (S, r, V, z)) hI2 hk
  refine or_nmI hI2 ?_
  refine or_aload_n E rfl dX6_copyFrom_19 ?_
  refine or_aload_n E rfl dX6_copyFrom_20 ?_
  refine ot_getI E fl_6_22 dX6_copyFrom_21 h_o.1 rfl ?_
  refine ot_putI E fl_6_22 fw_6_2 dX6_copyFrom_24 h_a.1 rfl ?_
  obtain ⟨I3, hI3⟩ : ∃ y_ : ow_I, y_ = ow_u I2 a 2 (I2 o 2) := ⟨_, rfl⟩
  replace hk := lt_k (P := fun r : ow_I => K none (S, r, V, z)) hI3 hk
  refine or_nmI hI3 ?_
  refine or_aload_n E rfl dX6_copyFrom_27 ?_
  refine or_aload_n E rfl dX6_copyFrom_28 ?_
  refine ot_getI E fl_6_59 dX6_copyFrom_29 h_o.1 rfl ?_
  refine ot_putI E fl_6_59 fw_6_3 dX6_copyFrom_32 h_a.1 rfl ?_
  obtain ⟨I4, hI4⟩ : ∃ y_ : ow_I, y_ = ow_u I3 a 3 (I3 o 3) := ⟨_, rfl⟩
  replace hk := lt_k (P := fun r : ow_I => K none (S, r, V, z)) hI4 hk
  refine or_nmI hI4 ?_
  refine or_aload_n E rfl dX6_copyFrom_35 ?_
  refine or_aload_n E rfl dX6_copyFrom_36 ?_
  refine ot_getI E fl_6_62 dX6_copyFrom_37 h_o.1 rfl ?_
  refine ot_putI E fl_6_62 fw_6_4 dX6_copyFrom_40 h_a.1 rfl ?_
  obtain ⟨I5, hI5⟩ : ∃ y_ : ow_I, y_ = ow_u I4 a 4 (I4 o 4) := ⟨_, rfl⟩
  replace hk := lt_k (P := fun r : ow_I => K none (S, r, V, z)) hI5 hk
  refine or_nmI hI5 ?_
  refine or_aload_n E rfl dX6_copyFrom_43 ?_
  refine or_aload_n E rfl dX6_copyFrom_44 ?_
  refine ot_getI E fl_6_65 dX6_copyFrom_45 h_o.1 rfl ?_
  refine ot_putI E fl_6_65 fw_6_5 dX6_copyFrom_48 h_a.1 rfl ?_
  obtain ⟨I6, hI6⟩ : ∃ y_ : ow_I, y_ = ow_u I5 a 5 (I5 o 5) := ⟨_, rfl⟩
  replace hk := lt_k (P := fun r : ow_I => K none (S, r, V, z)) hI6 hk
  refine or_nmI hI6 ?_
  refine or_aload_n E rfl dX6_copyFrom_51 ?_
  refine or_aload_n E rfl dX6_copyFrom_52 ?_
  refine ot_getI E fl_6_68 dX6_copyFrom_53 h_o.1 rfl ?_
  refine ot_putI E fl_6_68 fw_6_6 dX6_copyFrom_56 h_a.1 rfl ?_
  obtain ⟨I7, hI7⟩ : ∃ y_ : ow_I, y_ = ow_u I6 a 6 (I6 o 6) := ⟨_, rfl⟩
  replace hk := lt_k (P := fun r : ow_I => K none (S, r, V, z)) hI7 hk
  refine or_nmI hI7 ?_
  refine or_aload_n E rfl dX6_copyFrom_59 ?_
  refine or_aload_n E rfl dX6_copyFrom_60 ?_
  refine ot_getI E fl_6_71 dX6_copyFrom_61 h_o.1 rfl ?_
  refine ot_putI E fl_6_71 fw_6_8 dX6_copyFrom_64 h_a.1 rfl ?_
  obtain ⟨I8, hI8⟩ : ∃ y_ : ow_I, y_ = ow_u I7 a 8 (I7 o 8) := ⟨_, rfl⟩
  replace hk := lt_k (P := fun r : ow_I => K none (S, r, V, z)) hI8 hk
  refine or_nmI hI8 ?_
  refine or_iconst (v := nI 0) E rfl dX6_copyFrom_67 ?_
  refine or_istore_n E dX6_copyFrom_68 (by decide) ?_
  refine or_lv _ ?_ (L69 7 _ _ (by subst hI8 hI7 hI6 hI5 hI4 hI3 hI2 hI1; simp (disch := omega) only [ow_u_s, rr_u, rr_tcp]; exact g8) (by subst hI8 hI7 hI6 hI5 hI4 hI3 hI2 hI1; simp (disch := omega) only [ow_u_s, rr_u, rr_tcp]; exact g8b) (by subst hI8 hI7 hI6 hI5 hI4 hI3 hI2 hI1; simp (disch := omega) only [ow_u_s, rr_u, rr_tcp]; exact g10) (by subst hI8 hI7 hI6 hI5 hI4 hI3 hI2 hI1; simp (disch := omega) only [ow_u_s, rr_u, rr_tcp]; exact g10b) (by decide) (by decide) hk)
  rfl
end
section
def in_k (u : Nat) : Nat → Option (Option Value) := fun k => match k with
  | 0 => some (some (.ref (u + 1)))
  | _ => none
def in_S (S : Nat → Option ow_Sh) (u : Nat) : Prop := S u = some (.inl (5, in_k u)) ∧ S (u + 1) = some (.inr (.int, 500, ow_n))
def hs_k (h : Nat) : Nat → Option (Option Value) := fun k => match k with
  | 0 => some (some (.ref (h + 1)))
  | _ => none
def hs_m (h : Nat) : Nat → Option (Option Value) := fun j => some (some (.ref (h + 2 + 51 * j)))
def hs_S (S : Nat → Option ow_Sh) (h : Nat) : Prop := S h = some (.inl (4, hs_k h)) ∧ S (h + 1) = some (.inr (.object "LowWaterAuction$Market", 8, hs_m h)) ∧ ∀ i, i < 8 → mk_S S (h + 2 + 51 * i)
def k_it (a : Nat) : Nat → ow_I → ow_I
  | 0, I => I
  | n + 1, I => k_it a n (K_passOneMinute a I).2
theorem rr_kcL1 {a o b : Nat} (h : b < a ∨ a + 51 ≤ b) (hd : o + 51 ≤ a ∨ a + 51 ≤ o) : ∀ (n : Nat) (I : ow_I) (i : Nat), tn (I a 8) ≤ 6 → tn (I o 10) ≤ 20 → K_copyFrom_L69 a o n I i b = I b := by
  have key : ∀ (n : Nat) (I : ow_I) (i : Nat), tn (I a 10) ≤ 20 → K_copyFrom_L108 a o n I i b = I b := by
    intro n
    induction n with
    | zero => intro I i _; rfl
    | succ n ih =>
      intro I i h10
      simp only [K_copyFrom_L108, lt_eq]
      split
      · simp (disch := omega) only [rr_u, ow_cp_a]
      · rw [ih _ _ (by rw [rr_bcp (by omega) (by omega)]; exact h10), rr_bcp (by omega) (by omega)]
  intro n
  induction n with
  | zero => intro I i _ _; rfl
  | succ n ih =>
    intro I i h8 h10
    simp only [K_copyFrom_L69, lt_eq]
    split
    · rw [key _ _ _ (by rw [ow_u_s]; exact h10), rr_u (by omega)]
    · rw [ih _ _ (by rw [rr_ycp (by omega)]; exact h8) (by rw [rr_ycp (by omega)]; exact h10), rr_ycp (by omega)]
theorem rr_kcp {a o b : Nat} {I : ow_I} (h : b < a ∨ a + 51 ≤ b) (hd : o + 51 ≤ a ∨ a + 51 ≤ o) (h8 : tn (I o 8) ≤ 6) (h10 : tn (I o 10) ≤ 20) : K_copyFrom a o I b = I b := by
  simp only [K_copyFrom, lt_eq]
  rw [rr_kcL1 h hd _ _ _ (by simp (disch := omega) only [ow_u_s, rr_u, rr_tcp]; exact h8) (by simp (disch := omega) only [ow_u_s, rr_u, rr_tcp]; exact h10)]
  simp (disch := omega) only [rr_u, rr_tcp]
theorem lm_4_29 : ow_lm RX4 29 Lib.Math.min.name Lib.Math.min.code := ⟨ow_T_in 893 (by decide +kernel) (by decide +kernel), ow_T_in 437 (by decide +kernel) (by decide +kernel), ow_T_in 18 (by decide +kernel) (by decide +kernel), ow_T_in 438 (by decide +kernel) (by decide +kernel)⟩
theorem fl_4_11 : ow_fl RX4 11 4 0 := ⟨_, rfl, by decide, ow_T_in 234 (by decide +kernel) (by decide +kernel), ow_ok4⟩
theorem fl_4_18 : ow_fl RX4 18 4 1 := ⟨_, rfl, by decide, ow_T_in 235 (by decide +kernel) (by decide +kernel), ow_ok4⟩
theorem fl_4_26 : ow_fl RX4 26 4 2 := ⟨_, rfl, by decide, ow_T_in 236 (by decide +kernel) (by decide +kernel), ow_ok4⟩
theorem fl_5_9 : ow_fl RX5 9 5 0 := ⟨_, rfl, by decide, ow_T_in 256 (by decide +kernel) (by decide +kernel), ow_ok5⟩
theorem fl_5_39 : ow_fl RX5 39 5 1 := ⟨_, rfl, by decide, ow_T_in 258 (by decide +kernel) (by decide +kernel), ow_ok5⟩
theorem fw_4_1 : ∃ r : vw_C, ow_cl[4]? = some r ∧ (r.2.1 1).2.2.2 = false ∧ parseFieldDescriptor (r.2.1 1).2.2.1 = some .int := ⟨_, rfl, rfl, by decide +kernel⟩
theorem fw_4_2 : ∃ r : vw_C, ow_cl[4]? = some r ∧ (r.2.1 2).2.2.2 = false ∧ parseFieldDescriptor (r.2.1 2).2.2.1 = some .int := ⟨_, rfl, rfl, by decide +kernel⟩
theorem fw_5_1 : ∃ r : vw_C, ow_cl[5]? = some r ∧ (r.2.1 1).2.2.2 = false ∧ parseFieldDescriptor (r.2.1 1).2.2.1 = some .int := ⟨_, rfl, rfl, by decide +kernel⟩
theorem lk_4_22 : ow_lv RX4 22 yX6_copyFrom cX6_copyFrom 3 none 1 := ⟨ow_T_in 875 (by decide +kernel) (by decide +kernel), ow_T_in 876 (by decide +kernel) (by decide +kernel), ow_T_in 877 (by decide +kernel) (by decide +kernel), ow_T_in 2 (by decide +kernel) (by decide +kernel), ow_T_in 878 (by decide +kernel) (by decide +kernel), ⟨by decide +kernel, by decide +kernel, by decide +kernel⟩⟩
theorem lk_6_187 : ow_lv RX6 187 yX6_isIdle cX6_isIdle 1 (some .boolean) 0 := ⟨ow_T_in 1188 (by decide +kernel) (by decide +kernel), ow_T_in 1190 (by decide +kernel) (by decide +kernel), ow_T_sel 23 (by decide +kernel) (by decide +kernel), ow_T_in 2 (by decide +kernel) (by decide +kernel), ow_T_in 1191 (by decide +kernel) (by decide +kernel), ⟨by decide +kernel, by decide +kernel, by decide +kernel⟩⟩
theorem lk_6_190 : ow_lv RX6 190 yX6_passOneMinute cX6_passOneMinute 2 (some .boolean) 0 := ⟨ow_T_in 1192 (by decide +kernel) (by decide +kernel), ow_T_in 1194 (by decide +kernel) (by decide +kernel), ow_T_sel 24 (by decide +kernel) (by decide +kernel), ow_T_in 2 (by decide +kernel) (by decide +kernel), ow_T_in 1195 (by decide +kernel) (by decide +kernel), ⟨by decide +kernel, by decide +kernel, by decide +kernel⟩⟩
def K_letPass_L4 (a : Nat) (n2 : Nat) : Nat → ow_I → Nat → Nat → Int32 × ow_I
  | 0, I, _, _ => (default, I)
  | n + 1, I, c, i => if n2 ≤ i then (nI c, I) else if K_isIdle a I then lt (ow_u I (a + 1) 2 (I (a + 1) 2 + (nI (n2 - i)))) (fun (I2 : ow_I) => (nI c, I2)) else lt (K_passOneMinute a I) (fun (r1 : Bool × ow_I) => if r1.1 then K_letPass_L4 a n2 n r1.2 (c + 1) (i + 1) else K_letPass_L4 a n2 n r1.2 c (i + 1))
def K_letPass (a : Nat) (n2 : Nat) (I : ow_I) : Int32 × ow_I :=
  K_letPass_L4 a n2 (n2 + 1) I 0 0
set_option maxRecDepth 100000 in
set_option maxHeartbeats 400000 in
theorem cK_letPass {S : Nat → Option ow_Sh} {I : ow_I} {V : Nat → Nat → Value} {z : Nat} {a : Nat} {n2 : Nat} (h_a : mk_S S a) (hn : n2 < 2 ^ 31) (hL : ∀ n, k_V a (k_it a n I)) : ow_Cf yX6_letPass cX6_letPass 4 (some .int) 4 [.ref a, .int (nI n2)] (S, I, V, z) (some (.int ((K_letPass a n2 I).1))) (S, (K_letPass a n2 I).2, V, z) := by
  refine ow_Cf.of rfl (Nat.le_of_ble_eq_true rfl) (fun X K E F hk => ?_)
  have E : ow_E X RX6 cX6_letPass 4 (ow_rm 4 0 0) := E
  refine or_lv [(0, .ref a), (1, .int (nI n2))] rfl ?_
  have L4 : ∀ (n : Nat) (I : ow_I) (c : Nat) (i : Nat) (hL : ∀ n, k_V a (k_it a n I)) (hi : i ≤ n2) (hm : n2 - i < n) (hk : K (some (.int ((K_letPass_L4 a n2 n I c i).1))) (S, (K_letPass_L4 a n2 n I c i).2, V, z)), ow_W X 0 0 (S, I, V, z) 4 [(0, .ref a), (1, .int (nI n2)), (2, .int (nI c)), (3, .int (nI i))] [] := by
    intro n
    induction n with
    | zero => intro I c i hL hi hm; omega
    | succ n ih =>
      intro I c i hL hi hm hk
      dsimp only [K_letPass_L4] at hk
      refine or_iload_n E rfl dX6_letPass_4 ?_
      refine or_iload_n E rfl dX6_letPass_5 ?_
      refine or_icmp_geN 49 E dX6_letPass_6 rfl (by omega) (by omega) (fun q6 => ?_) (fun q6 => ?_)
      · replace hk := ite_p (P := fun r : Int32 × ow_I => K (some (.int ((r).1))) (S, (r).2, V, z)) q6 hk
        refine or_iload_n E rfl dX6_letPass_49 ?_
        try dsimp only at hk
        exact or_iret E F dX6_letPass_50 (Nat.le_refl _) (Nat.le_refl _) hk
      · replace hk := ite_n (P := fun r : Int32 × ow_I => K (some (.int ((r).1))) (S, (r).2, V, z)) q6 hk
        refine or_aload_n E rfl dX6_letPass_9 ?_
        refine or_cV0r (cK_isIdle  h_a ) E lk_6_187 dX6_letPass_10 h_a.1 rfl rfl (by decide) (by decide) ⟨Nat.le_refl _, Nat.le_refl _⟩ (Nat.le_of_ble_eq_true rfl) ?_
        refine or_if_eqZ 33 E dX6_letPass_13 rfl (fun q13 => ?_) (fun q13 => ?_)
        · replace hk := ite_n (P := fun r : Int32 × ow_I => K (some (.int ((r).1))) (S, (r).2, V, z)) (bz_neg q13) hk
          refine or_aload_n E rfl dX6_letPass_33 ?_
          refine or_cV0r (cK_passOneMinute  h_a (hL 0)) E lk_6_190 dX6_letPass_34 h_a.1 rfl rfl (by decide) (by decide) ⟨Nat.le_refl _, Nat.le_refl _⟩ (Nat.le_of_ble_eq_true rfl) ?_
          obtain ⟨r1, hr1⟩ : ∃ y_ : Bool × ow_I, y_ = K_passOneMinute a I := ⟨_, rfl⟩
          replace hk := lt_k (P := fun r : Int32 × ow_I => K (some (.int ((r).1))) (S, (r).2, V, z)) hr1 hk
          refine or_nmZ hr1 ?_
          refine or_if_eqZ 43 E dX6_letPass_37 rfl (fun q37 => ?_) (fun q37 => ?_)
          · replace hk := ite_n (P := fun r : Int32 × ow_I => K (some (.int ((r).1))) (S, (r).2, V, z)) (bz_neg q37) hk
            refine or_iincN (c := 1) E dX6_letPass_43 rfl rfl (by decide) ?_
            refine or_goto 4 E dX6_letPass_46 rfl ?_
            refine or_lv _ ?_ (ih _ _ _ (by subst hr1; exact (fun n => hL (n + 1))) (by omega) (by omega) hk)
            rfl
          · replace hk := ite_p (P := fun r : Int32 × ow_I => K (some (.int ((r).1))) (S, (r).2, V, z)) q37 hk
            refine or_iincN (c := 1) E dX6_letPass_40 rfl rfl (by decide) ?_
            refine or_iincN (c := 1) E dX6_letPass_43 rfl rfl (by decide) ?_
            refine or_goto 4 E dX6_letPass_46 rfl ?_
            refine or_lv _ ?_ (ih _ _ _ (by subst hr1; exact (fun n => hL (n + 1))) (by omega) (by omega) hk)
            rfl
        · replace hk := ite_p (P := fun r : Int32 × ow_I => K (some (.int ((r).1))) (S, (r).2, V, z)) q13 hk
          refine or_aload_n E rfl dX6_letPass_16 ?_
          refine ot_getC E fl_6_12 dX6_letPass_17 h_a.1 rfl ?_
          refine or_dup E rfl dX6_letPass_20 ?_
          refine ot_getI E fl_6_92 dX6_letPass_21 h_a.2.1 rfl ?_
          refine or_iload_n E rfl dX6_letPass_24 ?_
          refine or_iload_n E rfl dX6_letPass_25 ?_
          refine or_isubN E dX6_letPass_26 (by omega) ?_
          refine or_iadd E dX6_letPass_27 ?_
          refine ot_putI E fl_6_92 fw_8_2 dX6_letPass_28 h_a.2.1 rfl ?_
          obtain ⟨I2, hI2⟩ : ∃ y_ : ow_I, y_ = ow_u I (a + 1) 2 (I (a + 1) 2 + (nI (n2 - i))) := ⟨_, rfl⟩
          replace hk := lt_k (P := fun r : Int32 × ow_I => K (some (.int ((r).1))) (S, (r).2, V, z)) hI2 hk
          refine or_nmI hI2 ?_
          refine or_iload_n E rfl dX6_letPass_31 ?_
          try dsimp only at hk
          exact or_iret E F dX6_letPass_32 (Nat.le_refl _) (Nat.le_refl _) hk
  dsimp only [K_letPass] at hk
  refine or_iconst (v := nI 0) E rfl dX6_letPass_0 ?_
  refine or_istore_n E dX6_letPass_1 (by decide) ?_
  refine or_iconst (v := nI 0) E rfl dX6_letPass_2 ?_
  refine or_istore_n E dX6_letPass_3 (by decide) ?_
  refine or_lv _ ?_ (L4 (n2 + 1) _ _ _ hL (by omega) (by omega) hk)
  rfl
def H_remember (h : Nat) (a : Nat) (I : ow_I) : ow_I :=
  lt (K_copyFrom (h + 2 + 51 * (tn (I h 1))) a I) (fun (I1 : ow_I) => lt (ow_u I1 h 1 (nI ((tn (I h 1) + 1) % 8))) (fun (I2 : ow_I) => lt (ow_u I2 h 2 (i_min (I2 h 2 + (nI 1)) (nI 8))) (fun (I3 : ow_I) => I3)))
set_option maxRecDepth 100000 in
set_option maxHeartbeats 400000 in
theorem cH_remember {S : Nat → Option ow_Sh} {I : ow_I} {V : Nat → Nat → Value} {z : Nat} {h : Nat} {a : Nat} (h_h : hs_S S h) (h_a : mk_S S a) (hd : a + 51 ≤ h ∨ h + 410 ≤ a) (hn : 0 ≤ I h 1) (hnb : tn (I h 1) < 8) (g8 : 0 ≤ I a 8) (g8b : tn (I a 8) ≤ 6) (g10 : 0 ≤ I a 10) (g10b : tn (I a 10) ≤ 20) : ow_Cf yX4_remember cX4_remember 2 none 3 [.ref h, .ref a] (S, I, V, z) none (S, H_remember h a I, V, z) := by
  refine ow_Cf.of rfl (Nat.le_of_ble_eq_true rfl) (fun X K E F hk => ?_)
  have E : ow_E X RX4 cX4_remember 2 (ow_rm 3 0 0) := E
  refine or_lv [(0, .ref h), (1, .ref a)] rfl ?_
  dsimp only [H_remember] at hk
  refine or_aload_n E rfl dX4_remember_0 ?_
  refine ot_getC E fl_4_11 dX4_remember_1 h_h.1 rfl ?_
  refine or_aload_n E rfl dX4_remember_4 ?_
  refine ot_getI E fl_4_18 dX4_remember_5 h_h.1 rfl ?_
  refine or_top (nI_tn hn).symm ?_
  refine ot_aald (j := tn (I h 1)) E dX4_remember_8 h_h.2.1 rfl rfl (by omega) (Nat.le_of_ble_eq_true rfl) ?_
  refine or_aload_n E rfl dX4_remember_9 ?_
  refine or_cV1v (cK_copyFrom  (h_h.2.2 (tn (I h 1)) (by omega)) h_a (by omega) g8 g8b g10 g10b) E lk_4_22 dX4_remember_10 (h_h.2.2 (tn (I h 1)) (by omega)).1 rfl rfl (by decide) (by decide) ⟨Nat.le_refl _, Nat.le_refl _⟩ (Nat.le_of_ble_eq_true rfl) ?_
  obtain ⟨I1, hI1⟩ : ∃ y_ : ow_I, y_ = K_copyFrom (h + 2 + 51 * (tn (I h 1))) a I := ⟨_, rfl⟩
  replace hk := lt_k (P := fun r : ow_I => K none (S, r, V, z)) hI1 hk
  refine or_nmI hI1 ?_
  refine or_aload_n E rfl dX4_remember_13 ?_
  refine or_aload_n E rfl dX4_remember_14 ?_
  refine ot_getI E fl_4_18 dX4_remember_15 h_h.1 rfl ?_
  refine or_top (y := nI (tn (I h 1))) (by subst hI1; rw [(rr_kcp (by omega) (by omega) g8b g10b), nI_tn hn]) ?_
  refine or_iconst (v := nI 1) E rfl dX4_remember_18 ?_
  refine or_iaddN E dX4_remember_19 ?_
  refine or_bipush (v := nI 8) E rfl dX4_remember_20 ?_
  refine or_iremN E dX4_remember_22 (by omega) (by omega) (by omega) ?_
  refine ot_putI E fl_4_18 fw_4_1 dX4_remember_23 h_h.1 rfl ?_
  obtain ⟨I2, hI2⟩ : ∃ y_ : ow_I, y_ = ow_u I1 h 1 (nI ((tn (I h 1) + 1) % 8)) := ⟨_, rfl⟩
  replace hk := lt_k (P := fun r : ow_I => K none (S, r, V, z)) hI2 hk
  refine or_nmI hI2 ?_
  refine or_aload_n E rfl dX4_remember_26 ?_
  refine or_aload_n E rfl dX4_remember_27 ?_
  refine ot_getI E fl_4_26 dX4_remember_28 h_h.1 rfl ?_
  refine or_iconst (v := nI 1) E rfl dX4_remember_31 ?_
  refine or_iadd E dX4_remember_32 ?_
  refine or_bipush (v := nI 8) E rfl dX4_remember_33 ?_
  refine or_mmin E lm_4_29 dX4_remember_35 (Nat.le_of_ble_eq_true rfl) ⟨Nat.le_refl _, Nat.le_refl _⟩ (Nat.le_of_ble_eq_true rfl) ?_
  refine ot_putI E fl_4_26 fw_4_2 dX4_remember_38 h_h.1 rfl ?_
  obtain ⟨I3, hI3⟩ : ∃ y_ : ow_I, y_ = ow_u I2 h 2 (i_min (I2 h 2 + (nI 1)) (nI 8)) := ⟨_, rfl⟩
  replace hk := lt_k (P := fun r : ow_I => K none (S, r, V, z)) hI3 hk
  refine or_nmI hI3 ?_
  exact or_vret E F dX4_remember_41 (Nat.le_refl _) (Nat.le_refl _) hk
def U_addByte (u : Nat) (x : Int32) (I : ow_I) : ow_I :=
  if 500 ≤ tn (I u 1) then I else lt (ow_u I (u + 1) (tn (I u 1)) x) (fun (I1 : ow_I) => lt (ow_u I1 u 1 (I1 u 1 + (nI 1))) (fun (I2 : ow_I) => I2))
set_option maxRecDepth 100000 in
set_option maxHeartbeats 400000 in
theorem cU_addByte {S : Nat → Option ow_Sh} {I : ow_I} {V : Nat → Nat → Value} {z : Nat} {u : Nat} {x : Int32} (h_u : in_S S u) (h1 : 0 ≤ I u 1) (h1b : tn (I u 1) ≤ 500) : ow_Cf yX5_addByte cX5_addByte 2 none 0 [.ref u, .int x] (S, I, V, z) none (S, U_addByte u x I, V, z) := by
  refine ow_Cf.of rfl (Nat.le_of_ble_eq_true rfl) (fun X K E F hk => ?_)
  have E : ow_E X RX5 cX5_addByte 2 (ow_rm 0 0 0) := E
  refine or_lv [(0, .ref u), (1, .int x)] rfl ?_
  dsimp only [U_addByte] at hk
  refine or_aload_n E rfl dX5_addByte_0 ?_
  refine ot_getI E fl_5_39 dX5_addByte_1 h_u.1 rfl ?_
  refine or_top (nI_tn h1).symm ?_
  refine or_sipush (v := nI 500) E rfl dX5_addByte_4 ?_
  refine or_icmp_geN 30 E dX5_addByte_7 rfl (by omega) (by omega) (fun q7 => ?_) (fun q7 => ?_)
  · replace hk := ite_p (P := fun r : ow_I => K none (S, r, V, z)) q7 hk
    exact or_vret E F dX5_addByte_30 (Nat.le_refl _) (Nat.le_refl _) hk
  · replace hk := ite_n (P := fun r : ow_I => K none (S, r, V, z)) q7 hk
    refine or_aload_n E rfl dX5_addByte_10 ?_
    refine ot_getC E fl_5_9 dX5_addByte_11 h_u.1 rfl ?_
    refine or_aload_n E rfl dX5_addByte_14 ?_
    refine ot_getI E fl_5_39 dX5_addByte_15 h_u.1 rfl ?_
    refine or_top (nI_tn h1).symm ?_
    refine or_iload_n E rfl dX5_addByte_18 ?_
    refine ot_iast (j := tn (I u 1)) E dX5_addByte_19 h_u.2 rfl rfl (by omega) (Nat.le_of_ble_eq_true rfl) ?_
    obtain ⟨I1, hI1⟩ : ∃ y_ : ow_I, y_ = ow_u I (u + 1) (tn (I u 1)) x := ⟨_, rfl⟩
    replace hk := lt_k (P := fun r : ow_I => K none (S, r, V, z)) hI1 hk
    refine or_nmI hI1 ?_
    refine or_aload_n E rfl dX5_addByte_20 ?_
    refine or_dup E rfl dX5_addByte_21 ?_
    refine ot_getI E fl_5_39 dX5_addByte_22 h_u.1 rfl ?_
    refine or_iconst (v := nI 1) E rfl dX5_addByte_25 ?_
    refine or_iadd E dX5_addByte_26 ?_
    refine ot_putI E fl_5_39 fw_5_1 dX5_addByte_27 h_u.1 rfl ?_
    obtain ⟨I2, hI2⟩ : ∃ y_ : ow_I, y_ = ow_u I1 u 1 (I1 u 1 + (nI 1)) := ⟨_, rfl⟩
    replace hk := lt_k (P := fun r : ow_I => K none (S, r, V, z)) hI2 hk
    refine or_nmI hI2 ?_
    exact or_vret E F dX5_addByte_30 (Nat.le_refl _) (Nat.le_refl _) hk
def U_kindAt (u : Nat) (i : Int32) (I : ow_I) : Int32 :=
  if i < 0 then nI 0 else if i < I u 1 then if I (u + 1) (tn i) < nI 97 then if I (u + 1) (tn i) < nI 48 then if I (u + 1) (tn i) = nI 59 then nI 3 else nI 4 else if nI 57 < I (u + 1) (tn i) then if I (u + 1) (tn i) = nI 59 then nI 3 else nI 4 else nI 2 else if nI 122 < I (u + 1) (tn i) then if I (u + 1) (tn i) < nI 48 then if I (u + 1) (tn i) = nI 59 then nI 3 else nI 4 else if nI 57 < I (u + 1) (tn i) then if I (u + 1) (tn i) = nI 59 then nI 3 else nI 4 else nI 2 else nI 1 else nI 0
set_option maxRecDepth 100000 in
set_option maxHeartbeats 400000 in
theorem cU_kindAt {S : Nat → Option ow_Sh} {I : ow_I} {V : Nat → Nat → Value} {z : Nat} {u : Nat} {i : Int32} (h_u : in_S S u) (h1 : 0 ≤ I u 1) (h1b : tn (I u 1) ≤ 500) : ow_Cf yX5_kindAt cX5_kindAt 3 (some .int) 0 [.ref u, .int i] (S, I, V, z) (some (.int (U_kindAt u i I))) (S, I, V, z) := by
  refine ow_Cf.of rfl (Nat.le_of_ble_eq_true rfl) (fun X K E F hk => ?_)
  have E : ow_E X RX5 cX5_kindAt 3 (ow_rm 0 0 0) := E
  refine or_lv [(0, .ref u), (1, .int i)] rfl ?_
  dsimp only [U_kindAt] at hk
  refine or_iload_n E rfl dX5_kindAt_0 ?_
  refine or_if_lt 12 E dX5_kindAt_1 rfl (fun q1 => ?_) (fun q1 => ?_)
  · replace hk := ite_p (P := fun r : Int32 => K (some (.int (r))) (S, I, V, z)) q1 hk
    refine or_iconst (v := nI 0) E rfl dX5_kindAt_12 ?_
    exact or_iret E F dX5_kindAt_13 (Nat.le_refl _) (Nat.le_refl _) hk
  · replace hk := ite_n (P := fun r : Int32 => K (some (.int (r))) (S, I, V, z)) q1 hk
    refine or_iload_n E rfl dX5_kindAt_4 ?_
    refine or_aload_n E rfl dX5_kindAt_5 ?_
    refine ot_getI E fl_5_39 dX5_kindAt_6 h_u.1 rfl ?_
    refine or_icmp_lt 14 E dX5_kindAt_9 rfl (fun q9 => ?_) (fun q9 => ?_)
    · replace hk := ite_p (P := fun r : Int32 => K (some (.int (r))) (S, I, V, z)) q9 hk
      refine or_aload_n E rfl dX5_kindAt_14 ?_
      refine ot_getC E fl_5_9 dX5_kindAt_15 h_u.1 rfl ?_
      refine or_iload_n E rfl dX5_kindAt_18 ?_
      refine or_top (nI_tn (i_nlt q1)).symm ?_
      refine ot_iald (j := tn i) E dX5_kindAt_19 h_u.2 rfl rfl (by have := (lt_tn q9 (i_nlt q1)).2; omega) (Nat.le_of_ble_eq_true rfl) ?_
      refine or_istore_n E dX5_kindAt_20 (by decide) ?_
      refine or_iload_n E rfl dX5_kindAt_21 ?_
      refine or_bipush (v := nI 97) E rfl dX5_kindAt_22 ?_
      refine or_icmp_lt 35 E dX5_kindAt_24 rfl (fun q24 => ?_) (fun q24 => ?_)
      · replace hk := ite_p (P := fun r : Int32 => K (some (.int (r))) (S, I, V, z)) q24 hk
        refine or_iload_n E rfl dX5_kindAt_35 ?_
        refine or_bipush (v := nI 48) E rfl dX5_kindAt_36 ?_
        refine or_icmp_lt 49 E dX5_kindAt_38 rfl (fun q38 => ?_) (fun q38 => ?_)
        · replace hk := ite_p (P := fun r : Int32 => K (some (.int (r))) (S, I, V, z)) q38 hk
          refine or_iload_n E rfl dX5_kindAt_49 ?_
          refine or_bipush (v := nI 59) E rfl dX5_kindAt_50 ?_
          refine or_icmp_ne 59 E dX5_kindAt_52 rfl (fun q52 => ?_) (fun q52 => ?_)
          · replace hk := ite_n (P := fun r : Int32 => K (some (.int (r))) (S, I, V, z)) q52 hk
            refine or_iconst (v := nI 4) E rfl dX5_kindAt_59 ?_
            exact or_iret E F dX5_kindAt_60 (Nat.le_refl _) (Nat.le_refl _) hk
          · replace hk := ite_p (P := fun r : Int32 => K (some (.int (r))) (S, I, V, z)) q52 hk
            refine or_iconst (v := nI 3) E rfl dX5_kindAt_55 ?_
            refine or_goto 60 E dX5_kindAt_56 rfl ?_
            exact or_iret E F dX5_kindAt_60 (Nat.le_refl _) (Nat.le_refl _) hk
        · replace hk := ite_n (P := fun r : Int32 => K (some (.int (r))) (S, I, V, z)) q38 hk
          refine or_iload_n E rfl dX5_kindAt_41 ?_
          refine or_bipush (v := nI 57) E rfl dX5_kindAt_42 ?_
          refine or_icmp_gt 49 E dX5_kindAt_44 rfl (fun q44 => ?_) (fun q44 => ?_)
          · replace hk := ite_p (P := fun r : Int32 => K (some (.int (r))) (S, I, V, z)) q44 hk
            refine or_iload_n E rfl dX5_kindAt_49 ?_
            refine or_bipush (v := nI 59) E rfl dX5_kindAt_50 ?_
            refine or_icmp_ne 59 E dX5_kindAt_52 rfl (fun q52 => ?_) (fun q52 => ?_)
            · replace hk := ite_n (P := fun r : Int32 => K (some (.int (r))) (S, I, V, z)) q52 hk
              refine or_iconst (v := nI 4) E rfl dX5_kindAt_59 ?_
              exact or_iret E F dX5_kindAt_60 (Nat.le_refl _) (Nat.le_refl _) hk
            · replace hk := ite_p (P := fun r : Int32 => K (some (.int (r))) (S, I, V, z)) q52 hk
              refine or_iconst (v := nI 3) E rfl dX5_kindAt_55 ?_
              refine or_goto 60 E dX5_kindAt_56 rfl ?_
              exact or_iret E F dX5_kindAt_60 (Nat.le_refl _) (Nat.le_refl _) hk
          · replace hk := ite_n (P := fun r : Int32 => K (some (.int (r))) (S, I, V, z)) q44 hk
            refine or_iconst (v := nI 2) E rfl dX5_kindAt_47 ?_
            exact or_iret E F dX5_kindAt_48 (Nat.le_refl _) (Nat.le_refl _) hk
      · replace hk := ite_n (P := fun r : Int32 => K (some (.int (r))) (S, I, V, z)) q24 hk
        refine or_iload_n E rfl dX5_kindAt_27 ?_
        refine or_bipush (v := nI 122) E rfl dX5_kindAt_28 ?_
        refine or_icmp_gt 35 E dX5_kindAt_30 rfl (fun q30 => ?_) (fun q30 => ?_)
        · replace hk := ite_p (P := fun r : Int32 => K (some (.int (r))) (S, I, V, z)) q30 hk
          refine or_iload_n E rfl dX5_kindAt_35 ?_
          refine or_bipush (v := nI 48) E rfl dX5_kindAt_36 ?_
          refine or_icmp_lt 49 E dX5_kindAt_38 rfl (fun q38 => ?_) (fun q38 => ?_)
          · replace hk := ite_p (P := fun r : Int32 => K (some (.int (r))) (S, I, V, z)) q38 hk
            refine or_iload_n E rfl dX5_kindAt_49 ?_
            refine or_bipush (v := nI 59) E rfl dX5_kindAt_50 ?_
            refine or_icmp_ne 59 E dX5_kindAt_52 rfl (fun q52 => ?_) (fun q52 => ?_)
            · replace hk := ite_n (P := fun r : Int32 => K (some (.int (r))) (S, I, V, z)) q52 hk
              refine or_iconst (v := nI 4) E rfl dX5_kindAt_59 ?_
              exact or_iret E F dX5_kindAt_60 (Nat.le_refl _) (Nat.le_refl _) hk
            · replace hk := ite_p (P := fun r : Int32 => K (some (.int (r))) (S, I, V, z)) q52 hk
              refine or_iconst (v := nI 3) E rfl dX5_kindAt_55 ?_
              refine or_goto 60 E dX5_kindAt_56 rfl ?_
              exact or_iret E F dX5_kindAt_60 (Nat.le_refl _) (Nat.le_refl _) hk
          · replace hk := ite_n (P := fun r : Int32 => K (some (.int (r))) (S, I, V, z)) q38 hk
            refine or_iload_n E rfl dX5_kindAt_41 ?_
            refine or_bipush (v := nI 57) E rfl dX5_kindAt_42 ?_
            refine or_icmp_gt 49 E dX5_kindAt_44 rfl (fun q44 => ?_) (fun q44 => ?_)
            · replace hk := ite_p (P := fun r : Int32 => K (some (.int (r))) (S, I, V, z)) q44 hk
              refine or_iload_n E rfl dX5_kindAt_49 ?_
              refine or_bipush (v := nI 59) E rfl dX5_kindAt_50 ?_
              refine or_icmp_ne 59 E dX5_kindAt_52 rfl (fun q52 => ?_) (fun q52 => ?_)
              · replace hk := ite_n (P := fun r : Int32 => K (some (.int (r))) (S, I, V, z)) q52 hk
                refine or_iconst (v := nI 4) E rfl dX5_kindAt_59 ?_
                exact or_iret E F dX5_kindAt_60 (Nat.le_refl _) (Nat.le_refl _) hk
              · replace hk := ite_p (P := fun r : Int32 => K (some (.int (r))) (S, I, V, z)) q52 hk
                refine or_iconst (v := nI 3) E rfl dX5_kindAt_55 ?_
                refine or_goto 60 E dX5_kindAt_56 rfl ?_
                exact or_iret E F dX5_kindAt_60 (Nat.le_refl _) (Nat.le_refl _) hk
            · replace hk := ite_n (P := fun r : Int32 => K (some (.int (r))) (S, I, V, z)) q44 hk
              refine or_iconst (v := nI 2) E rfl dX5_kindAt_47 ?_
              exact or_iret E F dX5_kindAt_48 (Nat.le_refl _) (Nat.le_refl _) hk
        · replace hk := ite_n (P := fun r : Int32 => K (some (.int (r))) (S, I, V, z)) q30 hk
          refine or_iconst (v := nI 1) E rfl dX5_kindAt_33 ?_
          exact or_iret E F dX5_kindAt_34 (Nat.le_refl _) (Nat.le_refl _) hk
    · replace hk := ite_n (P := fun r : Int32 => K (some (.int (r))) (S, I, V, z)) q9 hk
      refine or_iconst (v := nI 0) E rfl dX5_kindAt_12 ?_
      exact or_iret E F dX5_kindAt_13 (Nat.le_refl _) (Nat.le_refl _) hk
end
section
theorem rr_ab {u b : Nat} {x : Int32} {I : ow_I} (h : b ≠ u) (h1 : b ≠ u + 1) : U_addByte u x I b = I b := by
  simp only [U_addByte, lt_eq]
  (repeat' split) <;> simp only [rr_u h, rr_u h1]
theorem ab_1 {u : Nat} {x : Int32} {I : ow_I} (h1 : 0 ≤ I u 1) (h1b : tn (I u 1) ≤ 500) : 0 ≤ U_addByte u x I u 1 ∧ tn (U_addByte u x I u 1) ≤ 500 := by
  simp only [U_addByte, lt_eq]
  split
  · exact ⟨h1, h1b⟩
  · rw [ow_u_s, rr_u (by omega), (tn_inc h1 (by omega)).2]
    exact ⟨(tn_inc h1 (by omega)).1, by omega⟩
theorem fr_ab {u k : Nat} {x : Int32} {I : ow_I} (h : k ≠ 1) : U_addByte u x I u k = I u k := by
  simp only [U_addByte, lt_eq]
  split
  · rfl
  · rw [ow_u_k _ _ _ _ h, rr_u (by omega)]
theorem lm_5_53 : ow_lm RX5 53 Lib.Math.min.name Lib.Math.min.code := ⟨ow_T_in 436 (by decide +kernel) (by decide +kernel), ow_T_in 437 (by decide +kernel) (by decide +kernel), ow_T_in 18 (by decide +kernel) (by decide +kernel), ow_T_in 438 (by decide +kernel) (by decide +kernel)⟩
theorem fl_5_29 : ow_fl RX5 29 5 4 := ⟨_, rfl, by decide, ow_T_in 263 (by decide +kernel) (by decide +kernel), ow_ok5⟩
theorem fl_5_36 : ow_fl RX5 36 5 3 := ⟨_, rfl, by decide, ow_T_in 261 (by decide +kernel) (by decide +kernel), ow_ok5⟩
theorem fl_5_46 : ow_fl RX5 46 5 2 := ⟨_, rfl, by decide, ow_T_in 260 (by decide +kernel) (by decide +kernel), ow_ok5⟩
theorem fl_5_49 : ow_fl RX5 49 5 5 := ⟨_, rfl, by decide, ow_T_in 264 (by decide +kernel) (by decide +kernel), ow_ok5⟩
theorem fw_5_2 : ∃ r : vw_C, ow_cl[5]? = some r ∧ (r.2.1 2).2.2.2 = false ∧ parseFieldDescriptor (r.2.1 2).2.2.1 = some .int := ⟨_, rfl, rfl, by decide +kernel⟩
theorem fw_5_3 : ∃ r : vw_C, ow_cl[5]? = some r ∧ (r.2.1 3).2.2.2 = false ∧ parseFieldDescriptor (r.2.1 3).2.2.1 = some .int := ⟨_, rfl, rfl, by decide +kernel⟩
theorem fw_5_4 : ∃ r : vw_C, ow_cl[5]? = some r ∧ (r.2.1 4).2.2.2 = false ∧ parseFieldDescriptor (r.2.1 4).2.2.1 = some .int := ⟨_, rfl, rfl, by decide +kernel⟩
theorem fw_5_5 : ∃ r : vw_C, ow_cl[5]? = some r ∧ (r.2.1 5).2.2.2 = false ∧ parseFieldDescriptor (r.2.1 5).2.2.1 = some .int := ⟨_, rfl, rfl, by decide +kernel⟩
theorem lk_5_15 : ow_lv RX5 15 yX5_addByte cX5_addByte 2 none 1 := ⟨ow_T_in 411 (by decide +kernel) (by decide +kernel), ow_T_in 413 (by decide +kernel) (by decide +kernel), ow_T_sel 0 (by decide +kernel) (by decide +kernel), ow_T_in 8 (by decide +kernel) (by decide +kernel), ow_T_in 414 (by decide +kernel) (by decide +kernel), ⟨by decide +kernel, by decide +kernel, by decide +kernel⟩⟩
theorem lk_5_33 : ow_lv RX5 33 yX5_advance cX5_advance 2 none 0 := ⟨ow_T_in 427 (by decide +kernel) (by decide +kernel), ow_T_in 428 (by decide +kernel) (by decide +kernel), ow_T_in 429 (by decide +kernel) (by decide +kernel), ow_T_in 8 (by decide +kernel) (by decide +kernel), ow_T_in 430 (by decide +kernel) (by decide +kernel), ⟨by decide +kernel, by decide +kernel, by decide +kernel⟩⟩
theorem lk_5_42 : ow_lv RX5 42 yX5_kindAt cX5_kindAt 3 (some .int) 1 := ⟨ow_T_in 431 (by decide +kernel) (by decide +kernel), ow_T_in 433 (by decide +kernel) (by decide +kernel), ow_T_sel 2 (by decide +kernel) (by decide +kernel), ow_T_in 8 (by decide +kernel) (by decide +kernel), ow_T_in 434 (by decide +kernel) (by decide +kernel), ⟨by decide +kernel, by decide +kernel, by decide +kernel⟩⟩
theorem wd_435 : Cond.constant RX5 52 (nI 1000000) ∈ ow_T := ow_T_in 435 (by decide +kernel) (by decide +kernel)
def U_addFour_L3 (u : Nat) (w : Int32) : Nat → ow_I → Int32 → ow_I
  | 0, I, _ => I
  | n + 1, I, s => if s < 0 then I else lt (U_addByte u (((w.toUInt32 >>> (s.toUInt32 &&& Int32.toUInt32 31)).toInt32) &&& (nI 255)) I) (fun (I1 : ow_I) => U_addFour_L3 u w n I1 (s + Int32.ofInt (-8)))
def U_addFour (u : Nat) (w : Int32) (I : ow_I) : ow_I :=
  U_addFour_L3 u w 5 I (nI 24)
set_option maxRecDepth 100000 in
set_option maxHeartbeats 400000 in
theorem cU_addFour {S : Nat → Option ow_Sh} {I : ow_I} {V : Nat → Nat → Value} {z : Nat} {u : Nat} {w : Int32} (h_u : in_S S u) (h1 : 0 ≤ I u 1) (h1b : tn (I u 1) ≤ 500) : ow_Cf yX5_addFour cX5_addFour 3 none 1 [.ref u, .int w] (S, I, V, z) none (S, U_addFour u w I, V, z) := by
  refine ow_Cf.of rfl (Nat.le_of_ble_eq_true rfl) (fun X K E F hk => ?_)
  have E : ow_E X RX5 cX5_addFour 3 (ow_rm 1 0 0) := E
  refine or_lv [(0, .ref u), (1, .int w)] rfl ?_
  have L3 : ∀ (n : Nat) (I : ow_I) (s : Int32) (c : Nat) (hs : s = nI (8 * c) - 8) (hc : c ≤ 4) (h1 : 0 ≤ I u 1) (h1b : tn (I u 1) ≤ 500) (hm : c < n) (hk : K none (S, U_addFour_L3 u w n I s, V, z)), ow_W X 0 0 (S, I, V, z) 3 [(0, .ref u), (1, .int w), (2, .int s)] [] := by
    intro n
    induction n with
    | zero => intro I s c hs hc h1 h1b hm; omega
    | succ n ih =>
      intro I s c hs hc h1 h1b hm hk
      dsimp only [U_addFour_L3] at hk
      refine or_iload_n E rfl dX5_addFour_3 ?_
      refine or_if_lt 24 E dX5_addFour_4 rfl (fun q4 => ?_) (fun q4 => ?_)
      · replace hk := ite_p (P := fun r : ow_I => K none (S, r, V, z)) q4 hk
        exact or_vret E F dX5_addFour_24 (Nat.le_refl _) (Nat.le_refl _) hk
      · replace hk := ite_n (P := fun r : ow_I => K none (S, r, V, z)) q4 hk
        refine or_aload_n E rfl dX5_addFour_7 ?_
        refine or_iload_n E rfl dX5_addFour_8 ?_
        refine or_iload_n E rfl dX5_addFour_9 ?_
        refine or_iushr E dX5_addFour_10 ?_
        refine or_sipush (v := nI 255) E rfl dX5_addFour_11 ?_
        refine or_iand E dX5_addFour_14 ?_
        refine or_cV1v (cU_addByte  h_u h1 h1b) E lk_5_15 dX5_addFour_15 h_u.1 rfl rfl (by decide) (by decide) ⟨Nat.le_refl _, Nat.le_refl _⟩ (Nat.le_of_ble_eq_true rfl) ?_
        obtain ⟨I1, hI1⟩ : ∃ y_ : ow_I, y_ = U_addByte u (((w.toUInt32 >>> (s.toUInt32 &&& Int32.toUInt32 31)).toInt32) &&& (nI 255)) I := ⟨_, rfl⟩
        replace hk := lt_k (P := fun r : ow_I => K none (S, r, V, z)) hI1 hk
        refine or_nmI hI1 ?_
        refine or_iinc E dX5_addFour_18 rfl (by decide) ?_
        refine or_goto 3 E dX5_addFour_21 rfl ?_
        refine or_lv _ ?_ (ih _ _ (c - 1) (by subst hI1; rw [hs]; exact sh8 (sh8_c hs q4)) (by subst hI1; omega) (by subst hI1; exact (ab_1 h1 h1b).1) (by subst hI1; exact (ab_1 h1 h1b).2) (by subst hI1; have := sh8_c hs q4; omega) hk)
        rfl
  dsimp only [U_addFour] at hk
  refine or_bipush (v := nI 24) E rfl dX5_addFour_0 ?_
  refine or_istore_n E dX5_addFour_2 (by decide) ?_
  refine or_lv _ ?_ (L3 5 _ _ 4 rfl (by decide) h1 h1b (by decide) hk)
  rfl
def U_advance_L93 (u : Nat) : Nat → ow_I → Nat → ow_I
  | 0, I, _ => I
  | n + 1, I, r => if tn (I u 1) ≤ tn (I u 4) then I else if U_kindAt u (I u 4) I = I u 2 then if r = 0 then if I u 4 = I u 3 then if I u 2 = nI 2 then lt (ow_u I u 5 (i_min ((I u 5) * (nI 10) + (I (u + 1) (tn (I u 4)) - (nI 48))) (nI 1000000))) (fun (I9 : ow_I) => lt (ow_u I9 u 4 (I9 u 4 + (nI 1))) (fun (I10 : ow_I) => U_advance_L93 u n I10 r)) else lt (ow_u I u 4 (I u 4 + (nI 1))) (fun (I8 : ow_I) => U_advance_L93 u n I8 r) else I else if I u 2 = nI 2 then lt (ow_u I u 5 (i_min ((I u 5) * (nI 10) + (I (u + 1) (tn (I u 4)) - (nI 48))) (nI 1000000))) (fun (I6 : ow_I) => lt (ow_u I6 u 4 (I6 u 4 + (nI 1))) (fun (I7 : ow_I) => U_advance_L93 u n I7 r)) else lt (ow_u I u 4 (I u 4 + (nI 1))) (fun (I5 : ow_I) => U_advance_L93 u n I5 r) else I
def U_advance_L8 (u : Nat) : Nat → ow_I → ow_I
  | 0, I => I
  | n + 1, I => if tn (I u 1) ≤ tn (I u 3) then lt (ow_u I u 4 (I u 3)) (fun (I2 : ow_I) => lt (ow_u I2 u 2 (U_kindAt u (I2 u 3) I2)) (fun (I3 : ow_I) => lt (ow_u I3 u 5 (nI 0)) (fun (I4 : ow_I) => if I4 u 2 = nI 1 then U_advance_L93 u 501 I4 1 else if I4 u 2 = nI 2 then U_advance_L93 u 501 I4 1 else U_advance_L93 u 501 I4 0))) else if I (u + 1) (tn (I u 3)) = nI 32 then lt (ow_u I u 3 (I u 3 + (nI 1))) (fun (I14 : ow_I) => U_advance_L8 u n I14 ) else lt (ow_u I u 4 (I u 3)) (fun (I11 : ow_I) => lt (ow_u I11 u 2 (U_kindAt u (I11 u 3) I11)) (fun (I12 : ow_I) => lt (ow_u I12 u 5 (nI 0)) (fun (I13 : ow_I) => if I13 u 2 = nI 1 then U_advance_L93 u 501 I13 1 else if I13 u 2 = nI 2 then U_advance_L93 u 501 I13 1 else U_advance_L93 u 501 I13 0)))
def U_advance (u : Nat) (I : ow_I) : ow_I :=
  lt (ow_u I u 3 (I u 4)) (fun (I1 : ow_I) => U_advance_L8 u 501 I1 )
set_option maxRecDepth 100000 in
set_option maxHeartbeats 400000 in
theorem cU_advance {S : Nat → Option ow_Sh} {I : ow_I} {V : Nat → Nat → Value} {z : Nat} {u : Nat} (h_u : in_S S u) (h1 : 0 ≤ I u 1) (h1b : tn (I u 1) ≤ 500) (h4 : 0 ≤ I u 4) (h4b : tn (I u 4) ≤ 500) : ow_Cf yX5_advance cX5_advance 2 none 1 [.ref u] (S, I, V, z) none (S, U_advance u I, V, z) := by
  refine ow_Cf.of rfl (Nat.le_of_ble_eq_true rfl) (fun X K E F hk => ?_)
  have E : ow_E X RX5 cX5_advance 2 (ow_rm 1 0 0) := E
  refine or_lv [(0, .ref u)] rfl ?_
  have L93 : ∀ (n : Nat) (I : ow_I) (r : Nat) (h1 : 0 ≤ I u 1) (h1b : tn (I u 1) ≤ 500) (h4 : 0 ≤ I u 4) (h4b : tn (I u 4) ≤ 500) (hr : r ≤ 1) (hm : 500 - tn (I u 4) < n) (hk : K none (S, U_advance_L93 u n I r, V, z)), ow_W X 0 0 (S, I, V, z) 93 [(0, .ref u), (1, .int (nI r))] [] := by
    intro n
    induction n with
    | zero => intro I r h1 h1b h4 h4b hr hm; omega
    | succ n ih =>
      intro I r h1 h1b h4 h4b hr hm hk
      dsimp only [U_advance_L93] at hk
      refine or_aload_n E rfl dX5_advance_93 ?_
      refine ot_getI E fl_5_29 dX5_advance_94 h_u.1 rfl ?_
      refine or_top (nI_tn h4).symm ?_
      refine or_aload_n E rfl dX5_advance_97 ?_
      refine ot_getI E fl_5_39 dX5_advance_98 h_u.1 rfl ?_
      refine or_top (nI_tn h1).symm ?_
      refine or_icmp_geN 184 E dX5_advance_101 rfl (by omega) (by omega) (fun q101 => ?_) (fun q101 => ?_)
      · replace hk := ite_p (P := fun r : ow_I => K none (S, r, V, z)) q101 hk
        exact or_vret E F dX5_advance_184 (Nat.le_refl _) (Nat.le_refl _) hk
      · replace hk := ite_n (P := fun r : ow_I => K none (S, r, V, z)) q101 hk
        refine or_aload_n E rfl dX5_advance_104 ?_
        refine or_aload_n E rfl dX5_advance_105 ?_
        refine ot_getI E fl_5_29 dX5_advance_106 h_u.1 rfl ?_
        refine or_cV1r (cU_kindAt  h_u h1 h1b) E lk_5_42 dX5_advance_109 h_u.1 rfl rfl (by decide) (by decide) ⟨Nat.le_refl _, Nat.le_refl _⟩ (Nat.le_of_ble_eq_true rfl) ?_
        refine or_aload_n E rfl dX5_advance_112 ?_
        refine ot_getI E fl_5_46 dX5_advance_113 h_u.1 rfl ?_
        refine or_icmp_ne 184 E dX5_advance_116 rfl (fun q116 => ?_) (fun q116 => ?_)
        · replace hk := ite_n (P := fun r : ow_I => K none (S, r, V, z)) q116 hk
          exact or_vret E F dX5_advance_184 (Nat.le_refl _) (Nat.le_refl _) hk
        · replace hk := ite_p (P := fun r : ow_I => K none (S, r, V, z)) q116 hk
          refine or_iload_n E rfl dX5_advance_119 ?_
          refine or_if_neN 134 E dX5_advance_120 rfl (by omega) (fun q120 => ?_) (fun q120 => ?_)
          · replace hk := ite_n (P := fun r : ow_I => K none (S, r, V, z)) q120 hk
            refine or_aload_n E rfl dX5_advance_134 ?_
            refine ot_getI E fl_5_46 dX5_advance_135 h_u.1 rfl ?_
            refine or_iconst (v := nI 2) E rfl dX5_advance_138 ?_
            refine or_icmp_ne 171 E dX5_advance_139 rfl (fun q139 => ?_) (fun q139 => ?_)
            · replace hk := ite_n (P := fun r : ow_I => K none (S, r, V, z)) q139 hk
              refine or_aload_n E rfl dX5_advance_171 ?_
              refine or_dup E rfl dX5_advance_172 ?_
              refine ot_getI E fl_5_29 dX5_advance_173 h_u.1 rfl ?_
              refine or_iconst (v := nI 1) E rfl dX5_advance_176 ?_
              refine or_iadd E dX5_advance_177 ?_
              refine ot_putI E fl_5_29 fw_5_4 dX5_advance_178 h_u.1 rfl ?_
              obtain ⟨I5, hI5⟩ : ∃ y_ : ow_I, y_ = ow_u I u 4 (I u 4 + (nI 1)) := ⟨_, rfl⟩
              replace hk := lt_k (P := fun r : ow_I => K none (S, r, V, z)) hI5 hk
              refine or_nmI hI5 ?_
              refine or_goto 93 E dX5_advance_181 rfl ?_
              refine or_lv _ ?_ (ih _ _ (by subst hI5; simp (disch := decide) only [ow_u_k, ow_u_s]; exact h1) (by subst hI5; simp (disch := decide) only [ow_u_k, ow_u_s]; exact h1b) (by subst hI5; simp (disch := decide) only [ow_u_k, ow_u_s]; exact (tn_inc h4 (by omega)).1) (by subst hI5; simp (disch := decide) only [ow_u_k, ow_u_s]; rw [(tn_inc h4 (by omega)).2]; omega) (by subst hI5; exact hr) (by subst hI5; simp (disch := decide) only [ow_u_k, ow_u_s]; rw [(tn_inc h4 (by omega)).2]; omega) hk)
              rfl
            · replace hk := ite_p (P := fun r : ow_I => K none (S, r, V, z)) q139 hk
              refine or_aload_n E rfl dX5_advance_142 ?_
              refine or_aload_n E rfl dX5_advance_143 ?_
              refine ot_getI E fl_5_49 dX5_advance_144 h_u.1 rfl ?_
              refine or_bipush (v := nI 10) E rfl dX5_advance_147 ?_
              refine or_imul E dX5_advance_149 ?_
              refine or_aload_n E rfl dX5_advance_150 ?_
              refine ot_getC E fl_5_9 dX5_advance_151 h_u.1 rfl ?_
              refine or_aload_n E rfl dX5_advance_154 ?_
              refine ot_getI E fl_5_29 dX5_advance_155 h_u.1 rfl ?_
              refine or_top (nI_tn h4).symm ?_
              refine ot_iald (j := tn (I u 4)) E dX5_advance_158 h_u.2 rfl rfl (by omega) (Nat.le_of_ble_eq_true rfl) ?_
              refine or_bipush (v := nI 48) E rfl dX5_advance_159 ?_
              refine or_isub E dX5_advance_161 ?_
              refine or_iadd E dX5_advance_162 ?_
              refine or_ldc (v := nI 1000000) E wd_435 dX5_advance_163 ?_
              refine or_mmin E lm_5_53 dX5_advance_165 (Nat.le_of_ble_eq_true rfl) ⟨Nat.le_refl _, Nat.le_refl _⟩ (Nat.le_of_ble_eq_true rfl) ?_
              refine ot_putI E fl_5_49 fw_5_5 dX5_advance_168 h_u.1 rfl ?_
              obtain ⟨I6, hI6⟩ : ∃ y_ : ow_I, y_ = ow_u I u 5 (i_min ((I u 5) * (nI 10) + (I (u + 1) (tn (I u 4)) - (nI 48))) (nI 1000000)) := ⟨_, rfl⟩
              replace hk := lt_k (P := fun r : ow_I => K none (S, r, V, z)) hI6 hk
              refine or_nmI hI6 ?_
              refine or_aload_n E rfl dX5_advance_171 ?_
              refine or_dup E rfl dX5_advance_172 ?_
              refine ot_getI E fl_5_29 dX5_advance_173 h_u.1 rfl ?_
              refine or_iconst (v := nI 1) E rfl dX5_advance_176 ?_
              refine or_iadd E dX5_advance_177 ?_
              refine ot_putI E fl_5_29 fw_5_4 dX5_advance_178 h_u.1 rfl ?_
              obtain ⟨I7, hI7⟩ : ∃ y_ : ow_I, y_ = ow_u I6 u 4 (I6 u 4 + (nI 1)) := ⟨_, rfl⟩
              replace hk := lt_k (P := fun r : ow_I => K none (S, r, V, z)) hI7 hk
              refine or_nmI hI7 ?_
              refine or_goto 93 E dX5_advance_181 rfl ?_
              refine or_lv _ ?_ (ih _ _ (by subst hI7 hI6; simp (disch := decide) only [ow_u_k, ow_u_s]; exact h1) (by subst hI7 hI6; simp (disch := decide) only [ow_u_k, ow_u_s]; exact h1b) (by subst hI7 hI6; simp (disch := decide) only [ow_u_k, ow_u_s]; exact (tn_inc h4 (by omega)).1) (by subst hI7 hI6; simp (disch := decide) only [ow_u_k, ow_u_s]; rw [(tn_inc h4 (by omega)).2]; omega) (by subst hI7 hI6; exact hr) (by subst hI7 hI6; simp (disch := decide) only [ow_u_k, ow_u_s]; rw [(tn_inc h4 (by omega)).2]; omega) hk)
              rfl
          · replace hk := ite_p (P := fun r : ow_I => K none (S, r, V, z)) q120 hk
            refine or_aload_n E rfl dX5_advance_123 ?_
            refine ot_getI E fl_5_29 dX5_advance_124 h_u.1 rfl ?_
            refine or_aload_n E rfl dX5_advance_127 ?_
            refine ot_getI E fl_5_36 dX5_advance_128 h_u.1 rfl ?_
            refine or_icmp_ne 184 E dX5_advance_131 rfl (fun q131 => ?_) (fun q131 => ?_)
            · replace hk := ite_n (P := fun r : ow_I => K none (S, r, V, z)) q131 hk
              exact or_vret E F dX5_advance_184 (Nat.le_refl _) (Nat.le_refl _) hk
            · replace hk := ite_p (P := fun r : ow_I => K none (S, r, V, z)) q131 hk
              refine or_aload_n E rfl dX5_advance_134 ?_
              refine ot_getI E fl_5_46 dX5_advance_135 h_u.1 rfl ?_
              refine or_iconst (v := nI 2) E rfl dX5_advance_138 ?_
              refine or_icmp_ne 171 E dX5_advance_139 rfl (fun q139 => ?_) (fun q139 => ?_)
              · replace hk := ite_n (P := fun r : ow_I => K none (S, r, V, z)) q139 hk
                refine or_aload_n E rfl dX5_advance_171 ?_
                refine or_dup E rfl dX5_advance_172 ?_
                refine ot_getI E fl_5_29 dX5_advance_173 h_u.1 rfl ?_
                refine or_iconst (v := nI 1) E rfl dX5_advance_176 ?_
                refine or_iadd E dX5_advance_177 ?_
                refine ot_putI E fl_5_29 fw_5_4 dX5_advance_178 h_u.1 rfl ?_
                obtain ⟨I8, hI8⟩ : ∃ y_ : ow_I, y_ = ow_u I u 4 (I u 4 + (nI 1)) := ⟨_, rfl⟩
                replace hk := lt_k (P := fun r : ow_I => K none (S, r, V, z)) hI8 hk
                refine or_nmI hI8 ?_
                refine or_goto 93 E dX5_advance_181 rfl ?_
                refine or_lv _ ?_ (ih _ _ (by subst hI8; simp (disch := decide) only [ow_u_k, ow_u_s]; exact h1) (by subst hI8; simp (disch := decide) only [ow_u_k, ow_u_s]; exact h1b) (by subst hI8; simp (disch := decide) only [ow_u_k, ow_u_s]; exact (tn_inc h4 (by omega)).1) (by subst hI8; simp (disch := decide) only [ow_u_k, ow_u_s]; rw [(tn_inc h4 (by omega)).2]; omega) (by subst hI8; exact hr) (by subst hI8; simp (disch := decide) only [ow_u_k, ow_u_s]; rw [(tn_inc h4 (by omega)).2]; omega) hk)
                rfl
              · replace hk := ite_p (P := fun r : ow_I => K none (S, r, V, z)) q139 hk
                refine or_aload_n E rfl dX5_advance_142 ?_
                refine or_aload_n E rfl dX5_advance_143 ?_
                refine ot_getI E fl_5_49 dX5_advance_144 h_u.1 rfl ?_
                refine or_bipush (v := nI 10) E rfl dX5_advance_147 ?_
                refine or_imul E dX5_advance_149 ?_
                refine or_aload_n E rfl dX5_advance_150 ?_
                refine ot_getC E fl_5_9 dX5_advance_151 h_u.1 rfl ?_
                refine or_aload_n E rfl dX5_advance_154 ?_
                refine ot_getI E fl_5_29 dX5_advance_155 h_u.1 rfl ?_
                refine or_top (nI_tn h4).symm ?_
                refine ot_iald (j := tn (I u 4)) E dX5_advance_158 h_u.2 rfl rfl (by omega) (Nat.le_of_ble_eq_true rfl) ?_
                refine or_bipush (v := nI 48) E rfl dX5_advance_159 ?_
                refine or_isub E dX5_advance_161 ?_
                refine or_iadd E dX5_advance_162 ?_
                refine or_ldc (v := nI 1000000) E wd_435 dX5_advance_163 ?_
                refine or_mmin E lm_5_53 dX5_advance_165 (Nat.le_of_ble_eq_true rfl) ⟨Nat.le_refl _, Nat.le_refl _⟩ (Nat.le_of_ble_eq_true rfl) ?_
                refine ot_putI E fl_5_49 fw_5_5 dX5_advance_168 h_u.1 rfl ?_
                obtain ⟨I9, hI9⟩ : ∃ y_ : ow_I, y_ = ow_u I u 5 (i_min ((I u 5) * (nI 10) + (I (u + 1) (tn (I u 4)) - (nI 48))) (nI 1000000)) := ⟨_, rfl⟩
                replace hk := lt_k (P := fun r : ow_I => K none (S, r, V, z)) hI9 hk
                refine or_nmI hI9 ?_
                refine or_aload_n E rfl dX5_advance_171 ?_
                refine or_dup E rfl dX5_advance_172 ?_
                refine ot_getI E fl_5_29 dX5_advance_173 h_u.1 rfl ?_
                refine or_iconst (v := nI 1) E rfl dX5_advance_176 ?_
                refine or_iadd E dX5_advance_177 ?_
                refine ot_putI E fl_5_29 fw_5_4 dX5_advance_178 h_u.1 rfl ?_
                obtain ⟨I10, hI10⟩ : ∃ y_ : ow_I, y_ = ow_u I9 u 4 (I9 u 4 + (nI 1)) := ⟨_, rfl⟩
                replace hk := lt_k (P := fun r : ow_I => K none (S, r, V, z)) hI10 hk
                refine or_nmI hI10 ?_
                refine or_goto 93 E dX5_advance_181 rfl ?_
                refine or_lv _ ?_ (ih _ _ (by subst hI10 hI9; simp (disch := decide) only [ow_u_k, ow_u_s]; exact h1) (by subst hI10 hI9; simp (disch := decide) only [ow_u_k, ow_u_s]; exact h1b) (by subst hI10 hI9; simp (disch := decide) only [ow_u_k, ow_u_s]; exact (tn_inc h4 (by omega)).1) (by subst hI10 hI9; simp (disch := decide) only [ow_u_k, ow_u_s]; rw [(tn_inc h4 (by omega)).2]; omega) (by subst hI10 hI9; exact hr) (by subst hI10 hI9; simp (disch := decide) only [ow_u_k, ow_u_s]; rw [(tn_inc h4 (by omega)).2]; omega) hk)
                rfl
  have L8 : ∀ (n : Nat) (I : ow_I)  (h1 : 0 ≤ I u 1) (h1b : tn (I u 1) ≤ 500) (h3 : 0 ≤ I u 3) (h3b : tn (I u 3) ≤ 500) (hm : 500 - tn (I u 3) < n) (hk : K none (S, U_advance_L8 u n I , V, z)), ow_W X 0 0 (S, I, V, z) 8 [(0, .ref u)] [] := by
    intro n
    induction n with
    | zero => intro I  h1 h1b h3 h3b hm; omega
    | succ n ih =>
      intro I  h1 h1b h3 h3b hm hk
      dsimp only [U_advance_L8] at hk
      refine or_aload_n E rfl dX5_advance_8 ?_
      refine ot_getI E fl_5_36 dX5_advance_9 h_u.1 rfl ?_
      refine or_top (nI_tn h3).symm ?_
      refine or_aload_n E rfl dX5_advance_12 ?_
      refine ot_getI E fl_5_39 dX5_advance_13 h_u.1 rfl ?_
      refine or_top (nI_tn h1).symm ?_
      refine or_icmp_geN 46 E dX5_advance_16 rfl (by omega) (by omega) (fun q16 => ?_) (fun q16 => ?_)
      · replace hk := ite_p (P := fun r : ow_I => K none (S, r, V, z)) q16 hk
        refine or_aload_n E rfl dX5_advance_46 ?_
        refine or_aload_n E rfl dX5_advance_47 ?_
        refine ot_getI E fl_5_36 dX5_advance_48 h_u.1 rfl ?_
        refine ot_putI E fl_5_29 fw_5_4 dX5_advance_51 h_u.1 rfl ?_
        obtain ⟨I2, hI2⟩ : ∃ y_ : ow_I, y_ = ow_u I u 4 (I u 3) := ⟨_, rfl⟩
        replace hk := lt_k (P := fun r : ow_I => K none (S, r, V, z)) hI2 hk
        refine or_nmI hI2 ?_
        refine or_aload_n E rfl dX5_advance_54 ?_
        refine or_aload_n E rfl dX5_advance_55 ?_
        refine or_aload_n E rfl dX5_advance_56 ?_
        refine ot_getI E fl_5_36 dX5_advance_57 h_u.1 rfl ?_
        refine or_cV1r (cU_kindAt  h_u (by subst hI2; simp (disch := decide) only [ow_u_k, ow_u_s]; exact h1) (by subst hI2; simp (disch := decide) only [ow_u_k, ow_u_s]; exact h1b)) E lk_5_42 dX5_advance_60 h_u.1 rfl rfl (by decide) (by decide) ⟨Nat.le_refl _, Nat.le_refl _⟩ (Nat.le_of_ble_eq_true rfl) ?_
        refine ot_putI E fl_5_46 fw_5_2 dX5_advance_63 h_u.1 rfl ?_
        obtain ⟨I3, hI3⟩ : ∃ y_ : ow_I, y_ = ow_u I2 u 2 (U_kindAt u (I2 u 3) I2) := ⟨_, rfl⟩
        replace hk := lt_k (P := fun r : ow_I => K none (S, r, V, z)) hI3 hk
        refine or_nmI hI3 ?_
        refine or_aload_n E rfl dX5_advance_66 ?_
        refine or_iconst (v := nI 0) E rfl dX5_advance_67 ?_
        refine ot_putI E fl_5_49 fw_5_5 dX5_advance_68 h_u.1 rfl ?_
        obtain ⟨I4, hI4⟩ : ∃ y_ : ow_I, y_ = ow_u I3 u 5 (nI 0) := ⟨_, rfl⟩
        replace hk := lt_k (P := fun r : ow_I => K none (S, r, V, z)) hI4 hk
        refine or_nmI hI4 ?_
        refine or_aload_n E rfl dX5_advance_71 ?_
        refine ot_getI E fl_5_46 dX5_advance_72 h_u.1 rfl ?_
        refine or_iconst (v := nI 1) E rfl dX5_advance_75 ?_
        refine or_icmp_eq 87 E dX5_advance_76 rfl (fun q76 => ?_) (fun q76 => ?_)
        · replace hk := ite_p (P := fun r : ow_I => K none (S, r, V, z)) q76 hk
          refine or_iconst (v := nI 1) E rfl dX5_advance_87 ?_
          refine or_goto 92 E dX5_advance_88 rfl ?_
          refine or_istore_n E dX5_advance_92 (by decide) ?_
          refine or_lv _ ?_ (L93 501 _ _ (by subst hI4 hI3 hI2; simp (disch := decide) only [ow_u_k, ow_u_s]; exact h1) (by subst hI4 hI3 hI2; simp (disch := decide) only [ow_u_k, ow_u_s]; exact h1b) (by subst hI4 hI3 hI2; simp (disch := decide) only [ow_u_k, ow_u_s]; exact h3) (by subst hI4 hI3 hI2; simp (disch := decide) only [ow_u_k, ow_u_s]; exact h3b) (by decide) (by omega) hk)
          rfl
        · replace hk := ite_n (P := fun r : ow_I => K none (S, r, V, z)) q76 hk
          refine or_aload_n E rfl dX5_advance_79 ?_
          refine ot_getI E fl_5_46 dX5_advance_80 h_u.1 rfl ?_
          refine or_iconst (v := nI 2) E rfl dX5_advance_83 ?_
          refine or_icmp_ne 91 E dX5_advance_84 rfl (fun q84 => ?_) (fun q84 => ?_)
          · replace hk := ite_n (P := fun r : ow_I => K none (S, r, V, z)) q84 hk
            refine or_iconst (v := nI 0) E rfl dX5_advance_91 ?_
            refine or_istore_n E dX5_advance_92 (by decide) ?_
            refine or_lv _ ?_ (L93 501 _ _ (by subst hI4 hI3 hI2; simp (disch := decide) only [ow_u_k, ow_u_s]; exact h1) (by subst hI4 hI3 hI2; simp (disch := decide) only [ow_u_k, ow_u_s]; exact h1b) (by subst hI4 hI3 hI2; simp (disch := decide) only [ow_u_k, ow_u_s]; exact h3) (by subst hI4 hI3 hI2; simp (disch := decide) only [ow_u_k, ow_u_s]; exact h3b) (by decide) (by omega) hk)
            rfl
          · replace hk := ite_p (P := fun r : ow_I => K none (S, r, V, z)) q84 hk
            refine or_iconst (v := nI 1) E rfl dX5_advance_87 ?_
            refine or_goto 92 E dX5_advance_88 rfl ?_
            refine or_istore_n E dX5_advance_92 (by decide) ?_
            refine or_lv _ ?_ (L93 501 _ _ (by subst hI4 hI3 hI2; simp (disch := decide) only [ow_u_k, ow_u_s]; exact h1) (by subst hI4 hI3 hI2; simp (disch := decide) only [ow_u_k, ow_u_s]; exact h1b) (by subst hI4 hI3 hI2; simp (disch := decide) only [ow_u_k, ow_u_s]; exact h3) (by subst hI4 hI3 hI2; simp (disch := decide) only [ow_u_k, ow_u_s]; exact h3b) (by decide) (by omega) hk)
            rfl
      · replace hk := ite_n (P := fun r : ow_I => K none (S, r, V, z)) q16 hk
        refine or_aload_n E rfl dX5_advance_19 ?_
        refine ot_getC E fl_5_9 dX5_advance_20 h_u.1 rfl ?_
        refine or_aload_n E rfl dX5_advance_23 ?_
        refine ot_getI E fl_5_36 dX5_advance_24 h_u.1 rfl ?_
        refine or_top (nI_tn h3).symm ?_
        refine ot_iald (j := tn (I u 3)) E dX5_advance_27 h_u.2 rfl rfl (by omega) (Nat.le_of_ble_eq_true rfl) ?_
        refine or_bipush (v := nI 32) E rfl dX5_advance_28 ?_
        refine or_icmp_ne 46 E dX5_advance_30 rfl (fun q30 => ?_) (fun q30 => ?_)
        · replace hk := ite_n (P := fun r : ow_I => K none (S, r, V, z)) q30 hk
          refine or_aload_n E rfl dX5_advance_46 ?_
          refine or_aload_n E rfl dX5_advance_47 ?_
          refine ot_getI E fl_5_36 dX5_advance_48 h_u.1 rfl ?_
          refine ot_putI E fl_5_29 fw_5_4 dX5_advance_51 h_u.1 rfl ?_
          obtain ⟨I11, hI11⟩ : ∃ y_ : ow_I, y_ = ow_u I u 4 (I u 3) := ⟨_, rfl⟩
          replace hk := lt_k (P := fun r : ow_I => K none (S, r, V, z)) hI11 hk
          refine or_nmI hI11 ?_
          refine or_aload_n E rfl dX5_advance_54 ?_
          refine or_aload_n E rfl dX5_advance_55 ?_
          refine or_aload_n E rfl dX5_advance_56 ?_
          refine ot_getI E fl_5_36 dX5_advance_57 h_u.1 rfl ?_
          refine or_cV1r (cU_kindAt  h_u (by subst hI11; simp (disch := decide) only [ow_u_k, ow_u_s]; exact h1) (by subst hI11; simp (disch := decide) only [ow_u_k, ow_u_s]; exact h1b)) E lk_5_42 dX5_advance_60 h_u.1 rfl rfl (by decide) (by decide) ⟨Nat.le_refl _, Nat.le_refl _⟩ (Nat.le_of_ble_eq_true rfl) ?_
          refine ot_putI E fl_5_46 fw_5_2 dX5_advance_63 h_u.1 rfl ?_
          obtain ⟨I12, hI12⟩ : ∃ y_ : ow_I, y_ = ow_u I11 u 2 (U_kindAt u (I11 u 3) I11) := ⟨_, rfl⟩
          replace hk := lt_k (P := fun r : ow_I => K none (S, r, V, z)) hI12 hk
          refine or_nmI hI12 ?_
          refine or_aload_n E rfl dX5_advance_66 ?_
          refine or_iconst (v := nI 0) E rfl dX5_advance_67 ?_
          refine ot_putI E fl_5_49 fw_5_5 dX5_advance_68 h_u.1 rfl ?_
          obtain ⟨I13, hI13⟩ : ∃ y_ : ow_I, y_ = ow_u I12 u 5 (nI 0) := ⟨_, rfl⟩
          replace hk := lt_k (P := fun r : ow_I => K none (S, r, V, z)) hI13 hk
          refine or_nmI hI13 ?_
          refine or_aload_n E rfl dX5_advance_71 ?_
          refine ot_getI E fl_5_46 dX5_advance_72 h_u.1 rfl ?_
          refine or_iconst (v := nI 1) E rfl dX5_advance_75 ?_
          refine or_icmp_eq 87 E dX5_advance_76 rfl (fun q76 => ?_) (fun q76 => ?_)
          · replace hk := ite_p (P := fun r : ow_I => K none (S, r, V, z)) q76 hk
            refine or_iconst (v := nI 1) E rfl dX5_advance_87 ?_
            refine or_goto 92 E dX5_advance_88 rfl ?_
            refine or_istore_n E dX5_advance_92 (by decide) ?_
            refine or_lv _ ?_ (L93 501 _ _ (by subst hI13 hI12 hI11; simp (disch := decide) only [ow_u_k, ow_u_s]; exact h1) (by subst hI13 hI12 hI11; simp (disch := decide) only [ow_u_k, ow_u_s]; exact h1b) (by subst hI13 hI12 hI11; simp (disch := decide) only [ow_u_k, ow_u_s]; exact h3) (by subst hI13 hI12 hI11; simp (disch := decide) only [ow_u_k, ow_u_s]; exact h3b) (by decide) (by omega) hk)
            rfl
          · replace hk := ite_n (P := fun r : ow_I => K none (S, r, V, z)) q76 hk
            refine or_aload_n E rfl dX5_advance_79 ?_
            refine ot_getI E fl_5_46 dX5_advance_80 h_u.1 rfl ?_
            refine or_iconst (v := nI 2) E rfl dX5_advance_83 ?_
            refine or_icmp_ne 91 E dX5_advance_84 rfl (fun q84 => ?_) (fun q84 => ?_)
            · replace hk := ite_n (P := fun r : ow_I => K none (S, r, V, z)) q84 hk
              refine or_iconst (v := nI 0) E rfl dX5_advance_91 ?_
              refine or_istore_n E dX5_advance_92 (by decide) ?_
              refine or_lv _ ?_ (L93 501 _ _ (by subst hI13 hI12 hI11; simp (disch := decide) only [ow_u_k, ow_u_s]; exact h1) (by subst hI13 hI12 hI11; simp (disch := decide) only [ow_u_k, ow_u_s]; exact h1b) (by subst hI13 hI12 hI11; simp (disch := decide) only [ow_u_k, ow_u_s]; exact h3) (by subst hI13 hI12 hI11; simp (disch := decide) only [ow_u_k, ow_u_s]; exact h3b) (by decide) (by omega) hk)
              rfl
            · replace hk := ite_p (P := fun r : ow_I => K none (S, r, V, z)) q84 hk
              refine or_iconst (v := nI 1) E rfl dX5_advance_87 ?_
              refine or_goto 92 E dX5_advance_88 rfl ?_
              refine or_istore_n E dX5_advance_92 (by decide) ?_
              refine or_lv _ ?_ (L93 501 _ _ (by subst hI13 hI12 hI11; simp (disch := decide) only [ow_u_k, ow_u_s]; exact h1) (by subst hI13 hI12 hI11; simp (disch := decide) only [ow_u_k, ow_u_s]; exact h1b) (by subst hI13 hI12 hI11; simp (disch := decide) only [ow_u_k, ow_u_s]; exact h3) (by subst hI13 hI12 hI11; simp (disch := decide) only [ow_u_k, ow_u_s]; exact h3b) (by decide) (by omega) hk)
              rfl
        · replace hk := ite_p (P := fun r : ow_I => K none (S, r, V, z)) q30 hk
          refine or_aload_n E rfl dX5_advance_33 ?_
          refine or_dup E rfl dX5_advance_34 ?_
          refine ot_getI E fl_5_36 dX5_advance_35 h_u.1 rfl ?_
          refine or_iconst (v := nI 1) E rfl dX5_advance_38 ?_
          refine or_iadd E dX5_advance_39 ?_
          refine ot_putI E fl_5_36 fw_5_3 dX5_advance_40 h_u.1 rfl ?_
          obtain ⟨I14, hI14⟩ : ∃ y_ : ow_I, y_ = ow_u I u 3 (I u 3 + (nI 1)) := ⟨_, rfl⟩
          replace hk := lt_k (P := fun r : ow_I => K none (S, r, V, z)) hI14 hk
          refine or_nmI hI14 ?_
          refine or_goto 8 E dX5_advance_43 rfl ?_
          refine or_lv _ ?_ (ih _  (by subst hI14; simp (disch := decide) only [ow_u_k, ow_u_s]; exact h1) (by subst hI14; simp (disch := decide) only [ow_u_k, ow_u_s]; exact h1b) (by subst hI14; simp (disch := decide) only [ow_u_k, ow_u_s]; exact (tn_inc h3 (by omega)).1) (by subst hI14; simp (disch := decide) only [ow_u_k, ow_u_s]; rw [(tn_inc h3 (by omega)).2]; omega) (by subst hI14; simp (disch := decide) only [ow_u_k, ow_u_s]; rw [(tn_inc h3 (by omega)).2]; omega) hk)
          rfl
  dsimp only [U_advance] at hk
  refine or_aload_n E rfl dX5_advance_0 ?_
  refine or_aload_n E rfl dX5_advance_1 ?_
  refine ot_getI E fl_5_29 dX5_advance_2 h_u.1 rfl ?_
  refine ot_putI E fl_5_36 fw_5_3 dX5_advance_5 h_u.1 rfl ?_
  obtain ⟨I1, hI1⟩ : ∃ y_ : ow_I, y_ = ow_u I u 3 (I u 4) := ⟨_, rfl⟩
  replace hk := lt_k (P := fun r : ow_I => K none (S, r, V, z)) hI1 hk
  refine or_nmI hI1 ?_
  refine or_lv _ ?_ (L8 501 _  (by subst hI1; simp (disch := decide) only [ow_u_k, ow_u_s]; exact h1) (by subst hI1; simp (disch := decide) only [ow_u_k, ow_u_s]; exact h1b) (by subst hI1; simp (disch := decide) only [ow_u_k, ow_u_s]; exact h4) (by subst hI1; simp (disch := decide) only [ow_u_k, ow_u_s]; exact h4b) (by omega) hk)
  rfl
def U_restart (u : Nat) (I : ow_I) : ow_I :=
  lt (ow_u I u 4 (nI 0)) (fun (I1 : ow_I) => lt (U_advance u I1) (fun (I2 : ow_I) => I2))
set_option maxRecDepth 100000 in
set_option maxHeartbeats 400000 in
theorem cU_restart {S : Nat → Option ow_Sh} {I : ow_I} {V : Nat → Nat → Value} {z : Nat} {u : Nat} (h_u : in_S S u) (h1 : 0 ≤ I u 1) (h1b : tn (I u 1) ≤ 500) : ow_Cf yX5_restart cX5_restart 1 none 2 [.ref u] (S, I, V, z) none (S, U_restart u I, V, z) := by
  refine ow_Cf.of rfl (Nat.le_of_ble_eq_true rfl) (fun X K E F hk => ?_)
  have E : ow_E X RX5 cX5_restart 1 (ow_rm 2 0 0) := E
  refine or_lv [(0, .ref u)] rfl ?_
  dsimp only [U_restart] at hk
  refine or_aload_n E rfl dX5_restart_0 ?_
  refine or_iconst (v := nI 0) E rfl dX5_restart_1 ?_
  refine ot_putI E fl_5_29 fw_5_4 dX5_restart_2 h_u.1 rfl ?_
  obtain ⟨I1, hI1⟩ : ∃ y_ : ow_I, y_ = ow_u I u 4 (nI 0) := ⟨_, rfl⟩
  replace hk := lt_k (P := fun r : ow_I => K none (S, r, V, z)) hI1 hk
  refine or_nmI hI1 ?_
  refine or_aload_n E rfl dX5_restart_5 ?_
  refine or_cV0v (cU_advance  h_u (by subst hI1; simp (disch := decide) only [ow_u_k, ow_u_s]; exact h1) (by subst hI1; simp (disch := decide) only [ow_u_k, ow_u_s]; exact h1b) (by subst hI1; simp (disch := decide) only [ow_u_k, ow_u_s]; decide) (by subst hI1; simp (disch := decide) only [ow_u_k, ow_u_s]; decide)) E lk_5_33 dX5_restart_6 h_u.1 rfl rfl (by decide) (by decide) ⟨Nat.le_refl _, Nat.le_refl _⟩ (Nat.le_of_ble_eq_true rfl) ?_
  obtain ⟨I2, hI2⟩ : ∃ y_ : ow_I, y_ = U_advance u I1 := ⟨_, rfl⟩
  replace hk := lt_k (P := fun r : ow_I => K none (S, r, V, z)) hI2 hk
  refine or_nmI hI2 ?_
  exact or_vret E F dX5_restart_9 (Nat.le_refl _) (Nat.le_refl _) hk
end
