-- ===== PART A: goes FIRST, ahead of the names: the tables' words, and 'selects' of the private methods out of them =====
/-- a private method of a class that the tables say can be made, by its rows of tables_1 -/
def lw_okq (q : MethodName × Nat) : Prop := (q.1.cls ≠ "java/lang/invoke/MethodHandle" ∧ q.1.cls ≠ "java/lang/invoke/VarHandle") ∧ Cond.instantiable q.1.cls q.2 ∈ tables_1 ∧ Cond.privateMethod q.1 ∈ tables_1 ∧ Cond.instanceMethod q.1 ∈ tables_1
theorem lw_p0 : lw_okq (⟨"EscheatLots", "draft", "()V"⟩, 6) := ⟨⟨by decide +kernel, by decide +kernel⟩, List.mem_of_getElem? (i := 10) (by decide +kernel), List.mem_of_getElem? (i := 259) (by decide +kernel), List.mem_of_getElem? (i := 260) (by decide +kernel)⟩
theorem lw_p1 : lw_okq (⟨"EscheatLots", "recorded", "(I)I"⟩, 6) := ⟨⟨by decide +kernel, by decide +kernel⟩, List.mem_of_getElem? (i := 10) (by decide +kernel), List.mem_of_getElem? (i := 263) (by decide +kernel), List.mem_of_getElem? (i := 264) (by decide +kernel)⟩
theorem lw_p2 : lw_okq (⟨"EscheatLots", "dropOldest", "()V"⟩, 6) := ⟨⟨by decide +kernel, by decide +kernel⟩, List.mem_of_getElem? (i := 10) (by decide +kernel), List.mem_of_getElem? (i := 267) (by decide +kernel), List.mem_of_getElem? (i := 268) (by decide +kernel)⟩
theorem lw_p3 : lw_okq (⟨"EscheatLots$Office", "purse", "(I)I"⟩, 7) := ⟨⟨by decide +kernel, by decide +kernel⟩, List.mem_of_getElem? (i := 18) (by decide +kernel), List.mem_of_getElem? (i := 332) (by decide +kernel), List.mem_of_getElem? (i := 333) (by decide +kernel)⟩
theorem lw_p4 : lw_okq (⟨"EscheatLots$Office", "idleDays", "(I)I"⟩, 7) := ⟨⟨by decide +kernel, by decide +kernel⟩, List.mem_of_getElem? (i := 18) (by decide +kernel), List.mem_of_getElem? (i := 380) (by decide +kernel), List.mem_of_getElem? (i := 381) (by decide +kernel)⟩
theorem lw_p5 : lw_okq (⟨"EscheatLots$Office", "daysToLapse", "(I)I"⟩, 7) := ⟨⟨by decide +kernel, by decide +kernel⟩, List.mem_of_getElem? (i := 18) (by decide +kernel), List.mem_of_getElem? (i := 385) (by decide +kernel), List.mem_of_getElem? (i := 386) (by decide +kernel)⟩
theorem lw_p6 : lw_okq (⟨"EscheatLots$Office", "lapsesAhead", "(II)Z"⟩, 7) := ⟨⟨by decide +kernel, by decide +kernel⟩, List.mem_of_getElem? (i := 18) (by decide +kernel), List.mem_of_getElem? (i := 416) (by decide +kernel), List.mem_of_getElem? (i := 417) (by decide +kernel)⟩
theorem lw_p7 : lw_okq (⟨"EscheatLots$Office", "canBeClaimed", "(I)Z"⟩, 7) := ⟨⟨by decide +kernel, by decide +kernel⟩, List.mem_of_getElem? (i := 18) (by decide +kernel), List.mem_of_getElem? (i := 462) (by decide +kernel), List.mem_of_getElem? (i := 463) (by decide +kernel)⟩
theorem lw_p8 : lw_okq (⟨"EscheatLots$Office", "coinsToShare", "(I)I"⟩, 7) := ⟨⟨by decide +kernel, by decide +kernel⟩, List.mem_of_getElem? (i := 18) (by decide +kernel), List.mem_of_getElem? (i := 507) (by decide +kernel), List.mem_of_getElem? (i := 508) (by decide +kernel)⟩
theorem lw_p9 : lw_okq (⟨"EscheatLots$Office", "settleClaim", "(II)V"⟩, 7) := ⟨⟨by decide +kernel, by decide +kernel⟩, List.mem_of_getElem? (i := 18) (by decide +kernel), List.mem_of_getElem? (i := 519) (by decide +kernel), List.mem_of_getElem? (i := 520) (by decide +kernel)⟩
theorem lw_p10 : lw_okq (⟨"EscheatLots$Office", "leaveOffice", "(II)V"⟩, 7) := ⟨⟨by decide +kernel, by decide +kernel⟩, List.mem_of_getElem? (i := 18) (by decide +kernel), List.mem_of_getElem? (i := 523) (by decide +kernel), List.mem_of_getElem? (i := 524) (by decide +kernel)⟩
theorem lw_p11 : lw_okq (⟨"EscheatLots$Office", "passDay", "()I"⟩, 7) := ⟨⟨by decide +kernel, by decide +kernel⟩, List.mem_of_getElem? (i := 18) (by decide +kernel), List.mem_of_getElem? (i := 535) (by decide +kernel), List.mem_of_getElem? (i := 536) (by decide +kernel)⟩
theorem lw_p12 : lw_okq (⟨"EscheatLots$Claims", "waitLonger", "(II)V"⟩, 8) := ⟨⟨by decide +kernel, by decide +kernel⟩, List.mem_of_getElem? (i := 53) (by decide +kernel), List.mem_of_getElem? (i := 544) (by decide +kernel), List.mem_of_getElem? (i := 545) (by decide +kernel)⟩
theorem lw_p13 : lw_okq (⟨"EscheatLots$Office", "countDay", "(I)I"⟩, 7) := ⟨⟨by decide +kernel, by decide +kernel⟩, List.mem_of_getElem? (i := 18) (by decide +kernel), List.mem_of_getElem? (i := 549) (by decide +kernel), List.mem_of_getElem? (i := 550) (by decide +kernel)⟩
theorem lw_p14 : lw_okq (⟨"EscheatLots$Pad", "readFirst", "()Z"⟩, 7) := ⟨⟨by decide +kernel, by decide +kernel⟩, List.mem_of_getElem? (i := 126) (by decide +kernel), List.mem_of_getElem? (i := 581) (by decide +kernel), List.mem_of_getElem? (i := 582) (by decide +kernel)⟩
theorem lw_p15 : lw_okq (⟨"EscheatLots$Pad", "readNumber", "()I"⟩, 7) := ⟨⟨by decide +kernel, by decide +kernel⟩, List.mem_of_getElem? (i := 126) (by decide +kernel), List.mem_of_getElem? (i := 585) (by decide +kernel), List.mem_of_getElem? (i := 586) (by decide +kernel)⟩
def lw_privs_1 : List (MethodName × Nat) := [(⟨"EscheatLots", "draft", "()V"⟩, 6), (⟨"EscheatLots", "recorded", "(I)I"⟩, 6), (⟨"EscheatLots", "dropOldest", "()V"⟩, 6), (⟨"EscheatLots$Office", "purse", "(I)I"⟩, 7), (⟨"EscheatLots$Office", "idleDays", "(I)I"⟩, 7), (⟨"EscheatLots$Office", "daysToLapse", "(I)I"⟩, 7), (⟨"EscheatLots$Office", "lapsesAhead", "(II)Z"⟩, 7), (⟨"EscheatLots$Office", "canBeClaimed", "(I)Z"⟩, 7), (⟨"EscheatLots$Office", "coinsToShare", "(I)I"⟩, 7), (⟨"EscheatLots$Office", "settleClaim", "(II)V"⟩, 7), (⟨"EscheatLots$Office", "leaveOffice", "(II)V"⟩, 7), (⟨"EscheatLots$Office", "passDay", "()I"⟩, 7), (⟨"EscheatLots$Claims", "waitLonger", "(II)V"⟩, 8), (⟨"EscheatLots$Office", "countDay", "(I)I"⟩, 7), (⟨"EscheatLots$Pad", "readFirst", "()Z"⟩, 7), (⟨"EscheatLots$Pad", "readNumber", "()I"⟩, 7)]
theorem lw_r1 : ∀ q ∈ lw_privs_1, lw_okq q := List.forall_mem_cons.mpr ⟨lw_p0, List.forall_mem_cons.mpr ⟨lw_p1, List.forall_mem_cons.mpr ⟨lw_p2, List.forall_mem_cons.mpr ⟨lw_p3, List.forall_mem_cons.mpr ⟨lw_p4, List.forall_mem_cons.mpr ⟨lw_p5, List.forall_mem_cons.mpr ⟨lw_p6, List.forall_mem_cons.mpr ⟨lw_p7, List.forall_mem_cons.mpr ⟨lw_p8, List.forall_mem_cons.mpr ⟨lw_p9, List.forall_mem_cons.mpr ⟨lw_p10, List.forall_mem_cons.mpr ⟨lw_p11, List.forall_mem_cons.mpr ⟨lw_p12, List.forall_mem_cons.mpr ⟨lw_p13, List.forall_mem_cons.mpr ⟨lw_p14, List.forall_mem_cons.mpr ⟨lw_p15, fun _ h => absurd h List.not_mem_nil⟩⟩⟩⟩⟩⟩⟩⟩⟩⟩⟩⟩⟩⟩⟩⟩
theorem lw_p16 : lw_okq (⟨"EscheatLots$Pad", "readDigit", "()I"⟩, 7) := ⟨⟨by decide +kernel, by decide +kernel⟩, List.mem_of_getElem? (i := 126) (by decide +kernel), List.mem_of_getElem? (i := 589) (by decide +kernel), List.mem_of_getElem? (i := 590) (by decide +kernel)⟩
theorem lw_p17 : lw_okq (⟨"EscheatLots$Pad", "readSecond", "()Z"⟩, 7) := ⟨⟨by decide +kernel, by decide +kernel⟩, List.mem_of_getElem? (i := 126) (by decide +kernel), List.mem_of_getElem? (i := 597) (by decide +kernel), List.mem_of_getElem? (i := 598) (by decide +kernel)⟩
theorem lw_p18 : lw_okq (⟨"EscheatLots$Pad", "readThird", "()Z"⟩, 7) := ⟨⟨by decide +kernel, by decide +kernel⟩, List.mem_of_getElem? (i := 126) (by decide +kernel), List.mem_of_getElem? (i := 601) (by decide +kernel), List.mem_of_getElem? (i := 602) (by decide +kernel)⟩
theorem lw_p19 : lw_okq (⟨"EscheatLots", "carryOutOrder", "()I"⟩, 6) := ⟨⟨by decide +kernel, by decide +kernel⟩, List.mem_of_getElem? (i := 10) (by decide +kernel), List.mem_of_getElem? (i := 606) (by decide +kernel), List.mem_of_getElem? (i := 607) (by decide +kernel)⟩
def lw_privs_2 : List (MethodName × Nat) := [(⟨"EscheatLots$Pad", "readDigit", "()I"⟩, 7), (⟨"EscheatLots$Pad", "readSecond", "()Z"⟩, 7), (⟨"EscheatLots$Pad", "readThird", "()Z"⟩, 7), (⟨"EscheatLots", "carryOutOrder", "()I"⟩, 6)]
theorem lw_r2 : ∀ q ∈ lw_privs_2, lw_okq q := List.forall_mem_cons.mpr ⟨lw_p16, List.forall_mem_cons.mpr ⟨lw_p17, List.forall_mem_cons.mpr ⟨lw_p18, List.forall_mem_cons.mpr ⟨lw_p19, fun _ h => absurd h List.not_mem_nil⟩⟩⟩⟩
def lw_privs : List (MethodName × Nat) := lw_privs_1 ++ (lw_privs_2)
def lw_tbl : List Cond := k2_sels lw_privs ++ tables_1
theorem lw_privs_ok : ∀ q ∈ lw_privs, lw_okq q := by
  show ∀ q ∈ lw_privs_1 ++ (lw_privs_2), lw_okq q
  exact List.forall_mem_append.mpr ⟨lw_r1, lw_r2⟩
-- ===== end of PART A; then your names; then what follows =====
def RX0 : String := "EscheatLots$Claims"
def TX0 : u_T := fun k => match k with
  | 0 => ("EscheatLots$Claims", "count", "I", false)
  | 1 => ("EscheatLots$Claims", "heir", "[I", true)
  | 2 => ("EscheatLots$Claims", "lot", "[I", true)
  | 3 => ("EscheatLots$Claims", "line", "[I", true)
  | 4 => ("EscheatLots$Claims", "proof", "[I", true)
  | 5 => ("EscheatLots$Claims", "state", "[I", true)
  | 6 => ("EscheatLots$Claims", "waited", "[I", true)
  | _ => ("EscheatLots$Claims", "brought", "[I", true)
def tyX0 : Nat → FieldType := fun k => match k with
  | 0 => .int
  | 1 => .array .int
  | 2 => .array .int
  | 3 => .array .int
  | 4 => .array .int
  | 5 => .array .int
  | 6 => .array .int
  | _ => .array .int
abbrev wsX00 : List Cond := u_ws RX0 TX0 8
theorem nmX0 : ∀ a, a < 8 → ∀ b, b < 8 → a ≠ b → (TX0 a).2.1 ≠ (TX0 b).2.1 := by decide +kernel
theorem tyX0_ok : ∀ k, k < 8 → parseFieldDescriptor (TX0 k).2.2.1 = some (tyX0 k) := by decide +kernel
abbrev cX0_init : ByteArray := prog_2_method_1_code
def yX0_init : MethodName := ⟨RX0, "<init>", "()V"⟩
abbrev cX0_become : ByteArray := prog_2_method_2_code
def yX0_become : MethodName := ⟨RX0, "become", "(LEscheatLots$Claims;)V"⟩
abbrev cX0_exists : ByteArray := prog_2_method_3_code
def yX0_exists : MethodName := ⟨RX0, "exists", "(I)Z"⟩
abbrev cX0_isOpen : ByteArray := prog_2_method_4_code
def yX0_isOpen : MethodName := ⟨RX0, "isOpen", "(I)Z"⟩
abbrev cX0_stands : ByteArray := prog_2_method_5_code
def yX0_stands : MethodName := ⟨RX0, "stands", "(I)Z"⟩
abbrev cX0_all : ByteArray := prog_2_method_6_code
def yX0_all : MethodName := ⟨RX0, "all", "()I"⟩
abbrev cX0_inState : ByteArray := prog_2_method_7_code
def yX0_inState : MethodName := ⟨RX0, "inState", "(I)I"⟩
abbrev cX0_standing : ByteArray := prog_2_method_8_code
def yX0_standing : MethodName := ⟨RX0, "standing", "()I"⟩
abbrev cX0_ofHeir : ByteArray := prog_2_method_9_code
def yX0_ofHeir : MethodName := ⟨RX0, "ofHeir", "(I)I"⟩
abbrev cX0_toLot : ByteArray := prog_2_method_10_code
def yX0_toLot : MethodName := ⟨RX0, "toLot", "(I)I"⟩
abbrev cX0_openTo : ByteArray := prog_2_method_11_code
def yX0_openTo : MethodName := ⟨RX0, "openTo", "(I)I"⟩
abbrev cX0_upheldTo : ByteArray := prog_2_method_12_code
def yX0_upheldTo : MethodName := ⟨RX0, "upheldTo", "(I)I"⟩
abbrev cX0_standingTo : ByteArray := prog_2_method_13_code
def yX0_standingTo : MethodName := ⟨RX0, "standingTo", "(I)I"⟩
abbrev cX0_thatBrought : ByteArray := prog_2_method_14_code
def yX0_thatBrought : MethodName := ⟨RX0, "thatBrought", "()I"⟩
abbrev cX0_nearestLine : ByteArray := prog_2_method_15_code
def yX0_nearestLine : MethodName := ⟨RX0, "nearestLine", "(I)I"⟩
abbrev cX0_nearest : ByteArray := prog_2_method_16_code
def yX0_nearest : MethodName := ⟨RX0, "nearest", "(I)I"⟩
abbrev cX0_waitOneDay : ByteArray := prog_2_method_17_code
def yX0_waitOneDay : MethodName := ⟨RX0, "waitOneDay", "(I)I"⟩
abbrev cX0_waitLonger : ByteArray := prog_2_method_18_code
def yX0_waitLonger : MethodName := ⟨RX0, "waitLonger", "(II)V"⟩
def RX1 : String := "EscheatLots$Lots"
def TX1 : u_T := fun k => match k with
  | 0 => ("EscheatLots$Lots", "count", "I", false)
  | 1 => ("EscheatLots$Lots", "value", "[I", true)
  | 2 => ("EscheatLots$Lots", "state", "[I", true)
  | 3 => ("EscheatLots$Lots", "counted", "[I", true)
  | _ => ("EscheatLots$Lots", "since", "[I", true)
def tyX1 : Nat → FieldType := fun k => match k with
  | 0 => .int
  | 1 => .array .int
  | 2 => .array .int
  | 3 => .array .int
  | _ => .array .int
abbrev wsX10 : List Cond := u_ws RX1 TX1 5
theorem nmX1 : ∀ a, a < 5 → ∀ b, b < 5 → a ≠ b → (TX1 a).2.1 ≠ (TX1 b).2.1 := by decide +kernel
theorem tyX1_ok : ∀ k, k < 5 → parseFieldDescriptor (TX1 k).2.2.1 = some (tyX1 k) := by decide +kernel
abbrev cX1_init : ByteArray := prog_3_method_1_code
def yX1_init : MethodName := ⟨RX1, "<init>", "()V"⟩
abbrev cX1_become : ByteArray := prog_3_method_2_code
def yX1_become : MethodName := ⟨RX1, "become", "(LEscheatLots$Lots;)V"⟩
abbrev cX1_exists : ByteArray := prog_3_method_3_code
def yX1_exists : MethodName := ⟨RX1, "exists", "(I)Z"⟩
abbrev cX1_all : ByteArray := prog_3_method_4_code
def yX1_all : MethodName := ⟨RX1, "all", "()I"⟩
abbrev cX1_inState : ByteArray := prog_3_method_5_code
def yX1_inState : MethodName := ⟨RX1, "inState", "(I)I"⟩
abbrev cX1_isOver : ByteArray := prog_3_method_6_code
def yX1_isOver : MethodName := ⟨RX1, "isOver", "(I)Z"⟩
def RX2 : String := "EscheatLots$Office"
def TX2 : u_T := fun k => match k with
  | 0 => ("EscheatLots$Office", "settings", "[I", true)
  | 1 => ("EscheatLots$Office", "lots", "LEscheatLots$Lots;", true)
  | 2 => ("EscheatLots$Office", "claims", "LEscheatLots$Claims;", true)
  | 3 => ("EscheatLots$Office", "paidOrder", "[I", true)
  | 4 => ("EscheatLots$Office", "paidHeirs", "I", false)
  | 5 => ("EscheatLots$Office", "crown", "I", false)
  | _ => ("EscheatLots$Office", "day", "I", false)
def tyX2 : Nat → FieldType := fun k => match k with
  | 0 => .array .int
  | 1 => .object "EscheatLots$Lots"
  | 2 => .object "EscheatLots$Claims"
  | 3 => .array .int
  | 4 => .int
  | 5 => .int
  | _ => .int
abbrev wsX20 : List Cond := u_ws RX2 TX2 7
theorem nmX2 : ∀ a, a < 7 → ∀ b, b < 7 → a ≠ b → (TX2 a).2.1 ≠ (TX2 b).2.1 := by decide +kernel
theorem tyX2_ok : ∀ k, k < 7 → parseFieldDescriptor (TX2 k).2.2.1 = some (tyX2 k) := by decide +kernel
abbrev cX2_init : ByteArray := prog_4_method_1_code
def yX2_init : MethodName := ⟨RX2, "<init>", "()V"⟩
abbrev cX2_become : ByteArray := prog_4_method_2_code
def yX2_become : MethodName := ⟨RX2, "become", "(LEscheatLots$Office;)V"⟩
abbrev cX2_isHeir : ByteArray := prog_4_method_3_code
def yX2_isHeir : MethodName := ⟨RX2, "isHeir", "(I)Z"⟩
abbrev cX2_changeSetting : ByteArray := prog_4_method_4_code
def yX2_changeSetting : MethodName := ⟨RX2, "changeSetting", "(II)I"⟩
abbrev cX2_addLot : ByteArray := prog_4_method_5_code
def yX2_addLot : MethodName := ⟨RX2, "addLot", "(I)I"⟩
abbrev cX2_giveNotice : ByteArray := prog_4_method_6_code
def yX2_giveNotice : MethodName := ⟨RX2, "giveNotice", "(I)I"⟩
abbrev cX2_addClaim : ByteArray := prog_4_method_7_code
def yX2_addClaim : MethodName := ⟨RX2, "addClaim", "(III)I"⟩
abbrev cX2_canBeClaimed : ByteArray := prog_4_method_8_code
def yX2_canBeClaimed : MethodName := ⟨RX2, "canBeClaimed", "(I)Z"⟩
abbrev cX2_addProof : ByteArray := prog_4_method_9_code
def yX2_addProof : MethodName := ⟨RX2, "addProof", "(II)I"⟩
abbrev cX2_judge : ByteArray := prog_4_method_10_code
def yX2_judge : MethodName := ⟨RX2, "judge", "(I)I"⟩
abbrev cX2_takeBack : ByteArray := prog_4_method_11_code
def yX2_takeBack : MethodName := ⟨RX2, "takeBack", "(I)I"⟩
abbrev cX2_shareOut : ByteArray := prog_4_method_12_code
def yX2_shareOut : MethodName := ⟨RX2, "shareOut", "(I)I"⟩
abbrev cX2_coinsToShare : ByteArray := prog_4_method_13_code
def yX2_coinsToShare : MethodName := ⟨RX2, "coinsToShare", "(I)I"⟩
abbrev cX2_part : ByteArray := prog_4_method_14_code
def yX2_part : MethodName := ⟨RX2, "part", "(III)I"⟩
abbrev cX2_settleClaim : ByteArray := prog_4_method_15_code
def yX2_settleClaim : MethodName := ⟨RX2, "settleClaim", "(II)V"⟩
abbrev cX2_leaveOffice : ByteArray := prog_4_method_16_code
def yX2_leaveOffice : MethodName := ⟨RX2, "leaveOffice", "(II)V"⟩
abbrev cX2_passDays : ByteArray := prog_4_method_17_code
def yX2_passDays : MethodName := ⟨RX2, "passDays", "(I)I"⟩
abbrev cX2_passDay : ByteArray := prog_4_method_18_code
def yX2_passDay : MethodName := ⟨RX2, "passDay", "()I"⟩
abbrev cX2_countDay : ByteArray := prog_4_method_19_code
def yX2_countDay : MethodName := ⟨RX2, "countDay", "(I)I"⟩
abbrev cX2_aboutLot : ByteArray := prog_4_method_20_code
def yX2_aboutLot : MethodName := ⟨RX2, "aboutLot", "(II)I"⟩
abbrev cX2_aboutClaim : ByteArray := prog_4_method_21_code
def yX2_aboutClaim : MethodName := ⟨RX2, "aboutClaim", "(II)I"⟩
abbrev cX2_aboutHeir : ByteArray := prog_4_method_22_code
def yX2_aboutHeir : MethodName := ⟨RX2, "aboutHeir", "(II)I"⟩
abbrev cX2_purse : ByteArray := prog_4_method_23_code
def yX2_purse : MethodName := ⟨RX2, "purse", "(I)I"⟩
abbrev cX2_heirPaid : ByteArray := prog_4_method_24_code
def yX2_heirPaid : MethodName := ⟨RX2, "heirPaid", "(I)I"⟩
abbrev cX2_number : ByteArray := prog_4_method_25_code
def yX2_number : MethodName := ⟨RX2, "number", "(I)I"⟩
abbrev cX2_whyNot : ByteArray := prog_4_method_26_code
def yX2_whyNot : MethodName := ⟨RX2, "whyNot", "(I)I"⟩
abbrev cX2_daysToFall : ByteArray := prog_4_method_27_code
def yX2_daysToFall : MethodName := ⟨RX2, "daysToFall", "(I)I"⟩
abbrev cX2_idleDays : ByteArray := prog_4_method_28_code
def yX2_idleDays : MethodName := ⟨RX2, "idleDays", "(I)I"⟩
abbrev cX2_daysToLapse : ByteArray := prog_4_method_29_code
def yX2_daysToLapse : MethodName := ⟨RX2, "daysToLapse", "(I)I"⟩
abbrev cX2_wouldGet : ByteArray := prog_4_method_30_code
def yX2_wouldGet : MethodName := ⟨RX2, "wouldGet", "(III)I"⟩
abbrev cX2_firstFall : ByteArray := prog_4_method_31_code
def yX2_firstFall : MethodName := ⟨RX2, "firstFall", "(I)I"⟩
abbrev cX2_firstLapse : ByteArray := prog_4_method_32_code
def yX2_firstLapse : MethodName := ⟨RX2, "firstLapse", "(I)I"⟩
abbrev cX2_lapsesAhead : ByteArray := prog_4_method_33_code
def yX2_lapsesAhead : MethodName := ⟨RX2, "lapsesAhead", "(II)Z"⟩
def RX3 : String := "EscheatLots$Pad"
def TX3 : u_T := fun k => match k with
  | 0 => ("EscheatLots$Pad", "text", "[C", true)
  | 1 => ("EscheatLots$Pad", "length", "I", false)
  | 2 => ("EscheatLots$Pad", "at", "I", false)
  | 3 => ("EscheatLots$Pad", "kind", "C", false)
  | 4 => ("EscheatLots$Pad", "first", "I", false)
  | 5 => ("EscheatLots$Pad", "second", "I", false)
  | _ => ("EscheatLots$Pad", "third", "I", false)
def tyX3 : Nat → FieldType := fun k => match k with
  | 0 => .array .char
  | 1 => .int
  | 2 => .int
  | 3 => .char
  | 4 => .int
  | 5 => .int
  | _ => .int
abbrev wsX30 : List Cond := u_ws RX3 TX3 7
theorem nmX3 : ∀ a, a < 7 → ∀ b, b < 7 → a ≠ b → (TX3 a).2.1 ≠ (TX3 b).2.1 := by decide +kernel
theorem tyX3_ok : ∀ k, k < 7 → parseFieldDescriptor (TX3 k).2.2.1 = some (tyX3 k) := by decide +kernel
abbrev cX3_init : ByteArray := prog_5_method_1_code
def yX3_init : MethodName := ⟨RX3, "<init>", "()V"⟩
abbrev cX3_empty : ByteArray := prog_5_method_5_code
def yX3_empty : MethodName := ⟨RX3, "empty", "()I"⟩
abbrev cX3_firstFault : ByteArray := prog_5_method_6_code
def yX3_firstFault : MethodName := ⟨RX3, "firstFault", "()I"⟩
abbrev cX3_readOrder : ByteArray := prog_5_method_7_code
def yX3_readOrder : MethodName := ⟨RX3, "readOrder", "()Z"⟩
abbrev cX3_readFirst : ByteArray := prog_5_method_8_code
def yX3_readFirst : MethodName := ⟨RX3, "readFirst", "()Z"⟩
abbrev cX3_readSecond : ByteArray := prog_5_method_9_code
def yX3_readSecond : MethodName := ⟨RX3, "readSecond", "()Z"⟩
abbrev cX3_readThird : ByteArray := prog_5_method_10_code
def yX3_readThird : MethodName := ⟨RX3, "readThird", "()Z"⟩
abbrev cX3_readSign : ByteArray := prog_5_method_11_code
def yX3_readSign : MethodName := ⟨RX3, "readSign", "(C)Z"⟩
abbrev cX3_readNumber : ByteArray := prog_5_method_12_code
def yX3_readNumber : MethodName := ⟨RX3, "readNumber", "()I"⟩
abbrev cX3_readDigit : ByteArray := prog_5_method_13_code
def yX3_readDigit : MethodName := ⟨RX3, "readDigit", "()I"⟩
def RX4 : String := "EscheatLots"
def TX4 : u_T := fun k => match k with
  | 0 => ("EscheatLots", "office", "LEscheatLots$Office;", true)
  | 1 => ("EscheatLots", "pad", "LEscheatLots$Pad;", true)
  | 2 => ("EscheatLots", "history", "[LEscheatLots$Office;", true)
  | 3 => ("EscheatLots", "changes", "I", false)
  | 4 => ("EscheatLots", "slots", "[LEscheatLots$Office;", true)
  | _ => ("EscheatLots", "saved", "[Z", true)
def tyX4 : Nat → FieldType := fun k => match k with
  | 0 => .object "EscheatLots$Office"
  | 1 => .object "EscheatLots$Pad"
  | 2 => .array (.object "EscheatLots$Office")
  | 3 => .int
  | 4 => .array (.object "EscheatLots$Office")
  | _ => .array .boolean
abbrev wsX40 : List Cond := u_ws RX4 TX4 6
theorem nmX4 : ∀ a, a < 6 → ∀ b, b < 6 → a ≠ b → (TX4 a).2.1 ≠ (TX4 b).2.1 := by decide +kernel
theorem tyX4_ok : ∀ k, k < 6 → parseFieldDescriptor (TX4 k).2.2.1 = some (tyX4 k) := by decide +kernel
abbrev cX4_init : ByteArray := prog_1_method_1_code
def yX4_init : MethodName := ⟨RX4, "<init>", "()V"⟩
abbrev cX4_set : ByteArray := prog_1_method_2_code
def yX4_set : MethodName := ⟨RX4, "set", "(II)I"⟩
abbrev cX4_lot : ByteArray := prog_1_method_3_code
def yX4_lot : MethodName := ⟨RX4, "lot", "(I)I"⟩
abbrev cX4_notice : ByteArray := prog_1_method_4_code
def yX4_notice : MethodName := ⟨RX4, "notice", "(I)I"⟩
abbrev cX4_claim : ByteArray := prog_1_method_5_code
def yX4_claim : MethodName := ⟨RX4, "claim", "(III)I"⟩
abbrev cX4_prove : ByteArray := prog_1_method_6_code
def yX4_prove : MethodName := ⟨RX4, "prove", "(II)I"⟩
abbrev cX4_decide : ByteArray := prog_1_method_7_code
def yX4_decide : MethodName := ⟨RX4, "decide", "(I)I"⟩
abbrev cX4_withdraw : ByteArray := prog_1_method_8_code
def yX4_withdraw : MethodName := ⟨RX4, "withdraw", "(I)I"⟩
abbrev cX4_settle : ByteArray := prog_1_method_9_code
def yX4_settle : MethodName := ⟨RX4, "settle", "(I)I"⟩
abbrev cX4_pass : ByteArray := prog_1_method_10_code
def yX4_pass : MethodName := ⟨RX4, "pass", "(I)I"⟩
abbrev cX4_of : ByteArray := prog_1_method_11_code
def yX4_of : MethodName := ⟨RX4, "of", "(II)I"⟩
abbrev cX4_ofClaim : ByteArray := prog_1_method_12_code
def yX4_ofClaim : MethodName := ⟨RX4, "ofClaim", "(II)I"⟩
abbrev cX4_heir : ByteArray := prog_1_method_13_code
def yX4_heir : MethodName := ⟨RX4, "heir", "(II)I"⟩
abbrev cX4_paid : ByteArray := prog_1_method_14_code
def yX4_paid : MethodName := ⟨RX4, "paid", "(I)I"⟩
abbrev cX4_count : ByteArray := prog_1_method_15_code
def yX4_count : MethodName := ⟨RX4, "count", "(I)I"⟩
abbrev cX4_why : ByteArray := prog_1_method_16_code
def yX4_why : MethodName := ⟨RX4, "why", "(I)I"⟩
abbrev cX4_fallsIn : ByteArray := prog_1_method_17_code
def yX4_fallsIn : MethodName := ⟨RX4, "fallsIn", "(I)I"⟩
abbrev cX4_share : ByteArray := prog_1_method_18_code
def yX4_share : MethodName := ⟨RX4, "share", "(III)I"⟩
abbrev cX4_nextFall : ByteArray := prog_1_method_19_code
def yX4_nextFall : MethodName := ⟨RX4, "nextFall", "(I)I"⟩
abbrev cX4_nextLapse : ByteArray := prog_1_method_20_code
def yX4_nextLapse : MethodName := ⟨RX4, "nextLapse", "(I)I"⟩
abbrev cX4_wipe : ByteArray := prog_1_method_22_code
def yX4_wipe : MethodName := ⟨RX4, "wipe", "()I"⟩
abbrev cX4_fault : ByteArray := prog_1_method_23_code
def yX4_fault : MethodName := ⟨RX4, "fault", "()I"⟩
abbrev cX4_carryOut : ByteArray := prog_1_method_24_code
def yX4_carryOut : MethodName := ⟨RX4, "carryOut", "()I"⟩
abbrev cX4_carryOutOrder : ByteArray := prog_1_method_25_code
def yX4_carryOutOrder : MethodName := ⟨RX4, "carryOutOrder", "()I"⟩
abbrev cX4_undo : ByteArray := prog_1_method_26_code
def yX4_undo : MethodName := ⟨RX4, "undo", "()I"⟩
abbrev cX4_save : ByteArray := prog_1_method_27_code
def yX4_save : MethodName := ⟨RX4, "save", "(I)I"⟩
abbrev cX4_restore : ByteArray := prog_1_method_28_code
def yX4_restore : MethodName := ⟨RX4, "restore", "(I)I"⟩
abbrev cX4_draft : ByteArray := prog_1_method_29_code
def yX4_draft : MethodName := ⟨RX4, "draft", "()V"⟩
abbrev cX4_recorded : ByteArray := prog_1_method_30_code
def yX4_recorded : MethodName := ⟨RX4, "recorded", "(I)I"⟩
abbrev cX4_dropOldest : ByteArray := prog_1_method_31_code
def yX4_dropOldest : MethodName := ⟨RX4, "dropOldest", "()V"⟩
abbrev cX4_holds : ByteArray := prog_1_method_32_code
def yX4_holds : MethodName := ⟨RX4, "holds", "(II)Z"⟩
abbrev cX4_firstOnes : ByteArray := prog_1_method_33_code
def yX4_firstOnes : MethodName := ⟨RX4, "firstOnes", "(I)I"⟩
abbrev cX4_rowsWith : ByteArray := prog_1_method_34_code
def yX4_rowsWith : MethodName := ⟨RX4, "rowsWith", "([III)I"⟩
abbrev cX4_numbersIn : ByteArray := prog_1_method_35_code
def yX4_numbersIn : MethodName := ⟨RX4, "numbersIn", "([II)I"⟩
abbrev cX4_sum : ByteArray := prog_1_method_36_code
def yX4_sum : MethodName := ⟨RX4, "sum", "([II)I"⟩
abbrev cX4_copy : ByteArray := prog_1_method_37_code
def yX4_copy : MethodName := ⟨RX4, "copy", "([I[I)V"⟩
def RX5 : String := "EscheatLotsModel"
def TX5 : u_T := fun k => match k with
  | _ => ("", "", "", false)
def tyX5 : Nat → FieldType := fun k => match k with
  | _ => .int
abbrev wsX50 : List Cond := u_ws RX5 TX5 0
theorem nmX5 : ∀ a, a < 0 → ∀ b, b < 0 → a ≠ b → (TX5 a).2.1 ≠ (TX5 b).2.1 := by decide +kernel
theorem tyX5_ok : ∀ k, k < 0 → parseFieldDescriptor (TX5 k).2.2.1 = some (tyX5 k) := by decide +kernel
def RJ6 : String := "java/lang/Integer"
def TJ6 : u_T := fun k => match k with
  | _ => ("", "", "", false)
def tyJ6 : Nat → FieldType := fun k => match k with
  | _ => .int
abbrev wsJ60 : List Cond := u_ws RJ6 TJ6 0
theorem nmJ6 : ∀ a, a < 0 → ∀ b, b < 0 → a ≠ b → (TJ6 a).2.1 ≠ (TJ6 b).2.1 := by decide +kernel
theorem tyJ6_ok : ∀ k, k < 0 → parseFieldDescriptor (TJ6 k).2.2.1 = some (tyJ6 k) := by decide +kernel
abbrev cJ6_bitCount_0f7a4 : ByteArray := prog_8_method_49_code
def yJ6_bitCount_0f7a4 : MethodName := ⟨RJ6, "bitCount", "(I)I"⟩
def RJ9 : String := "java/lang/Math"
def TJ9 : u_T := fun k => match k with
  | _ => ("", "", "", false)
def tyJ9 : Nat → FieldType := fun k => match k with
  | _ => .int
abbrev wsJ90 : List Cond := u_ws RJ9 TJ9 0
theorem nmJ9 : ∀ a, a < 0 → ∀ b, b < 0 → a ≠ b → (TJ9 a).2.1 ≠ (TJ9 b).2.1 := by decide +kernel
theorem tyJ9_ok : ∀ k, k < 0 → parseFieldDescriptor (TJ9 k).2.2.1 = some (tyJ9 k) := by decide +kernel
abbrev cJ9_max_7cf53 : ByteArray := prog_9_method_65_code
def yJ9_max_7cf53 : MethodName := ⟨RJ9, "max", "(II)I"⟩
abbrev cJ9_min_7cf53 : ByteArray := prog_9_method_69_code
def yJ9_min_7cf53 : MethodName := ⟨RJ9, "min", "(II)I"⟩
def RJ10 : String := "java/lang/System"
def TJ10 : u_T := fun k => match k with
  | _ => ("", "", "", false)
def tyJ10 : Nat → FieldType := fun k => match k with
  | _ => .int
abbrev wsJ100 : List Cond := u_ws RJ10 TJ10 0
theorem nmJ10 : ∀ a, a < 0 → ∀ b, b < 0 → a ≠ b → (TJ10 a).2.1 ≠ (TJ10 b).2.1 := by decide +kernel
theorem tyJ10_ok : ∀ k, k < 0 → parseFieldDescriptor (TJ10 k).2.2.1 = some (tyJ10 k) := by decide +kernel
def RL : String := "EscheatLotsLaw"
abbrev cL_cell : ByteArray := method_2_code
def yL_cell : MethodName := ⟨RL, "cell", "([II)I"⟩
abbrev cL_seen : ByteArray := method_3_code
def yL_seen : MethodName := ⟨RL, "seen", "(LEscheatLots;)J"⟩
abbrev cL_areLots : ByteArray := method_4_code
def yL_areLots : MethodName := ⟨RL, "areLots", "(LEscheatLots;)Z"⟩
abbrev cL_areClaims : ByteArray := method_5_code
def yL_areClaims : MethodName := ⟨RL, "areClaims", "(LEscheatLots;)Z"⟩
abbrev cL_refusesAny : ByteArray := method_6_code
def yL_refusesAny : MethodName := ⟨RL, "refusesAny", "(LEscheatLots;I)Z"⟩
abbrev cL_refuses : ByteArray := method_7_code
def yL_refuses : MethodName := ⟨RL, "refuses", "(LEscheatLots;I)Z"⟩
abbrev cL_size : ByteArray := method_8_code
def yL_size : MethodName := ⟨RL, "size", "(I)I"⟩
abbrev cL_act : ByteArray := method_9_code
def yL_act : MethodName := ⟨RL, "act", "(LEscheatLots;I)I"⟩
abbrev cL_law : ByteArray := code
def yL_law : MethodName := ⟨RL, "law", "([I)Z"⟩
abbrev vwCl : List vw_C := [(RX0, TX0, 8), (RX1, TX1, 5), (RX2, TX2, 7), (RX3, TX3, 7), (RX4, TX4, 6)]
/-- the tables' words that stay; and those of nest mates -/
def TB : List Cond := lw_tbl.filter goodWord
def isNW : Cond → Bool
  | .methodLinkNest .. => true
  | .fieldLinkNest .. => true
  | _ => false
def NB : List Cond := lw_tbl.filter isNW
theorem tb_at (i : Nat) {w : Cond} (h : lw_tbl[i]? = some w) (hg : goodWord w = true) : w ∈ TB := List.mem_filter.mpr ⟨List.mem_of_getElem? h, hg⟩
theorem nb_at (i : Nat) {w : Cond} (h : lw_tbl[i]? = some w) (hg : isNW w = true) : w ∈ NB := List.mem_filter.mpr ⟨List.mem_of_getElem? h, hg⟩
