-- ===== PART A: goes FIRST, ahead of the names: the tables' words, and 'selects' of the private methods out of them =====
/-- a private method of a class that the tables say can be made, by its rows of tables_1 -/
def lw_okq (q : MethodName × Nat) : Prop := (q.1.cls ≠ "java/lang/invoke/MethodHandle" ∧ q.1.cls ≠ "java/lang/invoke/VarHandle") ∧ Cond.instantiable q.1.cls q.2 ∈ tables_1 ∧ Cond.privateMethod q.1 ∈ tables_1 ∧ Cond.instanceMethod q.1 ∈ tables_1
theorem lw_p0 : lw_okq (⟨"EscheatLots", "draft", "()V"⟩, 6) := ⟨⟨by decide +kernel, by decide +kernel⟩, List.mem_of_getElem? (i := 11) (by decide +kernel), List.mem_of_getElem? (i := 187) (by decide +kernel), List.mem_of_getElem? (i := 188) (by decide +kernel)⟩
theorem lw_p1 : lw_okq (⟨"EscheatLots", "recorded", "(I)I"⟩, 6) := ⟨⟨by decide +kernel, by decide +kernel⟩, List.mem_of_getElem? (i := 11) (by decide +kernel), List.mem_of_getElem? (i := 213) (by decide +kernel), List.mem_of_getElem? (i := 214) (by decide +kernel)⟩
theorem lw_p2 : lw_okq (⟨"EscheatLots", "dropOldest", "()V"⟩, 6) := ⟨⟨by decide +kernel, by decide +kernel⟩, List.mem_of_getElem? (i := 11) (by decide +kernel), List.mem_of_getElem? (i := 217) (by decide +kernel), List.mem_of_getElem? (i := 218) (by decide +kernel)⟩
theorem lw_p3 : lw_okq (⟨"EscheatLots$Office", "canBeClaimed", "(I)Z"⟩, 7) := ⟨⟨by decide +kernel, by decide +kernel⟩, List.mem_of_getElem? (i := 19) (by decide +kernel), List.mem_of_getElem? (i := 265) (by decide +kernel), List.mem_of_getElem? (i := 266) (by decide +kernel)⟩
theorem lw_p4 : lw_okq (⟨"EscheatLots$Office", "coinsToShare", "(I)I"⟩, 7) := ⟨⟨by decide +kernel, by decide +kernel⟩, List.mem_of_getElem? (i := 19) (by decide +kernel), List.mem_of_getElem? (i := 347) (by decide +kernel), List.mem_of_getElem? (i := 348) (by decide +kernel)⟩
theorem lw_p5 : lw_okq (⟨"EscheatLots$Office", "settleClaim", "(II)V"⟩, 7) := ⟨⟨by decide +kernel, by decide +kernel⟩, List.mem_of_getElem? (i := 19) (by decide +kernel), List.mem_of_getElem? (i := 366) (by decide +kernel), List.mem_of_getElem? (i := 367) (by decide +kernel)⟩
theorem lw_p6 : lw_okq (⟨"EscheatLots$Office", "purse", "(I)I"⟩, 7) := ⟨⟨by decide +kernel, by decide +kernel⟩, List.mem_of_getElem? (i := 19) (by decide +kernel), List.mem_of_getElem? (i := 370) (by decide +kernel), List.mem_of_getElem? (i := 371) (by decide +kernel)⟩
theorem lw_p7 : lw_okq (⟨"EscheatLots$Office", "leaveOffice", "(II)V"⟩, 7) := ⟨⟨by decide +kernel, by decide +kernel⟩, List.mem_of_getElem? (i := 19) (by decide +kernel), List.mem_of_getElem? (i := 378) (by decide +kernel), List.mem_of_getElem? (i := 379) (by decide +kernel)⟩
theorem lw_p8 : lw_okq (⟨"EscheatLots$Office", "passDay", "()I"⟩, 7) := ⟨⟨by decide +kernel, by decide +kernel⟩, List.mem_of_getElem? (i := 19) (by decide +kernel), List.mem_of_getElem? (i := 390) (by decide +kernel), List.mem_of_getElem? (i := 391) (by decide +kernel)⟩
theorem lw_p9 : lw_okq (⟨"EscheatLots$Claims", "waitLonger", "(II)V"⟩, 8) := ⟨⟨by decide +kernel, by decide +kernel⟩, List.mem_of_getElem? (i := 54) (by decide +kernel), List.mem_of_getElem? (i := 399) (by decide +kernel), List.mem_of_getElem? (i := 400) (by decide +kernel)⟩
theorem lw_p10 : lw_okq (⟨"EscheatLots$Office", "countDay", "(I)I"⟩, 7) := ⟨⟨by decide +kernel, by decide +kernel⟩, List.mem_of_getElem? (i := 19) (by decide +kernel), List.mem_of_getElem? (i := 404) (by decide +kernel), List.mem_of_getElem? (i := 405) (by decide +kernel)⟩
theorem lw_p11 : lw_okq (⟨"EscheatLots$Office", "idleDays", "(I)I"⟩, 7) := ⟨⟨by decide +kernel, by decide +kernel⟩, List.mem_of_getElem? (i := 19) (by decide +kernel), List.mem_of_getElem? (i := 487) (by decide +kernel), List.mem_of_getElem? (i := 488) (by decide +kernel)⟩
theorem lw_p12 : lw_okq (⟨"EscheatLots$Office", "daysToLapse", "(I)I"⟩, 7) := ⟨⟨by decide +kernel, by decide +kernel⟩, List.mem_of_getElem? (i := 19) (by decide +kernel), List.mem_of_getElem? (i := 491) (by decide +kernel), List.mem_of_getElem? (i := 492) (by decide +kernel)⟩
theorem lw_p13 : lw_okq (⟨"EscheatLots$Office", "lapsesAhead", "(II)Z"⟩, 7) := ⟨⟨by decide +kernel, by decide +kernel⟩, List.mem_of_getElem? (i := 19) (by decide +kernel), List.mem_of_getElem? (i := 523) (by decide +kernel), List.mem_of_getElem? (i := 524) (by decide +kernel)⟩
theorem lw_p14 : lw_okq (⟨"EscheatLots$Pad", "readFirst", "()Z"⟩, 7) := ⟨⟨by decide +kernel, by decide +kernel⟩, List.mem_of_getElem? (i := 127) (by decide +kernel), List.mem_of_getElem? (i := 561) (by decide +kernel), List.mem_of_getElem? (i := 562) (by decide +kernel)⟩
theorem lw_p15 : lw_okq (⟨"EscheatLots$Pad", "readNumber", "()I"⟩, 7) := ⟨⟨by decide +kernel, by decide +kernel⟩, List.mem_of_getElem? (i := 127) (by decide +kernel), List.mem_of_getElem? (i := 565) (by decide +kernel), List.mem_of_getElem? (i := 566) (by decide +kernel)⟩
def lw_privs_1 : List (MethodName × Nat) := [(⟨"EscheatLots", "draft", "()V"⟩, 6), (⟨"EscheatLots", "recorded", "(I)I"⟩, 6), (⟨"EscheatLots", "dropOldest", "()V"⟩, 6), (⟨"EscheatLots$Office", "canBeClaimed", "(I)Z"⟩, 7), (⟨"EscheatLots$Office", "coinsToShare", "(I)I"⟩, 7), (⟨"EscheatLots$Office", "settleClaim", "(II)V"⟩, 7), (⟨"EscheatLots$Office", "purse", "(I)I"⟩, 7), (⟨"EscheatLots$Office", "leaveOffice", "(II)V"⟩, 7), (⟨"EscheatLots$Office", "passDay", "()I"⟩, 7), (⟨"EscheatLots$Claims", "waitLonger", "(II)V"⟩, 8), (⟨"EscheatLots$Office", "countDay", "(I)I"⟩, 7), (⟨"EscheatLots$Office", "idleDays", "(I)I"⟩, 7), (⟨"EscheatLots$Office", "daysToLapse", "(I)I"⟩, 7), (⟨"EscheatLots$Office", "lapsesAhead", "(II)Z"⟩, 7), (⟨"EscheatLots$Pad", "readFirst", "()Z"⟩, 7), (⟨"EscheatLots$Pad", "readNumber", "()I"⟩, 7)]
theorem lw_r1 : ∀ q ∈ lw_privs_1, lw_okq q := List.forall_mem_cons.mpr ⟨lw_p0, List.forall_mem_cons.mpr ⟨lw_p1, List.forall_mem_cons.mpr ⟨lw_p2, List.forall_mem_cons.mpr ⟨lw_p3, List.forall_mem_cons.mpr ⟨lw_p4, List.forall_mem_cons.mpr ⟨lw_p5, List.forall_mem_cons.mpr ⟨lw_p6, List.forall_mem_cons.mpr ⟨lw_p7, List.forall_mem_cons.mpr ⟨lw_p8, List.forall_mem_cons.mpr ⟨lw_p9, List.forall_mem_cons.mpr ⟨lw_p10, List.forall_mem_cons.mpr ⟨lw_p11, List.forall_mem_cons.mpr ⟨lw_p12, List.forall_mem_cons.mpr ⟨lw_p13, List.forall_mem_cons.mpr ⟨lw_p14, List.forall_mem_cons.mpr ⟨lw_p15, fun _ h => absurd h List.not_mem_nil⟩⟩⟩⟩⟩⟩⟩⟩⟩⟩⟩⟩⟩⟩⟩⟩
theorem lw_p16 : lw_okq (⟨"EscheatLots$Pad", "readDigit", "()I"⟩, 7) := ⟨⟨by decide +kernel, by decide +kernel⟩, List.mem_of_getElem? (i := 127) (by decide +kernel), List.mem_of_getElem? (i := 569) (by decide +kernel), List.mem_of_getElem? (i := 570) (by decide +kernel)⟩
theorem lw_p17 : lw_okq (⟨"EscheatLots$Pad", "readSecond", "()Z"⟩, 7) := ⟨⟨by decide +kernel, by decide +kernel⟩, List.mem_of_getElem? (i := 127) (by decide +kernel), List.mem_of_getElem? (i := 577) (by decide +kernel), List.mem_of_getElem? (i := 578) (by decide +kernel)⟩
theorem lw_p18 : lw_okq (⟨"EscheatLots$Pad", "readThird", "()Z"⟩, 7) := ⟨⟨by decide +kernel, by decide +kernel⟩, List.mem_of_getElem? (i := 127) (by decide +kernel), List.mem_of_getElem? (i := 581) (by decide +kernel), List.mem_of_getElem? (i := 582) (by decide +kernel)⟩
theorem lw_p19 : lw_okq (⟨"EscheatLots", "carryOutOrder", "()I"⟩, 6) := ⟨⟨by decide +kernel, by decide +kernel⟩, List.mem_of_getElem? (i := 11) (by decide +kernel), List.mem_of_getElem? (i := 590) (by decide +kernel), List.mem_of_getElem? (i := 591) (by decide +kernel)⟩
theorem lw_p20 : lw_okq (⟨"EscheatLotsModel", "record", "()V"⟩, 11) := ⟨⟨by decide +kernel, by decide +kernel⟩, List.mem_of_getElem? (i := 607) (by decide +kernel), List.mem_of_getElem? (i := 665) (by decide +kernel), List.mem_of_getElem? (i := 666) (by decide +kernel)⟩
theorem lw_p21 : lw_okq (⟨"EscheatLotsModel", "whyNotLot", "(I)I"⟩, 11) := ⟨⟨by decide +kernel, by decide +kernel⟩, List.mem_of_getElem? (i := 607) (by decide +kernel), List.mem_of_getElem? (i := 680) (by decide +kernel), List.mem_of_getElem? (i := 681) (by decide +kernel)⟩
theorem lw_p22 : lw_okq (⟨"EscheatLotsModel", "lotNow", "(I)I"⟩, 11) := ⟨⟨by decide +kernel, by decide +kernel⟩, List.mem_of_getElem? (i := 607) (by decide +kernel), List.mem_of_getElem? (i := 684) (by decide +kernel), List.mem_of_getElem? (i := 685) (by decide +kernel)⟩
theorem lw_p23 : lw_okq (⟨"EscheatLotsModel", "layLot", "(III)V"⟩, 11) := ⟨⟨by decide +kernel, by decide +kernel⟩, List.mem_of_getElem? (i := 607) (by decide +kernel), List.mem_of_getElem? (i := 688) (by decide +kernel), List.mem_of_getElem? (i := 689) (by decide +kernel)⟩
theorem lw_p24 : lw_okq (⟨"EscheatLotsModel", "whyNotNotice", "(I)I"⟩, 11) := ⟨⟨by decide +kernel, by decide +kernel⟩, List.mem_of_getElem? (i := 607) (by decide +kernel), List.mem_of_getElem? (i := 696) (by decide +kernel), List.mem_of_getElem? (i := 697) (by decide +kernel)⟩
theorem lw_p25 : lw_okq (⟨"EscheatLotsModel", "isLot", "(I)Z"⟩, 11) := ⟨⟨by decide +kernel, by decide +kernel⟩, List.mem_of_getElem? (i := 607) (by decide +kernel), List.mem_of_getElem? (i := 700) (by decide +kernel), List.mem_of_getElem? (i := 701) (by decide +kernel)⟩
theorem lw_p26 : lw_okq (⟨"EscheatLotsModel", "lotOf", "(II)I"⟩, 11) := ⟨⟨by decide +kernel, by decide +kernel⟩, List.mem_of_getElem? (i := 607) (by decide +kernel), List.mem_of_getElem? (i := 704) (by decide +kernel), List.mem_of_getElem? (i := 705) (by decide +kernel)⟩
theorem lw_p27 : lw_okq (⟨"EscheatLotsModel", "noticeNow", "(I)I"⟩, 11) := ⟨⟨by decide +kernel, by decide +kernel⟩, List.mem_of_getElem? (i := 607) (by decide +kernel), List.mem_of_getElem? (i := 708) (by decide +kernel), List.mem_of_getElem? (i := 709) (by decide +kernel)⟩
theorem lw_p28 : lw_okq (⟨"EscheatLotsModel", "lotsThatAre", "(I)I"⟩, 11) := ⟨⟨by decide +kernel, by decide +kernel⟩, List.mem_of_getElem? (i := 607) (by decide +kernel), List.mem_of_getElem? (i := 712) (by decide +kernel), List.mem_of_getElem? (i := 713) (by decide +kernel)⟩
theorem lw_p29 : lw_okq (⟨"EscheatLotsModel", "whyNotClaim", "(III)I"⟩, 11) := ⟨⟨by decide +kernel, by decide +kernel⟩, List.mem_of_getElem? (i := 607) (by decide +kernel), List.mem_of_getElem? (i := 723) (by decide +kernel), List.mem_of_getElem? (i := 724) (by decide +kernel)⟩
theorem lw_p30 : lw_okq (⟨"EscheatLotsModel", "isEnded", "(I)Z"⟩, 11) := ⟨⟨by decide +kernel, by decide +kernel⟩, List.mem_of_getElem? (i := 607) (by decide +kernel), List.mem_of_getElem? (i := 730) (by decide +kernel), List.mem_of_getElem? (i := 731) (by decide +kernel)⟩
theorem lw_p31 : lw_okq (⟨"EscheatLotsModel", "claims", "(II)Z"⟩, 11) := ⟨⟨by decide +kernel, by decide +kernel⟩, List.mem_of_getElem? (i := 607) (by decide +kernel), List.mem_of_getElem? (i := 734) (by decide +kernel), List.mem_of_getElem? (i := 735) (by decide +kernel)⟩
def lw_privs_2 : List (MethodName × Nat) := [(⟨"EscheatLots$Pad", "readDigit", "()I"⟩, 7), (⟨"EscheatLots$Pad", "readSecond", "()Z"⟩, 7), (⟨"EscheatLots$Pad", "readThird", "()Z"⟩, 7), (⟨"EscheatLots", "carryOutOrder", "()I"⟩, 6), (⟨"EscheatLotsModel", "record", "()V"⟩, 11), (⟨"EscheatLotsModel", "whyNotLot", "(I)I"⟩, 11), (⟨"EscheatLotsModel", "lotNow", "(I)I"⟩, 11), (⟨"EscheatLotsModel", "layLot", "(III)V"⟩, 11), (⟨"EscheatLotsModel", "whyNotNotice", "(I)I"⟩, 11), (⟨"EscheatLotsModel", "isLot", "(I)Z"⟩, 11), (⟨"EscheatLotsModel", "lotOf", "(II)I"⟩, 11), (⟨"EscheatLotsModel", "noticeNow", "(I)I"⟩, 11), (⟨"EscheatLotsModel", "lotsThatAre", "(I)I"⟩, 11), (⟨"EscheatLotsModel", "whyNotClaim", "(III)I"⟩, 11), (⟨"EscheatLotsModel", "isEnded", "(I)Z"⟩, 11), (⟨"EscheatLotsModel", "claims", "(II)Z"⟩, 11)]
theorem lw_r2 : ∀ q ∈ lw_privs_2, lw_okq q := List.forall_mem_cons.mpr ⟨lw_p16, List.forall_mem_cons.mpr ⟨lw_p17, List.forall_mem_cons.mpr ⟨lw_p18, List.forall_mem_cons.mpr ⟨lw_p19, List.forall_mem_cons.mpr ⟨lw_p20, List.forall_mem_cons.mpr ⟨lw_p21, List.forall_mem_cons.mpr ⟨lw_p22, List.forall_mem_cons.mpr ⟨lw_p23, List.forall_mem_cons.mpr ⟨lw_p24, List.forall_mem_cons.mpr ⟨lw_p25, List.forall_mem_cons.mpr ⟨lw_p26, List.forall_mem_cons.mpr ⟨lw_p27, List.forall_mem_cons.mpr ⟨lw_p28, List.forall_mem_cons.mpr ⟨lw_p29, List.forall_mem_cons.mpr ⟨lw_p30, List.forall_mem_cons.mpr ⟨lw_p31, fun _ h => absurd h List.not_mem_nil⟩⟩⟩⟩⟩⟩⟩⟩⟩⟩⟩⟩⟩⟩⟩⟩
theorem lw_p32 : lw_okq (⟨"EscheatLotsModel", "claimOf", "(II)I"⟩, 11) := ⟨⟨by decide +kernel, by decide +kernel⟩, List.mem_of_getElem? (i := 607) (by decide +kernel), List.mem_of_getElem? (i := 738) (by decide +kernel), List.mem_of_getElem? (i := 739) (by decide +kernel)⟩
theorem lw_p33 : lw_okq (⟨"EscheatLotsModel", "stands", "(I)Z"⟩, 11) := ⟨⟨by decide +kernel, by decide +kernel⟩, List.mem_of_getElem? (i := 607) (by decide +kernel), List.mem_of_getElem? (i := 742) (by decide +kernel), List.mem_of_getElem? (i := 743) (by decide +kernel)⟩
theorem lw_p34 : lw_okq (⟨"EscheatLotsModel", "claimNow", "(III)I"⟩, 11) := ⟨⟨by decide +kernel, by decide +kernel⟩, List.mem_of_getElem? (i := 607) (by decide +kernel), List.mem_of_getElem? (i := 746) (by decide +kernel), List.mem_of_getElem? (i := 747) (by decide +kernel)⟩
theorem lw_p35 : lw_okq (⟨"EscheatLotsModel", "layClaim", "(III)V"⟩, 11) := ⟨⟨by decide +kernel, by decide +kernel⟩, List.mem_of_getElem? (i := 607) (by decide +kernel), List.mem_of_getElem? (i := 750) (by decide +kernel), List.mem_of_getElem? (i := 751) (by decide +kernel)⟩
theorem lw_p36 : lw_okq (⟨"EscheatLotsModel", "whyNotProve", "(II)I"⟩, 11) := ⟨⟨by decide +kernel, by decide +kernel⟩, List.mem_of_getElem? (i := 607) (by decide +kernel), List.mem_of_getElem? (i := 758) (by decide +kernel), List.mem_of_getElem? (i := 759) (by decide +kernel)⟩
theorem lw_p37 : lw_okq (⟨"EscheatLotsModel", "isClaim", "(I)Z"⟩, 11) := ⟨⟨by decide +kernel, by decide +kernel⟩, List.mem_of_getElem? (i := 607) (by decide +kernel), List.mem_of_getElem? (i := 762) (by decide +kernel), List.mem_of_getElem? (i := 763) (by decide +kernel)⟩
theorem lw_p38 : lw_okq (⟨"EscheatLotsModel", "whyNotOpen", "(I)I"⟩, 11) := ⟨⟨by decide +kernel, by decide +kernel⟩, List.mem_of_getElem? (i := 607) (by decide +kernel), List.mem_of_getElem? (i := 766) (by decide +kernel), List.mem_of_getElem? (i := 767) (by decide +kernel)⟩
theorem lw_p39 : lw_okq (⟨"EscheatLotsModel", "proveNow", "(II)I"⟩, 11) := ⟨⟨by decide +kernel, by decide +kernel⟩, List.mem_of_getElem? (i := 607) (by decide +kernel), List.mem_of_getElem? (i := 770) (by decide +kernel), List.mem_of_getElem? (i := 771) (by decide +kernel)⟩
theorem lw_p40 : lw_okq (⟨"EscheatLotsModel", "whyNotDecide", "(I)I"⟩, 11) := ⟨⟨by decide +kernel, by decide +kernel⟩, List.mem_of_getElem? (i := 607) (by decide +kernel), List.mem_of_getElem? (i := 778) (by decide +kernel), List.mem_of_getElem? (i := 779) (by decide +kernel)⟩
theorem lw_p41 : lw_okq (⟨"EscheatLotsModel", "decideNow", "(I)I"⟩, 11) := ⟨⟨by decide +kernel, by decide +kernel⟩, List.mem_of_getElem? (i := 607) (by decide +kernel), List.mem_of_getElem? (i := 782) (by decide +kernel), List.mem_of_getElem? (i := 783) (by decide +kernel)⟩
theorem lw_p42 : lw_okq (⟨"EscheatLotsModel", "whyNotWithdraw", "(I)I"⟩, 11) := ⟨⟨by decide +kernel, by decide +kernel⟩, List.mem_of_getElem? (i := 607) (by decide +kernel), List.mem_of_getElem? (i := 790) (by decide +kernel), List.mem_of_getElem? (i := 791) (by decide +kernel)⟩
theorem lw_p43 : lw_okq (⟨"EscheatLotsModel", "withdrawNow", "(I)I"⟩, 11) := ⟨⟨by decide +kernel, by decide +kernel⟩, List.mem_of_getElem? (i := 607) (by decide +kernel), List.mem_of_getElem? (i := 794) (by decide +kernel), List.mem_of_getElem? (i := 795) (by decide +kernel)⟩
theorem lw_p44 : lw_okq (⟨"EscheatLotsModel", "standing", "(I)I"⟩, 11) := ⟨⟨by decide +kernel, by decide +kernel⟩, List.mem_of_getElem? (i := 607) (by decide +kernel), List.mem_of_getElem? (i := 798) (by decide +kernel), List.mem_of_getElem? (i := 799) (by decide +kernel)⟩
theorem lw_p45 : lw_okq (⟨"EscheatLotsModel", "claimsTo", "(II)I"⟩, 11) := ⟨⟨by decide +kernel, by decide +kernel⟩, List.mem_of_getElem? (i := 607) (by decide +kernel), List.mem_of_getElem? (i := 802) (by decide +kernel), List.mem_of_getElem? (i := 803) (by decide +kernel)⟩
theorem lw_p46 : lw_okq (⟨"EscheatLotsModel", "whyNotSettle", "(I)I"⟩, 11) := ⟨⟨by decide +kernel, by decide +kernel⟩, List.mem_of_getElem? (i := 607) (by decide +kernel), List.mem_of_getElem? (i := 810) (by decide +kernel), List.mem_of_getElem? (i := 811) (by decide +kernel)⟩
theorem lw_p47 : lw_okq (⟨"EscheatLotsModel", "settleNow", "(I)I"⟩, 11) := ⟨⟨by decide +kernel, by decide +kernel⟩, List.mem_of_getElem? (i := 607) (by decide +kernel), List.mem_of_getElem? (i := 814) (by decide +kernel), List.mem_of_getElem? (i := 815) (by decide +kernel)⟩
def lw_privs_3 : List (MethodName × Nat) := [(⟨"EscheatLotsModel", "claimOf", "(II)I"⟩, 11), (⟨"EscheatLotsModel", "stands", "(I)Z"⟩, 11), (⟨"EscheatLotsModel", "claimNow", "(III)I"⟩, 11), (⟨"EscheatLotsModel", "layClaim", "(III)V"⟩, 11), (⟨"EscheatLotsModel", "whyNotProve", "(II)I"⟩, 11), (⟨"EscheatLotsModel", "isClaim", "(I)Z"⟩, 11), (⟨"EscheatLotsModel", "whyNotOpen", "(I)I"⟩, 11), (⟨"EscheatLotsModel", "proveNow", "(II)I"⟩, 11), (⟨"EscheatLotsModel", "whyNotDecide", "(I)I"⟩, 11), (⟨"EscheatLotsModel", "decideNow", "(I)I"⟩, 11), (⟨"EscheatLotsModel", "whyNotWithdraw", "(I)I"⟩, 11), (⟨"EscheatLotsModel", "withdrawNow", "(I)I"⟩, 11), (⟨"EscheatLotsModel", "standing", "(I)I"⟩, 11), (⟨"EscheatLotsModel", "claimsTo", "(II)I"⟩, 11), (⟨"EscheatLotsModel", "whyNotSettle", "(I)I"⟩, 11), (⟨"EscheatLotsModel", "settleNow", "(I)I"⟩, 11)]
theorem lw_r3 : ∀ q ∈ lw_privs_3, lw_okq q := List.forall_mem_cons.mpr ⟨lw_p32, List.forall_mem_cons.mpr ⟨lw_p33, List.forall_mem_cons.mpr ⟨lw_p34, List.forall_mem_cons.mpr ⟨lw_p35, List.forall_mem_cons.mpr ⟨lw_p36, List.forall_mem_cons.mpr ⟨lw_p37, List.forall_mem_cons.mpr ⟨lw_p38, List.forall_mem_cons.mpr ⟨lw_p39, List.forall_mem_cons.mpr ⟨lw_p40, List.forall_mem_cons.mpr ⟨lw_p41, List.forall_mem_cons.mpr ⟨lw_p42, List.forall_mem_cons.mpr ⟨lw_p43, List.forall_mem_cons.mpr ⟨lw_p44, List.forall_mem_cons.mpr ⟨lw_p45, List.forall_mem_cons.mpr ⟨lw_p46, List.forall_mem_cons.mpr ⟨lw_p47, fun _ h => absurd h List.not_mem_nil⟩⟩⟩⟩⟩⟩⟩⟩⟩⟩⟩⟩⟩⟩⟩⟩
theorem lw_p48 : lw_okq (⟨"EscheatLotsModel", "nearestOnes", "(I)I"⟩, 11) := ⟨⟨by decide +kernel, by decide +kernel⟩, List.mem_of_getElem? (i := 607) (by decide +kernel), List.mem_of_getElem? (i := 818) (by decide +kernel), List.mem_of_getElem? (i := 819) (by decide +kernel)⟩
theorem lw_p49 : lw_okq (⟨"EscheatLotsModel", "nearest", "(I)I"⟩, 11) := ⟨⟨by decide +kernel, by decide +kernel⟩, List.mem_of_getElem? (i := 607) (by decide +kernel), List.mem_of_getElem? (i := 822) (by decide +kernel), List.mem_of_getElem? (i := 823) (by decide +kernel)⟩
theorem lw_p50 : lw_okq (⟨"EscheatLotsModel", "shared", "(I)I"⟩, 11) := ⟨⟨by decide +kernel, by decide +kernel⟩, List.mem_of_getElem? (i := 607) (by decide +kernel), List.mem_of_getElem? (i := 826) (by decide +kernel), List.mem_of_getElem? (i := 827) (by decide +kernel)⟩
theorem lw_p51 : lw_okq (⟨"EscheatLotsModel", "pay", "(II)V"⟩, 11) := ⟨⟨by decide +kernel, by decide +kernel⟩, List.mem_of_getElem? (i := 607) (by decide +kernel), List.mem_of_getElem? (i := 833) (by decide +kernel), List.mem_of_getElem? (i := 834) (by decide +kernel)⟩
theorem lw_p52 : lw_okq (⟨"EscheatLotsModel", "isPaid", "(I)Z"⟩, 11) := ⟨⟨by decide +kernel, by decide +kernel⟩, List.mem_of_getElem? (i := 607) (by decide +kernel), List.mem_of_getElem? (i := 837) (by decide +kernel), List.mem_of_getElem? (i := 838) (by decide +kernel)⟩
theorem lw_p53 : lw_okq (⟨"EscheatLotsModel", "whyNotPass", "(I)I"⟩, 11) := ⟨⟨by decide +kernel, by decide +kernel⟩, List.mem_of_getElem? (i := 607) (by decide +kernel), List.mem_of_getElem? (i := 845) (by decide +kernel), List.mem_of_getElem? (i := 846) (by decide +kernel)⟩
theorem lw_p54 : lw_okq (⟨"EscheatLotsModel", "passNow", "(I)I"⟩, 11) := ⟨⟨by decide +kernel, by decide +kernel⟩, List.mem_of_getElem? (i := 607) (by decide +kernel), List.mem_of_getElem? (i := 849) (by decide +kernel), List.mem_of_getElem? (i := 850) (by decide +kernel)⟩
theorem lw_p55 : lw_okq (⟨"EscheatLotsModel", "dayNow", "()I"⟩, 11) := ⟨⟨by decide +kernel, by decide +kernel⟩, List.mem_of_getElem? (i := 607) (by decide +kernel), List.mem_of_getElem? (i := 853) (by decide +kernel), List.mem_of_getElem? (i := 854) (by decide +kernel)⟩
theorem lw_p56 : lw_okq (⟨"EscheatLotsModel", "dayOf", "(I)Z"⟩, 11) := ⟨⟨by decide +kernel, by decide +kernel⟩, List.mem_of_getElem? (i := 607) (by decide +kernel), List.mem_of_getElem? (i := 857) (by decide +kernel), List.mem_of_getElem? (i := 858) (by decide +kernel)⟩
theorem lw_p57 : lw_okq (⟨"EscheatLotsModel", "allClaimsTo", "(I)I"⟩, 11) := ⟨⟨by decide +kernel, by decide +kernel⟩, List.mem_of_getElem? (i := 607) (by decide +kernel), List.mem_of_getElem? (i := 865) (by decide +kernel), List.mem_of_getElem? (i := 866) (by decide +kernel)⟩
theorem lw_p58 : lw_okq (⟨"EscheatLotsModel", "claimsOf", "(IZ)I"⟩, 11) := ⟨⟨by decide +kernel, by decide +kernel⟩, List.mem_of_getElem? (i := 607) (by decide +kernel), List.mem_of_getElem? (i := 877) (by decide +kernel), List.mem_of_getElem? (i := 878) (by decide +kernel)⟩
theorem lw_p59 : lw_okq (⟨"EscheatLotsModel", "lotsGot", "(I)I"⟩, 11) := ⟨⟨by decide +kernel, by decide +kernel⟩, List.mem_of_getElem? (i := 607) (by decide +kernel), List.mem_of_getElem? (i := 881) (by decide +kernel), List.mem_of_getElem? (i := 882) (by decide +kernel)⟩
theorem lw_p60 : lw_okq (⟨"EscheatLotsModel", "valueOf", "(I)I"⟩, 11) := ⟨⟨by decide +kernel, by decide +kernel⟩, List.mem_of_getElem? (i := 607) (by decide +kernel), List.mem_of_getElem? (i := 893) (by decide +kernel), List.mem_of_getElem? (i := 894) (by decide +kernel)⟩
theorem lw_p61 : lw_okq (⟨"EscheatLotsModel", "purses", "()I"⟩, 11) := ⟨⟨by decide +kernel, by decide +kernel⟩, List.mem_of_getElem? (i := 607) (by decide +kernel), List.mem_of_getElem? (i := 897) (by decide +kernel), List.mem_of_getElem? (i := 898) (by decide +kernel)⟩
theorem lw_p62 : lw_okq (⟨"EscheatLotsModel", "standingClaims", "()I"⟩, 11) := ⟨⟨by decide +kernel, by decide +kernel⟩, List.mem_of_getElem? (i := 607) (by decide +kernel), List.mem_of_getElem? (i := 901) (by decide +kernel), List.mem_of_getElem? (i := 902) (by decide +kernel)⟩
theorem lw_p63 : lw_okq (⟨"EscheatLotsModel", "heirsWhoClaimed", "()I"⟩, 11) := ⟨⟨by decide +kernel, by decide +kernel⟩, List.mem_of_getElem? (i := 607) (by decide +kernel), List.mem_of_getElem? (i := 905) (by decide +kernel), List.mem_of_getElem? (i := 906) (by decide +kernel)⟩
def lw_privs_4 : List (MethodName × Nat) := [(⟨"EscheatLotsModel", "nearestOnes", "(I)I"⟩, 11), (⟨"EscheatLotsModel", "nearest", "(I)I"⟩, 11), (⟨"EscheatLotsModel", "shared", "(I)I"⟩, 11), (⟨"EscheatLotsModel", "pay", "(II)V"⟩, 11), (⟨"EscheatLotsModel", "isPaid", "(I)Z"⟩, 11), (⟨"EscheatLotsModel", "whyNotPass", "(I)I"⟩, 11), (⟨"EscheatLotsModel", "passNow", "(I)I"⟩, 11), (⟨"EscheatLotsModel", "dayNow", "()I"⟩, 11), (⟨"EscheatLotsModel", "dayOf", "(I)Z"⟩, 11), (⟨"EscheatLotsModel", "allClaimsTo", "(I)I"⟩, 11), (⟨"EscheatLotsModel", "claimsOf", "(IZ)I"⟩, 11), (⟨"EscheatLotsModel", "lotsGot", "(I)I"⟩, 11), (⟨"EscheatLotsModel", "valueOf", "(I)I"⟩, 11), (⟨"EscheatLotsModel", "purses", "()I"⟩, 11), (⟨"EscheatLotsModel", "standingClaims", "()I"⟩, 11), (⟨"EscheatLotsModel", "heirsWhoClaimed", "()I"⟩, 11)]
theorem lw_r4 : ∀ q ∈ lw_privs_4, lw_okq q := List.forall_mem_cons.mpr ⟨lw_p48, List.forall_mem_cons.mpr ⟨lw_p49, List.forall_mem_cons.mpr ⟨lw_p50, List.forall_mem_cons.mpr ⟨lw_p51, List.forall_mem_cons.mpr ⟨lw_p52, List.forall_mem_cons.mpr ⟨lw_p53, List.forall_mem_cons.mpr ⟨lw_p54, List.forall_mem_cons.mpr ⟨lw_p55, List.forall_mem_cons.mpr ⟨lw_p56, List.forall_mem_cons.mpr ⟨lw_p57, List.forall_mem_cons.mpr ⟨lw_p58, List.forall_mem_cons.mpr ⟨lw_p59, List.forall_mem_cons.mpr ⟨lw_p60, List.forall_mem_cons.mpr ⟨lw_p61, List.forall_mem_cons.mpr ⟨lw_p62, List.forall_mem_cons.mpr ⟨lw_p63, fun _ h => absurd h List.not_mem_nil⟩⟩⟩⟩⟩⟩⟩⟩⟩⟩⟩⟩⟩⟩⟩⟩
theorem lw_p64 : lw_okq (⟨"EscheatLotsModel", "daysToFall", "(I)I"⟩, 11) := ⟨⟨by decide +kernel, by decide +kernel⟩, List.mem_of_getElem? (i := 607) (by decide +kernel), List.mem_of_getElem? (i := 917) (by decide +kernel), List.mem_of_getElem? (i := 918) (by decide +kernel)⟩
theorem lw_p65 : lw_okq (⟨"EscheatLotsModel", "shareOf", "(III)I"⟩, 11) := ⟨⟨by decide +kernel, by decide +kernel⟩, List.mem_of_getElem? (i := 607) (by decide +kernel), List.mem_of_getElem? (i := 925) (by decide +kernel), List.mem_of_getElem? (i := 926) (by decide +kernel)⟩
theorem lw_p66 : lw_okq (⟨"EscheatLotsModel", "lapsesIn", "(I)I"⟩, 11) := ⟨⟨by decide +kernel, by decide +kernel⟩, List.mem_of_getElem? (i := 607) (by decide +kernel), List.mem_of_getElem? (i := 937) (by decide +kernel), List.mem_of_getElem? (i := 938) (by decide +kernel)⟩
theorem lw_p67 : lw_okq (⟨"EscheatLotsModel", "readPad", "()Z"⟩, 11) := ⟨⟨by decide +kernel, by decide +kernel⟩, List.mem_of_getElem? (i := 607) (by decide +kernel), List.mem_of_getElem? (i := 954) (by decide +kernel), List.mem_of_getElem? (i := 955) (by decide +kernel)⟩
theorem lw_p68 : lw_okq (⟨"EscheatLotsModel", "readOrder", "()Z"⟩, 11) := ⟨⟨by decide +kernel, by decide +kernel⟩, List.mem_of_getElem? (i := 607) (by decide +kernel), List.mem_of_getElem? (i := 958) (by decide +kernel), List.mem_of_getElem? (i := 959) (by decide +kernel)⟩
theorem lw_p69 : lw_okq (⟨"EscheatLotsModel", "number", "(I)I"⟩, 11) := ⟨⟨by decide +kernel, by decide +kernel⟩, List.mem_of_getElem? (i := 607) (by decide +kernel), List.mem_of_getElem? (i := 965) (by decide +kernel), List.mem_of_getElem? (i := 966) (by decide +kernel)⟩
theorem lw_p70 : lw_okq (⟨"EscheatLotsModel", "sees", "(II)Z"⟩, 11) := ⟨⟨by decide +kernel, by decide +kernel⟩, List.mem_of_getElem? (i := 607) (by decide +kernel), List.mem_of_getElem? (i := 969) (by decide +kernel), List.mem_of_getElem? (i := 970) (by decide +kernel)⟩
theorem lw_p71 : lw_okq (⟨"EscheatLotsModel", "takes", "(I)Z"⟩, 11) := ⟨⟨by decide +kernel, by decide +kernel⟩, List.mem_of_getElem? (i := 607) (by decide +kernel), List.mem_of_getElem? (i := 973) (by decide +kernel), List.mem_of_getElem? (i := 974) (by decide +kernel)⟩
theorem lw_p72 : lw_okq (⟨"EscheatLotsModel", "whyNot", "(I)I"⟩, 11) := ⟨⟨by decide +kernel, by decide +kernel⟩, List.mem_of_getElem? (i := 607) (by decide +kernel), List.mem_of_getElem? (i := 981) (by decide +kernel), List.mem_of_getElem? (i := 982) (by decide +kernel)⟩
theorem lw_p73 : lw_okq (⟨"EscheatLotsModel", "doOrder", "(I)I"⟩, 11) := ⟨⟨by decide +kernel, by decide +kernel⟩, List.mem_of_getElem? (i := 607) (by decide +kernel), List.mem_of_getElem? (i := 985) (by decide +kernel), List.mem_of_getElem? (i := 986) (by decide +kernel)⟩
def lw_privs_5 : List (MethodName × Nat) := [(⟨"EscheatLotsModel", "daysToFall", "(I)I"⟩, 11), (⟨"EscheatLotsModel", "shareOf", "(III)I"⟩, 11), (⟨"EscheatLotsModel", "lapsesIn", "(I)I"⟩, 11), (⟨"EscheatLotsModel", "readPad", "()Z"⟩, 11), (⟨"EscheatLotsModel", "readOrder", "()Z"⟩, 11), (⟨"EscheatLotsModel", "number", "(I)I"⟩, 11), (⟨"EscheatLotsModel", "sees", "(II)Z"⟩, 11), (⟨"EscheatLotsModel", "takes", "(I)Z"⟩, 11), (⟨"EscheatLotsModel", "whyNot", "(I)I"⟩, 11), (⟨"EscheatLotsModel", "doOrder", "(I)I"⟩, 11)]
theorem lw_r5 : ∀ q ∈ lw_privs_5, lw_okq q := List.forall_mem_cons.mpr ⟨lw_p64, List.forall_mem_cons.mpr ⟨lw_p65, List.forall_mem_cons.mpr ⟨lw_p66, List.forall_mem_cons.mpr ⟨lw_p67, List.forall_mem_cons.mpr ⟨lw_p68, List.forall_mem_cons.mpr ⟨lw_p69, List.forall_mem_cons.mpr ⟨lw_p70, List.forall_mem_cons.mpr ⟨lw_p71, List.forall_mem_cons.mpr ⟨lw_p72, List.forall_mem_cons.mpr ⟨lw_p73, fun _ h => absurd h List.not_mem_nil⟩⟩⟩⟩⟩⟩⟩⟩⟩⟩
def lw_privs : List (MethodName × Nat) := lw_privs_1 ++ (lw_privs_2 ++ (lw_privs_3 ++ (lw_privs_4 ++ (lw_privs_5))))
def lw_tbl : List Cond := k2_sels lw_privs ++ tables_1
theorem lw_privs_ok : ∀ q ∈ lw_privs, lw_okq q := by
  show ∀ q ∈ lw_privs_1 ++ (lw_privs_2 ++ (lw_privs_3 ++ (lw_privs_4 ++ (lw_privs_5)))), lw_okq q
  exact List.forall_mem_append.mpr ⟨lw_r1, List.forall_mem_append.mpr ⟨lw_r2, List.forall_mem_append.mpr ⟨lw_r3, List.forall_mem_append.mpr ⟨lw_r4, lw_r5⟩⟩⟩⟩
-- ===== end of PART A; then your names; then what follows =====
def RX0 : String := "EscheatLots$Claims"
def TX0 : u_T := fun k => match k with
  | 0 => ("EscheatLots$Claims", "count", "I", false)
  | 1 => ("EscheatLots$Claims", "heir", "[I", true)
  | 2 => ("EscheatLots$Claims", "lot", "[I", true)
  | 3 => ("EscheatLots$Claims", "line", "[I", true)
  | 4 => ("EscheatLots$Claims", "proof", "[I", true)
  | 5 => ("EscheatLots$Claims", "state", "[I", true)
  | 6 => ("EscheatLots$Claims", "waited", "[I", true)
  | _ => ("EscheatLots$Claims", "brought", "[I", true)
def tyX0 : Nat → FieldType := fun k => match k with
  | 0 => .int
  | 1 => .array .int
  | 2 => .array .int
  | 3 => .array .int
  | 4 => .array .int
  | 5 => .array .int
  | 6 => .array .int
  | _ => .array .int
abbrev wsX00 : List Cond := u_ws RX0 TX0 8
theorem nmX0 : ∀ a, a < 8 → ∀ b, b < 8 → a ≠ b → (TX0 a).2.1 ≠ (TX0 b).2.1 := by decide +kernel
theorem tyX0_ok : ∀ k, k < 8 → parseFieldDescriptor (TX0 k).2.2.1 = some (tyX0 k) := by decide +kernel
abbrev cX0_init : ByteArray := prog_2_method_1_code
def yX0_init : MethodName := ⟨RX0, "<init>", "()V"⟩
abbrev cX0_become : ByteArray := prog_2_method_2_code
def yX0_become : MethodName := ⟨RX0, "become", "(LEscheatLots$Claims;)V"⟩
abbrev cX0_exists : ByteArray := prog_2_method_3_code
def yX0_exists : MethodName := ⟨RX0, "exists", "(I)Z"⟩
abbrev cX0_isOpen : ByteArray := prog_2_method_4_code
def yX0_isOpen : MethodName := ⟨RX0, "isOpen", "(I)Z"⟩
abbrev cX0_stands : ByteArray := prog_2_method_5_code
def yX0_stands : MethodName := ⟨RX0, "stands", "(I)Z"⟩
abbrev cX0_all : ByteArray := prog_2_method_6_code
def yX0_all : MethodName := ⟨RX0, "all", "()I"⟩
abbrev cX0_inState : ByteArray := prog_2_method_7_code
def yX0_inState : MethodName := ⟨RX0, "inState", "(I)I"⟩
abbrev cX0_standing : ByteArray := prog_2_method_8_code
def yX0_standing : MethodName := ⟨RX0, "standing", "()I"⟩
abbrev cX0_ofHeir : ByteArray := prog_2_method_9_code
def yX0_ofHeir : MethodName := ⟨RX0, "ofHeir", "(I)I"⟩
abbrev cX0_toLot : ByteArray := prog_2_method_10_code
def yX0_toLot : MethodName := ⟨RX0, "toLot", "(I)I"⟩
abbrev cX0_openTo : ByteArray := prog_2_method_11_code
def yX0_openTo : MethodName := ⟨RX0, "openTo", "(I)I"⟩
abbrev cX0_upheldTo : ByteArray := prog_2_method_12_code
def yX0_upheldTo : MethodName := ⟨RX0, "upheldTo", "(I)I"⟩
abbrev cX0_standingTo : ByteArray := prog_2_method_13_code
def yX0_standingTo : MethodName := ⟨RX0, "standingTo", "(I)I"⟩
abbrev cX0_thatBrought : ByteArray := prog_2_method_14_code
def yX0_thatBrought : MethodName := ⟨RX0, "thatBrought", "()I"⟩
abbrev cX0_nearestLine : ByteArray := prog_2_method_15_code
def yX0_nearestLine : MethodName := ⟨RX0, "nearestLine", "(I)I"⟩
abbrev cX0_nearest : ByteArray := prog_2_method_16_code
def yX0_nearest : MethodName := ⟨RX0, "nearest", "(I)I"⟩
abbrev cX0_waitOneDay : ByteArray := prog_2_method_17_code
def yX0_waitOneDay : MethodName := ⟨RX0, "waitOneDay", "(I)I"⟩
abbrev cX0_waitLonger : ByteArray := prog_2_method_18_code
def yX0_waitLonger : MethodName := ⟨RX0, "waitLonger", "(II)V"⟩
def RX1 : String := "EscheatLots$Lots"
def TX1 : u_T := fun k => match k with
  | 0 => ("EscheatLots$Lots", "count", "I", false)
  | 1 => ("EscheatLots$Lots", "value", "[I", true)
  | 2 => ("EscheatLots$Lots", "state", "[I", true)
  | 3 => ("EscheatLots$Lots", "counted", "[I", true)
  | _ => ("EscheatLots$Lots", "since", "[I", true)
def tyX1 : Nat → FieldType := fun k => match k with
  | 0 => .int
  | 1 => .array .int
  | 2 => .array .int
  | 3 => .array .int
  | _ => .array .int
abbrev wsX10 : List Cond := u_ws RX1 TX1 5
theorem nmX1 : ∀ a, a < 5 → ∀ b, b < 5 → a ≠ b → (TX1 a).2.1 ≠ (TX1 b).2.1 := by decide +kernel
theorem tyX1_ok : ∀ k, k < 5 → parseFieldDescriptor (TX1 k).2.2.1 = some (tyX1 k) := by decide +kernel
abbrev cX1_init : ByteArray := prog_3_method_1_code
def yX1_init : MethodName := ⟨RX1, "<init>", "()V"⟩
abbrev cX1_become : ByteArray := prog_3_method_2_code
def yX1_become : MethodName := ⟨RX1, "become", "(LEscheatLots$Lots;)V"⟩
abbrev cX1_exists : ByteArray := prog_3_method_3_code
def yX1_exists : MethodName := ⟨RX1, "exists", "(I)Z"⟩
abbrev cX1_all : ByteArray := prog_3_method_4_code
def yX1_all : MethodName := ⟨RX1, "all", "()I"⟩
abbrev cX1_inState : ByteArray := prog_3_method_5_code
def yX1_inState : MethodName := ⟨RX1, "inState", "(I)I"⟩
abbrev cX1_isOver : ByteArray := prog_3_method_6_code
def yX1_isOver : MethodName := ⟨RX1, "isOver", "(I)Z"⟩
def RX2 : String := "EscheatLots$Office"
def TX2 : u_T := fun k => match k with
  | 0 => ("EscheatLots$Office", "settings", "[I", true)
  | 1 => ("EscheatLots$Office", "lots", "LEscheatLots$Lots;", true)
  | 2 => ("EscheatLots$Office", "claims", "LEscheatLots$Claims;", true)
  | 3 => ("EscheatLots$Office", "paidOrder", "[I", true)
  | 4 => ("EscheatLots$Office", "paidHeirs", "I", false)
  | 5 => ("EscheatLots$Office", "crown", "I", false)
  | _ => ("EscheatLots$Office", "day", "I", false)
def tyX2 : Nat → FieldType := fun k => match k with
  | 0 => .array .int
  | 1 => .object "EscheatLots$Lots"
  | 2 => .object "EscheatLots$Claims"
  | 3 => .array .int
  | 4 => .int
  | 5 => .int
  | _ => .int
abbrev wsX20 : List Cond := u_ws RX2 TX2 7
theorem nmX2 : ∀ a, a < 7 → ∀ b, b < 7 → a ≠ b → (TX2 a).2.1 ≠ (TX2 b).2.1 := by decide +kernel
theorem tyX2_ok : ∀ k, k < 7 → parseFieldDescriptor (TX2 k).2.2.1 = some (tyX2 k) := by decide +kernel
abbrev cX2_init : ByteArray := prog_4_method_1_code
def yX2_init : MethodName := ⟨RX2, "<init>", "()V"⟩
abbrev cX2_become : ByteArray := prog_4_method_2_code
def yX2_become : MethodName := ⟨RX2, "become", "(LEscheatLots$Office;)V"⟩
abbrev cX2_isHeir : ByteArray := prog_4_method_3_code
def yX2_isHeir : MethodName := ⟨RX2, "isHeir", "(I)Z"⟩
abbrev cX2_changeSetting : ByteArray := prog_4_method_4_code
def yX2_changeSetting : MethodName := ⟨RX2, "changeSetting", "(II)I"⟩
abbrev cX2_addLot : ByteArray := prog_4_method_5_code
def yX2_addLot : MethodName := ⟨RX2, "addLot", "(I)I"⟩
abbrev cX2_giveNotice : ByteArray := prog_4_method_6_code
def yX2_giveNotice : MethodName := ⟨RX2, "giveNotice", "(I)I"⟩
abbrev cX2_addClaim : ByteArray := prog_4_method_7_code
def yX2_addClaim : MethodName := ⟨RX2, "addClaim", "(III)I"⟩
abbrev cX2_canBeClaimed : ByteArray := prog_4_method_8_code
def yX2_canBeClaimed : MethodName := ⟨RX2, "canBeClaimed", "(I)Z"⟩
abbrev cX2_addProof : ByteArray := prog_4_method_9_code
def yX2_addProof : MethodName := ⟨RX2, "addProof", "(II)I"⟩
abbrev cX2_judge : ByteArray := prog_4_method_10_code
def yX2_judge : MethodName := ⟨RX2, "judge", "(I)I"⟩
abbrev cX2_takeBack : ByteArray := prog_4_method_11_code
def yX2_takeBack : MethodName := ⟨RX2, "takeBack", "(I)I"⟩
abbrev cX2_shareOut : ByteArray := prog_4_method_12_code
def yX2_shareOut : MethodName := ⟨RX2, "shareOut", "(I)I"⟩
abbrev cX2_coinsToShare : ByteArray := prog_4_method_13_code
def yX2_coinsToShare : MethodName := ⟨RX2, "coinsToShare", "(I)I"⟩
abbrev cX2_part : ByteArray := prog_4_method_14_code
def yX2_part : MethodName := ⟨RX2, "part", "(III)I"⟩
abbrev cX2_settleClaim : ByteArray := prog_4_method_15_code
def yX2_settleClaim : MethodName := ⟨RX2, "settleClaim", "(II)V"⟩
abbrev cX2_leaveOffice : ByteArray := prog_4_method_16_code
def yX2_leaveOffice : MethodName := ⟨RX2, "leaveOffice", "(II)V"⟩
abbrev cX2_passDays : ByteArray := prog_4_method_17_code
def yX2_passDays : MethodName := ⟨RX2, "passDays", "(I)I"⟩
abbrev cX2_passDay : ByteArray := prog_4_method_18_code
def yX2_passDay : MethodName := ⟨RX2, "passDay", "()I"⟩
abbrev cX2_countDay : ByteArray := prog_4_method_19_code
def yX2_countDay : MethodName := ⟨RX2, "countDay", "(I)I"⟩
abbrev cX2_aboutLot : ByteArray := prog_4_method_20_code
def yX2_aboutLot : MethodName := ⟨RX2, "aboutLot", "(II)I"⟩
abbrev cX2_aboutClaim : ByteArray := prog_4_method_21_code
def yX2_aboutClaim : MethodName := ⟨RX2, "aboutClaim", "(II)I"⟩
abbrev cX2_aboutHeir : ByteArray := prog_4_method_22_code
def yX2_aboutHeir : MethodName := ⟨RX2, "aboutHeir", "(II)I"⟩
abbrev cX2_purse : ByteArray := prog_4_method_23_code
def yX2_purse : MethodName := ⟨RX2, "purse", "(I)I"⟩
abbrev cX2_heirPaid : ByteArray := prog_4_method_24_code
def yX2_heirPaid : MethodName := ⟨RX2, "heirPaid", "(I)I"⟩
abbrev cX2_number : ByteArray := prog_4_method_25_code
def yX2_number : MethodName := ⟨RX2, "number", "(I)I"⟩
abbrev cX2_whyNot : ByteArray := prog_4_method_26_code
def yX2_whyNot : MethodName := ⟨RX2, "whyNot", "(I)I"⟩
abbrev cX2_daysToFall : ByteArray := prog_4_method_27_code
def yX2_daysToFall : MethodName := ⟨RX2, "daysToFall", "(I)I"⟩
abbrev cX2_idleDays : ByteArray := prog_4_method_28_code
def yX2_idleDays : MethodName := ⟨RX2, "idleDays", "(I)I"⟩
abbrev cX2_daysToLapse : ByteArray := prog_4_method_29_code
def yX2_daysToLapse : MethodName := ⟨RX2, "daysToLapse", "(I)I"⟩
abbrev cX2_wouldGet : ByteArray := prog_4_method_30_code
def yX2_wouldGet : MethodName := ⟨RX2, "wouldGet", "(III)I"⟩
abbrev cX2_firstFall : ByteArray := prog_4_method_31_code
def yX2_firstFall : MethodName := ⟨RX2, "firstFall", "(I)I"⟩
abbrev cX2_firstLapse : ByteArray := prog_4_method_32_code
def yX2_firstLapse : MethodName := ⟨RX2, "firstLapse", "(I)I"⟩
abbrev cX2_lapsesAhead : ByteArray := prog_4_method_33_code
def yX2_lapsesAhead : MethodName := ⟨RX2, "lapsesAhead", "(II)Z"⟩
def RX3 : String := "EscheatLots$Pad"
def TX3 : u_T := fun k => match k with
  | 0 => ("EscheatLots$Pad", "text", "[C", true)
  | 1 => ("EscheatLots$Pad", "length", "I", false)
  | 2 => ("EscheatLots$Pad", "at", "I", false)
  | 3 => ("EscheatLots$Pad", "kind", "C", false)
  | 4 => ("EscheatLots$Pad", "first", "I", false)
  | 5 => ("EscheatLots$Pad", "second", "I", false)
  | _ => ("EscheatLots$Pad", "third", "I", false)
def tyX3 : Nat → FieldType := fun k => match k with
  | 0 => .array .char
  | 1 => .int
  | 2 => .int
  | 3 => .char
  | 4 => .int
  | 5 => .int
  | _ => .int
abbrev wsX30 : List Cond := u_ws RX3 TX3 7
theorem nmX3 : ∀ a, a < 7 → ∀ b, b < 7 → a ≠ b → (TX3 a).2.1 ≠ (TX3 b).2.1 := by decide +kernel
theorem tyX3_ok : ∀ k, k < 7 → parseFieldDescriptor (TX3 k).2.2.1 = some (tyX3 k) := by decide +kernel
abbrev cX3_init : ByteArray := prog_5_method_1_code
def yX3_init : MethodName := ⟨RX3, "<init>", "()V"⟩
abbrev cX3_append : ByteArray := prog_5_method_2_code
def yX3_append : MethodName := ⟨RX3, "append", "(J)I"⟩
abbrev cX3_charactersIn : ByteArray := prog_5_method_3_code
def yX3_charactersIn : MethodName := ⟨RX3, "charactersIn", "(J)I"⟩
abbrev cX3_codeAt : ByteArray := prog_5_method_4_code
def yX3_codeAt : MethodName := ⟨RX3, "codeAt", "(JI)I"⟩
abbrev cX3_empty : ByteArray := prog_5_method_5_code
def yX3_empty : MethodName := ⟨RX3, "empty", "()I"⟩
abbrev cX3_firstFault : ByteArray := prog_5_method_6_code
def yX3_firstFault : MethodName := ⟨RX3, "firstFault", "()I"⟩
abbrev cX3_readOrder : ByteArray := prog_5_method_7_code
def yX3_readOrder : MethodName := ⟨RX3, "readOrder", "()Z"⟩
abbrev cX3_readFirst : ByteArray := prog_5_method_8_code
def yX3_readFirst : MethodName := ⟨RX3, "readFirst", "()Z"⟩
abbrev cX3_readSecond : ByteArray := prog_5_method_9_code
def yX3_readSecond : MethodName := ⟨RX3, "readSecond", "()Z"⟩
abbrev cX3_readThird : ByteArray := prog_5_method_10_code
def yX3_readThird : MethodName := ⟨RX3, "readThird", "()Z"⟩
abbrev cX3_readSign : ByteArray := prog_5_method_11_code
def yX3_readSign : MethodName := ⟨RX3, "readSign", "(C)Z"⟩
abbrev cX3_readNumber : ByteArray := prog_5_method_12_code
def yX3_readNumber : MethodName := ⟨RX3, "readNumber", "()I"⟩
abbrev cX3_readDigit : ByteArray := prog_5_method_13_code
def yX3_readDigit : MethodName := ⟨RX3, "readDigit", "()I"⟩
def RX4 : String := "EscheatLots"
def TX4 : u_T := fun k => match k with
  | 0 => ("EscheatLots", "office", "LEscheatLots$Office;", true)
  | 1 => ("EscheatLots", "pad", "LEscheatLots$Pad;", true)
  | 2 => ("EscheatLots", "history", "[LEscheatLots$Office;", true)
  | 3 => ("EscheatLots", "changes", "I", false)
  | 4 => ("EscheatLots", "slots", "[LEscheatLots$Office;", true)
  | _ => ("EscheatLots", "saved", "[Z", true)
def tyX4 : Nat → FieldType := fun k => match k with
  | 0 => .object "EscheatLots$Office"
  | 1 => .object "EscheatLots$Pad"
  | 2 => .array (.object "EscheatLots$Office")
  | 3 => .int
  | 4 => .array (.object "EscheatLots$Office")
  | _ => .array .boolean
abbrev wsX40 : List Cond := u_ws RX4 TX4 6
theorem nmX4 : ∀ a, a < 6 → ∀ b, b < 6 → a ≠ b → (TX4 a).2.1 ≠ (TX4 b).2.1 := by decide +kernel
theorem tyX4_ok : ∀ k, k < 6 → parseFieldDescriptor (TX4 k).2.2.1 = some (tyX4 k) := by decide +kernel
abbrev cX4_init : ByteArray := prog_1_method_1_code
def yX4_init : MethodName := ⟨RX4, "<init>", "()V"⟩
abbrev cX4_set : ByteArray := prog_1_method_2_code
def yX4_set : MethodName := ⟨RX4, "set", "(II)I"⟩
abbrev cX4_lot : ByteArray := prog_1_method_3_code
def yX4_lot : MethodName := ⟨RX4, "lot", "(I)I"⟩
abbrev cX4_notice : ByteArray := prog_1_method_4_code
def yX4_notice : MethodName := ⟨RX4, "notice", "(I)I"⟩
abbrev cX4_claim : ByteArray := prog_1_method_5_code
def yX4_claim : MethodName := ⟨RX4, "claim", "(III)I"⟩
abbrev cX4_prove : ByteArray := prog_1_method_6_code
def yX4_prove : MethodName := ⟨RX4, "prove", "(II)I"⟩
abbrev cX4_decide : ByteArray := prog_1_method_7_code
def yX4_decide : MethodName := ⟨RX4, "decide", "(I)I"⟩
abbrev cX4_withdraw : ByteArray := prog_1_method_8_code
def yX4_withdraw : MethodName := ⟨RX4, "withdraw", "(I)I"⟩
abbrev cX4_settle : ByteArray := prog_1_method_9_code
def yX4_settle : MethodName := ⟨RX4, "settle", "(I)I"⟩
abbrev cX4_pass : ByteArray := prog_1_method_10_code
def yX4_pass : MethodName := ⟨RX4, "pass", "(I)I"⟩
abbrev cX4_of : ByteArray := prog_1_method_11_code
def yX4_of : MethodName := ⟨RX4, "of", "(II)I"⟩
abbrev cX4_ofClaim : ByteArray := prog_1_method_12_code
def yX4_ofClaim : MethodName := ⟨RX4, "ofClaim", "(II)I"⟩
abbrev cX4_heir : ByteArray := prog_1_method_13_code
def yX4_heir : MethodName := ⟨RX4, "heir", "(II)I"⟩
abbrev cX4_paid : ByteArray := prog_1_method_14_code
def yX4_paid : MethodName := ⟨RX4, "paid", "(I)I"⟩
abbrev cX4_count : ByteArray := prog_1_method_15_code
def yX4_count : MethodName := ⟨RX4, "count", "(I)I"⟩
abbrev cX4_why : ByteArray := prog_1_method_16_code
def yX4_why : MethodName := ⟨RX4, "why", "(I)I"⟩
abbrev cX4_fallsIn : ByteArray := prog_1_method_17_code
def yX4_fallsIn : MethodName := ⟨RX4, "fallsIn", "(I)I"⟩
abbrev cX4_share : ByteArray := prog_1_method_18_code
def yX4_share : MethodName := ⟨RX4, "share", "(III)I"⟩
abbrev cX4_nextFall : ByteArray := prog_1_method_19_code
def yX4_nextFall : MethodName := ⟨RX4, "nextFall", "(I)I"⟩
abbrev cX4_nextLapse : ByteArray := prog_1_method_20_code
def yX4_nextLapse : MethodName := ⟨RX4, "nextLapse", "(I)I"⟩
abbrev cX4_put : ByteArray := prog_1_method_21_code
def yX4_put : MethodName := ⟨RX4, "put", "(J)I"⟩
abbrev cX4_wipe : ByteArray := prog_1_method_22_code
def yX4_wipe : MethodName := ⟨RX4, "wipe", "()I"⟩
abbrev cX4_fault : ByteArray := prog_1_method_23_code
def yX4_fault : MethodName := ⟨RX4, "fault", "()I"⟩
abbrev cX4_carryOut : ByteArray := prog_1_method_24_code
def yX4_carryOut : MethodName := ⟨RX4, "carryOut", "()I"⟩
abbrev cX4_carryOutOrder : ByteArray := prog_1_method_25_code
def yX4_carryOutOrder : MethodName := ⟨RX4, "carryOutOrder", "()I"⟩
abbrev cX4_undo : ByteArray := prog_1_method_26_code
def yX4_undo : MethodName := ⟨RX4, "undo", "()I"⟩
abbrev cX4_save : ByteArray := prog_1_method_27_code
def yX4_save : MethodName := ⟨RX4, "save", "(I)I"⟩
abbrev cX4_restore : ByteArray := prog_1_method_28_code
def yX4_restore : MethodName := ⟨RX4, "restore", "(I)I"⟩
abbrev cX4_draft : ByteArray := prog_1_method_29_code
def yX4_draft : MethodName := ⟨RX4, "draft", "()V"⟩
abbrev cX4_recorded : ByteArray := prog_1_method_30_code
def yX4_recorded : MethodName := ⟨RX4, "recorded", "(I)I"⟩
abbrev cX4_dropOldest : ByteArray := prog_1_method_31_code
def yX4_dropOldest : MethodName := ⟨RX4, "dropOldest", "()V"⟩
abbrev cX4_holds : ByteArray := prog_1_method_32_code
def yX4_holds : MethodName := ⟨RX4, "holds", "(II)Z"⟩
abbrev cX4_firstOnes : ByteArray := prog_1_method_33_code
def yX4_firstOnes : MethodName := ⟨RX4, "firstOnes", "(I)I"⟩
abbrev cX4_rowsWith : ByteArray := prog_1_method_34_code
def yX4_rowsWith : MethodName := ⟨RX4, "rowsWith", "([III)I"⟩
abbrev cX4_numbersIn : ByteArray := prog_1_method_35_code
def yX4_numbersIn : MethodName := ⟨RX4, "numbersIn", "([II)I"⟩
abbrev cX4_sum : ByteArray := prog_1_method_36_code
def yX4_sum : MethodName := ⟨RX4, "sum", "([II)I"⟩
abbrev cX4_copy : ByteArray := prog_1_method_37_code
def yX4_copy : MethodName := ⟨RX4, "copy", "([I[I)V"⟩
def RX5 : String := "EscheatLotsModel"
def TX5 : u_T := fun k => match k with
  | 0 => ("EscheatLotsModel", "z", "[I", true)
  | 1 => ("EscheatLotsModel", "spare", "[I", true)
  | 2 => ("EscheatLotsModel", "past", "[I", true)
  | 3 => ("EscheatLotsModel", "states", "I", false)
  | 4 => ("EscheatLotsModel", "slots", "[I", true)
  | 5 => ("EscheatLotsModel", "isSaved", "[Z", true)
  | 6 => ("EscheatLotsModel", "pad", "[I", true)
  | 7 => ("EscheatLotsModel", "typed", "I", false)
  | 8 => ("EscheatLotsModel", "spot", "I", false)
  | 9 => ("EscheatLotsModel", "told", "[I", true)
  | _ => ("EscheatLotsModel", "toldMany", "I", false)
def tyX5 : Nat → FieldType := fun k => match k with
  | 0 => .array .int
  | 1 => .array .int
  | 2 => .array .int
  | 3 => .int
  | 4 => .array .int
  | 5 => .array .boolean
  | 6 => .array .int
  | 7 => .int
  | 8 => .int
  | 9 => .array .int
  | _ => .int
abbrev wsX50 : List Cond := u_ws RX5 TX5 11
theorem nmX5 : ∀ a, a < 11 → ∀ b, b < 11 → a ≠ b → (TX5 a).2.1 ≠ (TX5 b).2.1 := by decide +kernel
theorem tyX5_ok : ∀ k, k < 11 → parseFieldDescriptor (TX5 k).2.2.1 = some (tyX5 k) := by decide +kernel
abbrev cX5_init : ByteArray := prog_7_method_1_code
def yX5_init : MethodName := ⟨RX5, "<init>", "()V"⟩
abbrev cX5_in : ByteArray := prog_7_method_2_code
def yX5_in : MethodName := ⟨RX5, "in", "(III)Z"⟩
abbrev cX5_lotOf : ByteArray := prog_7_method_3_code
def yX5_lotOf : MethodName := ⟨RX5, "lotOf", "(II)I"⟩
abbrev cX5_layLot : ByteArray := prog_7_method_4_code
def yX5_layLot : MethodName := ⟨RX5, "layLot", "(III)V"⟩
abbrev cX5_claimOf : ByteArray := prog_7_method_5_code
def yX5_claimOf : MethodName := ⟨RX5, "claimOf", "(II)I"⟩
abbrev cX5_layClaim : ByteArray := prog_7_method_6_code
def yX5_layClaim : MethodName := ⟨RX5, "layClaim", "(III)V"⟩
abbrev cX5_isLot : ByteArray := prog_7_method_7_code
def yX5_isLot : MethodName := ⟨RX5, "isLot", "(I)Z"⟩
abbrev cX5_isClaim : ByteArray := prog_7_method_8_code
def yX5_isClaim : MethodName := ⟨RX5, "isClaim", "(I)Z"⟩
abbrev cX5_isHeir : ByteArray := prog_7_method_9_code
def yX5_isHeir : MethodName := ⟨RX5, "isHeir", "(I)Z"⟩
abbrev cX5_copyState : ByteArray := prog_7_method_10_code
def yX5_copyState : MethodName := ⟨RX5, "copyState", "([II[II)V"⟩
abbrev cX5_record : ByteArray := prog_7_method_11_code
def yX5_record : MethodName := ⟨RX5, "record", "()V"⟩
abbrev cX5_undo : ByteArray := prog_7_method_12_code
def yX5_undo : MethodName := ⟨RX5, "undo", "()I"⟩
abbrev cX5_save : ByteArray := prog_7_method_13_code
def yX5_save : MethodName := ⟨RX5, "save", "(I)I"⟩
abbrev cX5_restore : ByteArray := prog_7_method_14_code
def yX5_restore : MethodName := ⟨RX5, "restore", "(I)I"⟩
abbrev cX5_stands : ByteArray := prog_7_method_15_code
def yX5_stands : MethodName := ⟨RX5, "stands", "(I)Z"⟩
abbrev cX5_claimsTo : ByteArray := prog_7_method_16_code
def yX5_claimsTo : MethodName := ⟨RX5, "claimsTo", "(II)I"⟩
abbrev cX5_standing : ByteArray := prog_7_method_17_code
def yX5_standing : MethodName := ⟨RX5, "standing", "(I)I"⟩
abbrev cX5_size : ByteArray := prog_7_method_18_code
def yX5_size : MethodName := ⟨RX5, "size", "(I)I"⟩
abbrev cX5_nearest : ByteArray := prog_7_method_19_code
def yX5_nearest : MethodName := ⟨RX5, "nearest", "(I)I"⟩
abbrev cX5_nearestOnes : ByteArray := prog_7_method_20_code
def yX5_nearestOnes : MethodName := ⟨RX5, "nearestOnes", "(I)I"⟩
abbrev cX5_shared : ByteArray := prog_7_method_21_code
def yX5_shared : MethodName := ⟨RX5, "shared", "(I)I"⟩
abbrev cX5_part : ByteArray := prog_7_method_22_code
def yX5_part : MethodName := ⟨RX5, "part", "(III)I"⟩
abbrev cX5_isValue : ByteArray := prog_7_method_23_code
def yX5_isValue : MethodName := ⟨RX5, "isValue", "(II)Z"⟩
abbrev cX5_set : ByteArray := prog_7_method_24_code
def yX5_set : MethodName := ⟨RX5, "set", "(II)I"⟩
abbrev cX5_whyNotLot : ByteArray := prog_7_method_25_code
def yX5_whyNotLot : MethodName := ⟨RX5, "whyNotLot", "(I)I"⟩
abbrev cX5_lotNow : ByteArray := prog_7_method_26_code
def yX5_lotNow : MethodName := ⟨RX5, "lotNow", "(I)I"⟩
abbrev cX5_lot : ByteArray := prog_7_method_27_code
def yX5_lot : MethodName := ⟨RX5, "lot", "(I)I"⟩
abbrev cX5_lotsThatAre : ByteArray := prog_7_method_28_code
def yX5_lotsThatAre : MethodName := ⟨RX5, "lotsThatAre", "(I)I"⟩
abbrev cX5_whyNotNotice : ByteArray := prog_7_method_29_code
def yX5_whyNotNotice : MethodName := ⟨RX5, "whyNotNotice", "(I)I"⟩
abbrev cX5_noticeNow : ByteArray := prog_7_method_30_code
def yX5_noticeNow : MethodName := ⟨RX5, "noticeNow", "(I)I"⟩
abbrev cX5_notice : ByteArray := prog_7_method_31_code
def yX5_notice : MethodName := ⟨RX5, "notice", "(I)I"⟩
abbrev cX5_isEnded : ByteArray := prog_7_method_32_code
def yX5_isEnded : MethodName := ⟨RX5, "isEnded", "(I)Z"⟩
abbrev cX5_claims : ByteArray := prog_7_method_33_code
def yX5_claims : MethodName := ⟨RX5, "claims", "(II)Z"⟩
abbrev cX5_whyNotClaim : ByteArray := prog_7_method_34_code
def yX5_whyNotClaim : MethodName := ⟨RX5, "whyNotClaim", "(III)I"⟩
abbrev cX5_claimNow : ByteArray := prog_7_method_35_code
def yX5_claimNow : MethodName := ⟨RX5, "claimNow", "(III)I"⟩
abbrev cX5_claim : ByteArray := prog_7_method_36_code
def yX5_claim : MethodName := ⟨RX5, "claim", "(III)I"⟩
abbrev cX5_whyNotOpen : ByteArray := prog_7_method_37_code
def yX5_whyNotOpen : MethodName := ⟨RX5, "whyNotOpen", "(I)I"⟩
abbrev cX5_whyNotProve : ByteArray := prog_7_method_38_code
def yX5_whyNotProve : MethodName := ⟨RX5, "whyNotProve", "(II)I"⟩
abbrev cX5_proveNow : ByteArray := prog_7_method_39_code
def yX5_proveNow : MethodName := ⟨RX5, "proveNow", "(II)I"⟩
abbrev cX5_prove : ByteArray := prog_7_method_40_code
def yX5_prove : MethodName := ⟨RX5, "prove", "(II)I"⟩
abbrev cX5_whyNotDecide : ByteArray := prog_7_method_41_code
def yX5_whyNotDecide : MethodName := ⟨RX5, "whyNotDecide", "(I)I"⟩
abbrev cX5_decideNow : ByteArray := prog_7_method_42_code
def yX5_decideNow : MethodName := ⟨RX5, "decideNow", "(I)I"⟩
abbrev cX5_decide : ByteArray := prog_7_method_43_code
def yX5_decide : MethodName := ⟨RX5, "decide", "(I)I"⟩
abbrev cX5_whyNotWithdraw : ByteArray := prog_7_method_44_code
def yX5_whyNotWithdraw : MethodName := ⟨RX5, "whyNotWithdraw", "(I)I"⟩
abbrev cX5_withdrawNow : ByteArray := prog_7_method_45_code
def yX5_withdrawNow : MethodName := ⟨RX5, "withdrawNow", "(I)I"⟩
abbrev cX5_withdraw : ByteArray := prog_7_method_46_code
def yX5_withdraw : MethodName := ⟨RX5, "withdraw", "(I)I"⟩
abbrev cX5_whyNotSettle : ByteArray := prog_7_method_47_code
def yX5_whyNotSettle : MethodName := ⟨RX5, "whyNotSettle", "(I)I"⟩
abbrev cX5_isPaid : ByteArray := prog_7_method_48_code
def yX5_isPaid : MethodName := ⟨RX5, "isPaid", "(I)Z"⟩
abbrev cX5_pay : ByteArray := prog_7_method_49_code
def yX5_pay : MethodName := ⟨RX5, "pay", "(II)V"⟩
abbrev cX5_settleNow : ByteArray := prog_7_method_50_code
def yX5_settleNow : MethodName := ⟨RX5, "settleNow", "(I)I"⟩
abbrev cX5_settle : ByteArray := prog_7_method_51_code
def yX5_settle : MethodName := ⟨RX5, "settle", "(I)I"⟩
abbrev cX5_dayOf : ByteArray := prog_7_method_52_code
def yX5_dayOf : MethodName := ⟨RX5, "dayOf", "(I)Z"⟩
abbrev cX5_dayNow : ByteArray := prog_7_method_53_code
def yX5_dayNow : MethodName := ⟨RX5, "dayNow", "()I"⟩
abbrev cX5_whyNotPass : ByteArray := prog_7_method_54_code
def yX5_whyNotPass : MethodName := ⟨RX5, "whyNotPass", "(I)I"⟩
abbrev cX5_passNow : ByteArray := prog_7_method_55_code
def yX5_passNow : MethodName := ⟨RX5, "passNow", "(I)I"⟩
abbrev cX5_pass : ByteArray := prog_7_method_56_code
def yX5_pass : MethodName := ⟨RX5, "pass", "(I)I"⟩
abbrev cX5_allClaimsTo : ByteArray := prog_7_method_57_code
def yX5_allClaimsTo : MethodName := ⟨RX5, "allClaimsTo", "(I)I"⟩
abbrev cX5_of : ByteArray := prog_7_method_58_code
def yX5_of : MethodName := ⟨RX5, "of", "(II)I"⟩
abbrev cX5_ofClaim : ByteArray := prog_7_method_59_code
def yX5_ofClaim : MethodName := ⟨RX5, "ofClaim", "(II)I"⟩
abbrev cX5_claimsOf : ByteArray := prog_7_method_60_code
def yX5_claimsOf : MethodName := ⟨RX5, "claimsOf", "(IZ)I"⟩
abbrev cX5_lotsGot : ByteArray := prog_7_method_61_code
def yX5_lotsGot : MethodName := ⟨RX5, "lotsGot", "(I)I"⟩
abbrev cX5_heir : ByteArray := prog_7_method_62_code
def yX5_heir : MethodName := ⟨RX5, "heir", "(II)I"⟩
abbrev cX5_paid : ByteArray := prog_7_method_63_code
def yX5_paid : MethodName := ⟨RX5, "paid", "(I)I"⟩
abbrev cX5_valueOf : ByteArray := prog_7_method_64_code
def yX5_valueOf : MethodName := ⟨RX5, "valueOf", "(I)I"⟩
abbrev cX5_purses : ByteArray := prog_7_method_65_code
def yX5_purses : MethodName := ⟨RX5, "purses", "()I"⟩
abbrev cX5_standingClaims : ByteArray := prog_7_method_66_code
def yX5_standingClaims : MethodName := ⟨RX5, "standingClaims", "()I"⟩
abbrev cX5_heirsWhoClaimed : ByteArray := prog_7_method_67_code
def yX5_heirsWhoClaimed : MethodName := ⟨RX5, "heirsWhoClaimed", "()I"⟩
abbrev cX5_count : ByteArray := prog_7_method_68_code
def yX5_count : MethodName := ⟨RX5, "count", "(I)I"⟩
abbrev cX5_why : ByteArray := prog_7_method_69_code
def yX5_why : MethodName := ⟨RX5, "why", "(I)I"⟩
abbrev cX5_daysToFall : ByteArray := prog_7_method_70_code
def yX5_daysToFall : MethodName := ⟨RX5, "daysToFall", "(I)I"⟩
abbrev cX5_fallsIn : ByteArray := prog_7_method_71_code
def yX5_fallsIn : MethodName := ⟨RX5, "fallsIn", "(I)I"⟩
abbrev cX5_shareOf : ByteArray := prog_7_method_72_code
def yX5_shareOf : MethodName := ⟨RX5, "shareOf", "(III)I"⟩
abbrev cX5_share : ByteArray := prog_7_method_73_code
def yX5_share : MethodName := ⟨RX5, "share", "(III)I"⟩
abbrev cX5_nextFall : ByteArray := prog_7_method_74_code
def yX5_nextFall : MethodName := ⟨RX5, "nextFall", "(I)I"⟩
abbrev cX5_lapsesIn : ByteArray := prog_7_method_75_code
def yX5_lapsesIn : MethodName := ⟨RX5, "lapsesIn", "(I)I"⟩
abbrev cX5_nextLapse : ByteArray := prog_7_method_76_code
def yX5_nextLapse : MethodName := ⟨RX5, "nextLapse", "(I)I"⟩
abbrev cX5_put : ByteArray := prog_7_method_77_code
def yX5_put : MethodName := ⟨RX5, "put", "(J)I"⟩
abbrev cX5_wipe : ByteArray := prog_7_method_78_code
def yX5_wipe : MethodName := ⟨RX5, "wipe", "()I"⟩
abbrev cX5_sees : ByteArray := prog_7_method_79_code
def yX5_sees : MethodName := ⟨RX5, "sees", "(II)Z"⟩
abbrev cX5_takes : ByteArray := prog_7_method_80_code
def yX5_takes : MethodName := ⟨RX5, "takes", "(I)Z"⟩
abbrev cX5_number : ByteArray := prog_7_method_81_code
def yX5_number : MethodName := ⟨RX5, "number", "(I)I"⟩
abbrev cX5_isLetter : ByteArray := prog_7_method_82_code
def yX5_isLetter : MethodName := ⟨RX5, "isLetter", "(I)Z"⟩
abbrev cX5_readOrder : ByteArray := prog_7_method_83_code
def yX5_readOrder : MethodName := ⟨RX5, "readOrder", "()Z"⟩
abbrev cX5_readPad : ByteArray := prog_7_method_84_code
def yX5_readPad : MethodName := ⟨RX5, "readPad", "()Z"⟩
abbrev cX5_fault : ByteArray := prog_7_method_85_code
def yX5_fault : MethodName := ⟨RX5, "fault", "()I"⟩
abbrev cX5_whyNot : ByteArray := prog_7_method_86_code
def yX5_whyNot : MethodName := ⟨RX5, "whyNot", "(I)I"⟩
abbrev cX5_doOrder : ByteArray := prog_7_method_87_code
def yX5_doOrder : MethodName := ⟨RX5, "doOrder", "(I)I"⟩
abbrev cX5_carryOut : ByteArray := prog_7_method_88_code
def yX5_carryOut : MethodName := ⟨RX5, "carryOut", "()I"⟩
def RJ6 : String := "java/lang/Integer"
def TJ6 : u_T := fun k => match k with
  | _ => ("", "", "", false)
def tyJ6 : Nat → FieldType := fun k => match k with
  | _ => .int
abbrev wsJ60 : List Cond := u_ws RJ6 TJ6 0
theorem nmJ6 : ∀ a, a < 0 → ∀ b, b < 0 → a ≠ b → (TJ6 a).2.1 ≠ (TJ6 b).2.1 := by decide +kernel
theorem tyJ6_ok : ∀ k, k < 0 → parseFieldDescriptor (TJ6 k).2.2.1 = some (tyJ6 k) := by decide +kernel
abbrev cJ6_bitCount_0f7a4 : ByteArray := prog_8_method_49_code
def yJ6_bitCount_0f7a4 : MethodName := ⟨RJ6, "bitCount", "(I)I"⟩
def RJ9 : String := "java/lang/Math"
def TJ9 : u_T := fun k => match k with
  | _ => ("", "", "", false)
def tyJ9 : Nat → FieldType := fun k => match k with
  | _ => .int
abbrev wsJ90 : List Cond := u_ws RJ9 TJ9 0
theorem nmJ9 : ∀ a, a < 0 → ∀ b, b < 0 → a ≠ b → (TJ9 a).2.1 ≠ (TJ9 b).2.1 := by decide +kernel
theorem tyJ9_ok : ∀ k, k < 0 → parseFieldDescriptor (TJ9 k).2.2.1 = some (tyJ9 k) := by decide +kernel
abbrev cJ9_max_7cf53 : ByteArray := prog_9_method_65_code
def yJ9_max_7cf53 : MethodName := ⟨RJ9, "max", "(II)I"⟩
abbrev cJ9_min_7cf53 : ByteArray := prog_9_method_69_code
def yJ9_min_7cf53 : MethodName := ⟨RJ9, "min", "(II)I"⟩
def RJ10 : String := "java/lang/System"
def TJ10 : u_T := fun k => match k with
  | _ => ("", "", "", false)
def tyJ10 : Nat → FieldType := fun k => match k with
  | _ => .int
abbrev wsJ100 : List Cond := u_ws RJ10 TJ10 0
theorem nmJ10 : ∀ a, a < 0 → ∀ b, b < 0 → a ≠ b → (TJ10 a).2.1 ≠ (TJ10 b).2.1 := by decide +kernel
theorem tyJ10_ok : ∀ k, k < 0 → parseFieldDescriptor (TJ10 k).2.2.1 = some (tyJ10 k) := by decide +kernel
def RL : String := "EscheatLotsLaw"
abbrev cL_law : ByteArray := code
def yL_law : MethodName := ⟨RL, "law", "([I)Z"⟩
abbrev vwCl : List vw_C := [(RX0, TX0, 8), (RX1, TX1, 5), (RX2, TX2, 7), (RX3, TX3, 7), (RX4, TX4, 6), (RX5, TX5, 11)]
/-- the tables' words that stay; and those of nest mates -/
def TB : List Cond := lw_tbl.filter goodWord
def isNW : Cond → Bool
  | .methodLinkNest .. => true
  | .fieldLinkNest .. => true
  | _ => false
def NB : List Cond := lw_tbl.filter isNW
theorem tb_at (i : Nat) {w : Cond} (h : lw_tbl[i]? = some w) (hg : goodWord w = true) : w ∈ TB := List.mem_filter.mpr ⟨List.mem_of_getElem? h, hg⟩
theorem nb_at (i : Nat) {w : Cond} (h : lw_tbl[i]? = some w) (hg : isNW w = true) : w ∈ NB := List.mem_filter.mpr ⟨List.mem_of_getElem? h, hg⟩
