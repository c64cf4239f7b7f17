section
-- ===== PART A: goes FIRST, ahead of the names: the tables' words, and 'selects' of the private methods out of them =====
/-- a private method of a class that the tables say can be made, by its rows of tables_1 -/
def lw_okq (q : MethodName × Nat) : Prop := (q.1.cls ≠ "java/lang/invoke/MethodHandle" ∧ q.1.cls ≠ "java/lang/invoke/VarHandle") ∧ Cond.instantiable q.1.cls q.2 ∈ tables_1 ∧ Cond.privateMethod q.1 ∈ tables_1 ∧ Cond.instanceMethod q.1 ∈ tables_1
theorem lw_p0 : lw_okq (⟨"EscheatLots", "draft", "()V"⟩, 6) := ⟨⟨by decide +kernel, by decide +kernel⟩, List.mem_of_getElem? (i := 11) (by decide +kernel), List.mem_of_getElem? (i := 187) (by decide +kernel), List.mem_of_getElem? (i := 188) (by decide +kernel)⟩
theorem lw_p1 : lw_okq (⟨"EscheatLots", "recorded", "(I)I"⟩, 6) := ⟨⟨by decide +kernel, by decide +kernel⟩, List.mem_of_getElem? (i := 11) (by decide +kernel), List.mem_of_getElem? (i := 213) (by decide +kernel), List.mem_of_getElem? (i := 214) (by decide +kernel)⟩
theorem lw_p2 : lw_okq (⟨"EscheatLots", "dropOldest", "()V"⟩, 6) := ⟨⟨by decide +kernel, by decide +kernel⟩, List.mem_of_getElem? (i := 11) (by decide +kernel), List.mem_of_getElem? (i := 217) (by decide +kernel), List.mem_of_getElem? (i := 218) (by decide +kernel)⟩
theorem lw_p3 : lw_okq (⟨"EscheatLots$Office", "canBeClaimed", "(I)Z"⟩, 7) := ⟨⟨by decide +kernel, by decide +kernel⟩, List.mem_of_getElem? (i := 19) (by decide +kernel), List.mem_of_getElem? (i := 265) (by decide +kernel), List.mem_of_getElem? (i := 266) (by decide +kernel)⟩
theorem lw_p4 : lw_okq (⟨"EscheatLots$Office", "coinsToShare", "(I)I"⟩, 7) := ⟨⟨by decide +kernel, by decide +kernel⟩, List.mem_of_getElem? (i := 19) (by decide +kernel), List.mem_of_getElem? (i := 347) (by decide +kernel), List.mem_of_getElem? (i := 348) (by decide +kernel)⟩
theorem lw_p5 : lw_okq (⟨"EscheatLots$Office", "settleClaim", "(II)V"⟩, 7) := ⟨⟨by decide +kernel, by decide +kernel⟩, List.mem_of_getElem? (i := 19) (by decide +kernel), List.mem_of_getElem? (i := 366) (by decide +kernel), List.mem_of_getElem? (i := 367) (by decide +kernel)⟩
theorem lw_p6 : lw_okq (⟨"EscheatLots$Office", "purse", "(I)I"⟩, 7) := ⟨⟨by decide +kernel, by decide +kernel⟩, List.mem_of_getElem? (i := 19) (by decide +kernel), List.mem_of_getElem? (i := 370) (by decide +kernel), List.mem_of_getElem? (i := 371) (by decide +kernel)⟩
theorem lw_p7 : lw_okq (⟨"EscheatLots$Office", "leaveOffice", "(II)V"⟩, 7) := ⟨⟨by decide +kernel, by decide +kernel⟩, List.mem_of_getElem? (i := 19) (by decide +kernel), List.mem_of_getElem? (i := 378) (by decide +kernel), List.mem_of_getElem? (i := 379) (by decide +kernel)⟩
theorem lw_p8 : lw_okq (⟨"EscheatLots$Office", "passDay", "()I"⟩, 7) := ⟨⟨by decide +kernel, by decide +kernel⟩, List.mem_of_getElem? (i := 19) (by decide +kernel), List.mem_of_getElem? (i := 390) (by decide +kernel), List.mem_of_getElem? (i := 391) (by decide +kernel)⟩
theorem lw_p9 : lw_okq (⟨"EscheatLots$Claims", "waitLonger", "(II)V"⟩, 8) := ⟨⟨by decide +kernel, by decide +kernel⟩, List.mem_of_getElem? (i := 54) (by decide +kernel), List.mem_of_getElem? (i := 399) (by decide +kernel), List.mem_of_getElem? (i := 400) (by decide +kernel)⟩
theorem lw_p10 : lw_okq (⟨"EscheatLots$Office", "countDay", "(I)I"⟩, 7) := ⟨⟨by decide +kernel, by decide +kernel⟩, List.mem_of_getElem? (i := 19) (by decide +kernel), List.mem_of_getElem? (i := 404) (by decide +kernel), List.mem_of_getElem? (i := 405) (by decide +kernel)⟩
theorem lw_p11 : lw_okq (⟨"EscheatLots$Office", "idleDays", "(I)I"⟩, 7) := ⟨⟨by decide +kernel, by decide +kernel⟩, List.mem_of_getElem? (i := 19) (by decide +kernel), List.mem_of_getElem? (i := 487) (by decide +kernel), List.mem_of_getElem? (i := 488) (by decide +kernel)⟩
theorem lw_p12 : lw_okq (⟨"EscheatLots$Office", "daysToLapse", "(I)I"⟩, 7) := ⟨⟨by decide +kernel, by decide +kernel⟩, List.mem_of_getElem? (i := 19) (by decide +kernel), List.mem_of_getElem? (i := 491) (by decide +kernel), List.mem_of_getElem? (i := 492) (by decide +kernel)⟩
theorem lw_p13 : lw_okq (⟨"EscheatLots$Office", "lapsesAhead", "(II)Z"⟩, 7) := ⟨⟨by decide +kernel, by decide +kernel⟩, List.mem_of_getElem? (i := 19) (by decide +kernel), List.mem_of_getElem? (i := 523) (by decide +kernel), List.mem_of_getElem? (i := 524) (by decide +kernel)⟩
theorem lw_p14 : lw_okq (⟨"EscheatLots$Pad", "readFirst", "()Z"⟩, 7) := ⟨⟨by decide +kernel, by decide +kernel⟩, List.mem_of_getElem? (i := 127) (by decide +kernel), List.mem_of_getElem? (i := 561) (by decide +kernel), List.mem_of_getElem? (i := 562) (by decide +kernel)⟩
theorem lw_p15 : lw_okq (⟨"EscheatLots$Pad", "readNumber", "()I"⟩, 7) := ⟨⟨by decide +kernel, by decide +kernel⟩, List.mem_of_getElem? (i := 127) (by decide +kernel), List.mem_of_getElem? (i := 565) (by decide +kernel), List.mem_of_getElem? (i := 566) (by decide +kernel)⟩
def lw_privs_1 : List (MethodName × Nat) := [(⟨"EscheatLots", "draft", "()V"⟩, 6), (⟨"EscheatLots", "recorded", "(I)I"⟩, 6), (⟨"EscheatLots", "dropOldest", "()V"⟩, 6), (⟨"EscheatLots$Office", "canBeClaimed", "(I)Z"⟩, 7), (⟨"EscheatLots$Office", "coinsToShare", "(I)I"⟩, 7), (⟨"EscheatLots$Office", "settleClaim", "(II)V"⟩, 7), (⟨"EscheatLots$Office", "purse", "(I)I"⟩, 7), (⟨"EscheatLots$Office", "leaveOffice", "(II)V"⟩, 7), (⟨"EscheatLots$Office", "passDay", "()I"⟩, 7), (⟨"EscheatLots$Claims", "waitLonger", "(II)V"⟩, 8), (⟨"EscheatLots$Office", "countDay", "(I)I"⟩, 7), (⟨"EscheatLots$Office", "idleDays", "(I)I"⟩, 7), (⟨"EscheatLots$Office", "daysToLapse", "(I)I"⟩, 7), (⟨"EscheatLots$Office", "lapsesAhead", "(II)Z"⟩, 7), (⟨"EscheatLots$Pad", "readFirst", "()Z"⟩, 7), (⟨"EscheatLots$Pad", "readNumber", "()I"⟩, 7)]
theorem lw_r1 : ∀ q ∈ lw_privs_1, lw_okq q := List.forall_mem_cons.mpr ⟨lw_p0, List.forall_mem_cons.mpr ⟨lw_p1, List.forall_mem_cons.mpr ⟨lw_p2, List.forall_mem_cons.mpr ⟨lw_p3, List.forall_mem_cons.mpr ⟨lw_p4, List.forall_mem_cons.mpr ⟨lw_p5, List.forall_mem_cons.mpr ⟨lw_p6, List.forall_mem_cons.mpr ⟨lw_p7, List.forall_mem_cons.mpr ⟨lw_p8, List.forall_mem_cons.mpr ⟨lw_p9, List.forall_mem_cons.mpr ⟨lw_p10, List.forall_mem_cons.mpr ⟨lw_p11, List.forall_mem_cons.mpr ⟨lw_p12, List.forall_mem_cons.mpr ⟨lw_p13, List.forall_mem_cons.mpr ⟨lw_p14, List.forall_mem_cons.mpr ⟨lw_p15, fun _ h => absurd h List.not_mem_nil⟩⟩⟩⟩⟩⟩⟩⟩⟩⟩⟩⟩⟩⟩⟩⟩
theorem lw_p16 : lw_okq (⟨"EscheatLots$Pad", "readDigit", "()I"⟩, 7) := ⟨⟨by decide +kernel, by decide +kernel⟩, List.mem_of_getElem? (i := 127) (by decide +kernel), List.mem_of_getElem? (i := 569) (by decide +kernel), List.mem_of_getElem? (i := 570) (by decide +kernel)⟩
theorem lw_p17 : lw_okq (⟨"EscheatLots$Pad", "readSecond", "()Z"⟩, 7) := ⟨⟨by decide +kernel, by decide +kernel⟩, List.mem_of_getElem? (i := 127) (by decide +kernel), List.mem_of_getElem? (i := 577) (by decide +kernel), List.mem_of_getElem? (i := 578) (by decide +kernel)⟩
theorem lw_p18 : lw_okq (⟨"EscheatLots$Pad", "readThird", "()Z"⟩, 7) := ⟨⟨by decide +kernel, by decide +kernel⟩, List.mem_of_getElem? (i := 127) (by decide +kernel), List.mem_of_getElem? (i := 581) (by decide +kernel), List.mem_of_getElem? (i := 582) (by decide +kernel)⟩
theorem lw_p19 : lw_okq (⟨"EscheatLots", "carryOutOrder", "()I"⟩, 6) := ⟨⟨by decide +kernel, by decide +kernel⟩, List.mem_of_getElem? (i := 11) (by decide +kernel), List.mem_of_getElem? (i := 590) (by decide +kernel), List.mem_of_getElem? (i := 591) (by decide +kernel)⟩
theorem lw_p20 : lw_okq (⟨"EscheatLotsModel", "record", "()V"⟩, 11) := ⟨⟨by decide +kernel, by decide +kernel⟩, List.mem_of_getElem? (i := 607) (by decide +kernel), List.mem_of_getElem? (i := 665) (by decide +kernel), List.mem_of_getElem? (i := 666) (by decide +kernel)⟩
theorem lw_p21 : lw_okq (⟨"EscheatLotsModel", "whyNotLot", "(I)I"⟩, 11) := ⟨⟨by decide +kernel, by decide +kernel⟩, List.mem_of_getElem? (i := 607) (by decide +kernel), List.mem_of_getElem? (i := 680) (by decide +kernel), List.mem_of_getElem? (i := 681) (by decide +kernel)⟩
theorem lw_p22 : lw_okq (⟨"EscheatLotsModel", "lotNow", "(I)I"⟩, 11) := ⟨⟨by decide +kernel, by decide +kernel⟩, List.mem_of_getElem? (i := 607) (by decide +kernel), List.mem_of_getElem? (i := 684) (by decide +kernel), List.mem_of_getElem? (i := 685) (by decide +kernel)⟩
theorem lw_p23 : lw_okq (⟨"EscheatLotsModel", "layLot", "(III)V"⟩, 11) := ⟨⟨by decide +kernel, by decide +kernel⟩, List.mem_of_getElem? (i := 607) (by decide +kernel), List.mem_of_getElem? (i := 688) (by decide +kernel), List.mem_of_getElem? (i := 689) (by decide +kernel)⟩
theorem lw_p24 : lw_okq (⟨"EscheatLotsModel", "whyNotNotice", "(I)I"⟩, 11) := ⟨⟨by decide +kernel, by decide +kernel⟩, List.mem_of_getElem? (i := 607) (by decide +kernel), List.mem_of_getElem? (i := 696) (by decide +kernel), List.mem_of_getElem? (i := 697) (by decide +kernel)⟩
theorem lw_p25 : lw_okq (⟨"EscheatLotsModel", "isLot", "(I)Z"⟩, 11) := ⟨⟨by decide +kernel, by decide +kernel⟩, List.mem_of_getElem? (i := 607) (by decide +kernel), List.mem_of_getElem? (i := 700) (by decide +kernel), List.mem_of_getElem? (i := 701) (by decide +kernel)⟩
theorem lw_p26 : lw_okq (⟨"EscheatLotsModel", "lotOf", "(II)I"⟩, 11) := ⟨⟨by decide +kernel, by decide +kernel⟩, List.mem_of_getElem? (i := 607) (by decide +kernel), List.mem_of_getElem? (i := 704) (by decide +kernel), List.mem_of_getElem? (i := 705) (by decide +kernel)⟩
theorem lw_p27 : lw_okq (⟨"EscheatLotsModel", "noticeNow", "(I)I"⟩, 11) := ⟨⟨by decide +kernel, by decide +kernel⟩, List.mem_of_getElem? (i := 607) (by decide +kernel), List.mem_of_getElem? (i := 708) (by decide +kernel), List.mem_of_getElem? (i := 709) (by decide +kernel)⟩
theorem lw_p28 : lw_okq (⟨"EscheatLotsModel", "lotsThatAre", "(I)I"⟩, 11) := ⟨⟨by decide +kernel, by decide +kernel⟩, List.mem_of_getElem? (i := 607) (by decide +kernel), List.mem_of_getElem? (i := 712) (by decide +kernel), List.mem_of_getElem? (i := 713) (by decide +kernel)⟩
theorem lw_p29 : lw_okq (⟨"EscheatLotsModel", "whyNotClaim", "(III)I"⟩, 11) := ⟨⟨by decide +kernel, by decide +kernel⟩, List.mem_of_getElem? (i := 607) (by decide +kernel), List.mem_of_getElem? (i := 723) (by decide +kernel), List.mem_of_getElem? (i := 724) (by decide +kernel)⟩
theorem lw_p30 : lw_okq (⟨"EscheatLotsModel", "isEnded", "(I)Z"⟩, 11) := ⟨⟨by decide +kernel, by decide +kernel⟩, List.mem_of_getElem? (i := 607) (by decide +kernel), List.mem_of_getElem? (i := 730) (by decide +kernel), List.mem_of_getElem? (i := 731) (by decide +kernel)⟩
theorem lw_p31 : lw_okq (⟨"EscheatLotsModel", "claims", "(II)Z"⟩, 11) := ⟨⟨by decide +kernel, by decide +kernel⟩, List.mem_of_getElem? (i := 607) (by decide +kernel), List.mem_of_getElem? (i := 734) (by decide +kernel), List.mem_of_getElem? (i := 735) (by decide +kernel)⟩
def lw_privs_2 : List (MethodName × Nat) := [(⟨"EscheatLots$Pad", "readDigit", "()I"⟩, 7), (⟨"EscheatLots$Pad", "readSecond", "()Z"⟩, 7), (⟨"EscheatLots$Pad", "readThird", "()Z"⟩, 7), (⟨"EscheatLots", "carryOutOrder", "()I"⟩, 6), (⟨"EscheatLotsModel", "record", "()V"⟩, 11), (⟨"EscheatLotsModel", "whyNotLot", "(I)I"⟩, 11), (⟨"EscheatLotsModel", "lotNow", "(I)I"⟩, 11), (⟨"EscheatLotsModel", "layLot", "(III)V"⟩, 11), (⟨"EscheatLotsModel", "whyNotNotice", "(I)I"⟩, 11), (⟨"EscheatLotsModel", "isLot", "(I)Z"⟩, 11), (⟨"EscheatLotsModel", "lotOf", "(II)I"⟩, 11), (⟨"EscheatLotsModel", "noticeNow", "(I)I"⟩, 11), (⟨"EscheatLotsModel", "lotsThatAre", "(I)I"⟩, 11), (⟨"EscheatLotsModel", "whyNotClaim", "(III)I"⟩, 11), (⟨"EscheatLotsModel", "isEnded", "(I)Z"⟩, 11), (⟨"EscheatLotsModel", "claims", "(II)Z"⟩, 11)]
theorem lw_r2 : ∀ q ∈ lw_privs_2, lw_okq q := List.forall_mem_cons.mpr ⟨lw_p16, List.forall_mem_cons.mpr ⟨lw_p17, List.forall_mem_cons.mpr ⟨lw_p18, List.forall_mem_cons.mpr ⟨lw_p19, List.forall_mem_cons.mpr ⟨lw_p20, List.forall_mem_cons.mpr ⟨lw_p21, List.forall_mem_cons.mpr ⟨lw_p22, List.forall_mem_cons.mpr ⟨lw_p23, List.forall_mem_cons.mpr ⟨lw_p24, List.forall_mem_cons.mpr ⟨lw_p25, List.forall_mem_cons.mpr ⟨lw_p26, List.forall_mem_cons.mpr ⟨lw_p27, List.forall_mem_cons.mpr ⟨lw_p28, List.forall_mem_cons.mpr ⟨lw_p29, List.forall_mem_cons.mpr ⟨lw_p30, List.forall_mem_cons.mpr ⟨lw_p31, fun _ h => absurd h List.not_mem_nil⟩⟩⟩⟩⟩⟩⟩⟩⟩⟩⟩⟩⟩⟩⟩⟩
theorem lw_p32 : lw_okq (⟨"EscheatLotsModel", "claimOf", "(II)I"⟩, 11) := ⟨⟨by decide +kernel, by decide +kernel⟩, List.mem_of_getElem? (i := 607) (by decide +kernel), List.mem_of_getElem? (i := 738) (by decide +kernel), List.mem_of_getElem? (i := 739) (by decide +kernel)⟩
theorem lw_p33 : lw_okq (⟨"EscheatLotsModel", "stands", "(I)Z"⟩, 11) := ⟨⟨by decide +kernel, by decide +kernel⟩, List.mem_of_getElem? (i := 607) (by decide +kernel), List.mem_of_getElem? (i := 742) (by decide +kernel), List.mem_of_getElem? (i := 743) (by decide +kernel)⟩
theorem lw_p34 : lw_okq (⟨"EscheatLotsModel", "claimNow", "(III)I"⟩, 11) := ⟨⟨by decide +kernel, by decide +kernel⟩, List.mem_of_getElem? (i := 607) (by decide +kernel), List.mem_of_getElem? (i := 746) (by decide +kernel), List.mem_of_getElem? (i := 747) (by decide +kernel)⟩
theorem lw_p35 : lw_okq (⟨"EscheatLotsModel", "layClaim", "(III)V"⟩, 11) := ⟨⟨by decide +kernel, by decide +kernel⟩, List.mem_of_getElem? (i := 607) (by decide +kernel), List.mem_of_getElem? (i := 750) (by decide +kernel), List.mem_of_getElem? (i := 751) (by decide +kernel)⟩
theorem lw_p36 : lw_okq (⟨"EscheatLotsModel", "whyNotProve", "(II)I"⟩, 11) := ⟨⟨by decide +kernel, by decide +kernel⟩, List.mem_of_getElem? (i := 607) (by decide +kernel), List.mem_of_getElem? (i := 758) (by decide +kernel), List.mem_of_getElem? (i := 759) (by decide +kernel)⟩
theorem lw_p37 : lw_okq (⟨"EscheatLotsModel", "isClaim", "(I)Z"⟩, 11) := ⟨⟨by decide +kernel, by decide +kernel⟩, List.mem_of_getElem? (i := 607) (by decide +kernel), List.mem_of_getElem? (i := 762) (by decide +kernel), List.mem_of_getElem? (i := 763) (by decide +kernel)⟩
theorem lw_p38 : lw_okq (⟨"EscheatLotsModel", "whyNotOpen", "(I)I"⟩, 11) := ⟨⟨by decide +kernel, by decide +kernel⟩, List.mem_of_getElem? (i := 607) (by decide +kernel), List.mem_of_getElem? (i := 766) (by decide +kernel), List.mem_of_getElem? (i := 767) (by decide +kernel)⟩
theorem lw_p39 : lw_okq (⟨"EscheatLotsModel", "proveNow", "(II)I"⟩, 11) := ⟨⟨by decide +kernel, by decide +kernel⟩, List.mem_of_getElem? (i := 607) (by decide +kernel), List.mem_of_getElem? (i := 770) (by decide +kernel), List.mem_of_getElem? (i := 771) (by decide +kernel)⟩
theorem lw_p40 : lw_okq (⟨"EscheatLotsModel", "whyNotDecide", "(I)I"⟩, 11) := ⟨⟨by decide +kernel, by decide +kernel⟩, List.mem_of_getElem? (i := 607) (by decide +kernel), List.mem_of_getElem? (i := 778) (by decide +kernel), List.mem_of_getElem? (i := 779) (by decide +kernel)⟩
theorem lw_p41 : lw_okq (⟨"EscheatLotsModel", "decideNow", "(I)I"⟩, 11) := ⟨⟨by decide +kernel, by decide +kernel⟩, List.mem_of_getElem? (i := 607) (by decide +kernel), List.mem_of_getElem? (i := 782) (by decide +kernel), List.mem_of_getElem? (i := 783) (by decide +kernel)⟩
theorem lw_p42 : lw_okq (⟨"EscheatLotsModel", "whyNotWithdraw", "(I)I"⟩, 11) := ⟨⟨by decide +kernel, by decide +kernel⟩, List.mem_of_getElem? (i := 607) (by decide +kernel), List.mem_of_getElem? (i := 790) (by decide +kernel), List.mem_of_getElem? (i := 791) (by decide +kernel)⟩
theorem lw_p43 : lw_okq (⟨"EscheatLotsModel", "withdrawNow", "(I)I"⟩, 11) := ⟨⟨by decide +kernel, by decide +kernel⟩, List.mem_of_getElem? (i := 607) (by decide +kernel), List.mem_of_getElem? (i := 794) (by decide +kernel), List.mem_of_getElem? (i := 795) (by decide +kernel)⟩
theorem lw_p44 : lw_okq (⟨"EscheatLotsModel", "standing", "(I)I"⟩, 11) := ⟨⟨by decide +kernel, by decide +kernel⟩, List.mem_of_getElem? (i := 607) (by decide +kernel), List.mem_of_getElem? (i := 798) (by decide +kernel), List.mem_of_getElem? (i := 799) (by decide +kernel)⟩
theorem lw_p45 : lw_okq (⟨"EscheatLotsModel", "claimsTo", "(II)I"⟩, 11) := ⟨⟨by decide +kernel, by decide +kernel⟩, List.mem_of_getElem? (i := 607) (by decide +kernel), List.mem_of_getElem? (i := 802) (by decide +kernel), List.mem_of_getElem? (i := 803) (by decide +kernel)⟩
theorem lw_p46 : lw_okq (⟨"EscheatLotsModel", "whyNotSettle", "(I)I"⟩, 11) := ⟨⟨by decide +kernel, by decide +kernel⟩, List.mem_of_getElem? (i := 607) (by decide +kernel), List.mem_of_getElem? (i := 810) (by decide +kernel), List.mem_of_getElem? (i := 811) (by decide +kernel)⟩
theorem lw_p47 : lw_okq (⟨"EscheatLotsModel", "settleNow", "(I)I"⟩, 11) := ⟨⟨by decide +kernel, by decide +kernel⟩, List.mem_of_getElem? (i := 607) (by decide +kernel), List.mem_of_getElem? (i := 814) (by decide +kernel), List.mem_of_getElem? (i := 815) (by decide +kernel)⟩
def lw_privs_3 : List (MethodName × Nat) := [(⟨"EscheatLotsModel", "claimOf", "(II)I"⟩, 11), (⟨"EscheatLotsModel", "stands", "(I)Z"⟩, 11), (⟨"EscheatLotsModel", "claimNow", "(III)I"⟩, 11), (⟨"EscheatLotsModel", "layClaim", "(III)V"⟩, 11), (⟨"EscheatLotsModel", "whyNotProve", "(II)I"⟩, 11), (⟨"EscheatLotsModel", "isClaim", "(I)Z"⟩, 11), (⟨"EscheatLotsModel", "whyNotOpen", "(I)I"⟩, 11), (⟨"EscheatLotsModel", "proveNow", "(II)I"⟩, 11), (⟨"EscheatLotsModel", "whyNotDecide", "(I)I"⟩, 11), (⟨"EscheatLotsModel", "decideNow", "(I)I"⟩, 11), (⟨"EscheatLotsModel", "whyNotWithdraw", "(I)I"⟩, 11), (⟨"EscheatLotsModel", "withdrawNow", "(I)I"⟩, 11), (⟨"EscheatLotsModel", "standing", "(I)I"⟩, 11), (⟨"EscheatLotsModel", "claimsTo", "(II)I"⟩, 11), (⟨"EscheatLotsModel", "whyNotSettle", "(I)I"⟩, 11), (⟨"EscheatLotsModel", "settleNow", "(I)I"⟩, 11)]
theorem lw_r3 : ∀ q ∈ lw_privs_3, lw_okq q := List.forall_mem_cons.mpr ⟨lw_p32, List.forall_mem_cons.mpr ⟨lw_p33, List.forall_mem_cons.mpr ⟨lw_p34, List.forall_mem_cons.mpr ⟨lw_p35, List.forall_mem_cons.mpr ⟨lw_p36, List.forall_mem_cons.mpr ⟨lw_p37, List.forall_mem_cons.mpr ⟨lw_p38, List.forall_mem_cons.mpr ⟨lw_p39, List.forall_mem_cons.mpr ⟨lw_p40, List.forall_mem_cons.mpr ⟨lw_p41, List.forall_mem_cons.mpr ⟨lw_p42, List.forall_mem_cons.mpr ⟨lw_p43, List.forall_mem_cons.mpr ⟨lw_p44, List.forall_mem_cons.mpr ⟨lw_p45, List.forall_mem_cons.mpr ⟨lw_p46, List.forall_mem_cons.mpr ⟨lw_p47, fun _ h => absurd h List.not_mem_nil⟩⟩⟩⟩⟩⟩⟩⟩⟩⟩⟩⟩⟩⟩⟩⟩
theorem lw_p48 : lw_okq (⟨"EscheatLotsModel", "nearestOnes", "(I)I"⟩, 11) := ⟨⟨by decide +kernel, by decide +kernel⟩, List.mem_of_getElem? (i := 607) (by decide +kernel), List.mem_of_getElem? (i := 818) (by decide +kernel), List.mem_of_getElem? (i := 819) (by decide +kernel)⟩
theorem lw_p49 : lw_okq (⟨"EscheatLotsModel", "nearest", "(I)I"⟩, 11) := ⟨⟨by decide +kernel, by decide +kernel⟩, List.mem_of_getElem? (i := 607) (by decide +kernel), List.mem_of_getElem? (i := 822) (by decide +kernel), List.mem_of_getElem? (i := 823) (by decide +kernel)⟩
theorem lw_p50 : lw_okq (⟨"EscheatLotsModel", "shared", "(I)I"⟩, 11) := ⟨⟨by decide +kernel, by decide +kernel⟩, List.mem_of_getElem? (i := 607) (by decide +kernel), List.mem_of_getElem? (i := 826) (by decide +kernel), List.mem_of_getElem? (i := 827) (by decide +kernel)⟩
theorem lw_p51 : lw_okq (⟨"EscheatLotsModel", "pay", "(II)V"⟩, 11) := ⟨⟨by decide +kernel, by decide +kernel⟩, List.mem_of_getElem? (i := 607) (by decide +kernel), List.mem_of_getElem? (i := 833) (by decide +kernel), List.mem_of_getElem? (i := 834) (by decide +kernel)⟩
theorem lw_p52 : lw_okq (⟨"EscheatLotsModel", "isPaid", "(I)Z"⟩, 11) := ⟨⟨by decide +kernel, by decide +kernel⟩, List.mem_of_getElem? (i := 607) (by decide +kernel), List.mem_of_getElem? (i := 837) (by decide +kernel), List.mem_of_getElem? (i := 838) (by decide +kernel)⟩
theorem lw_p53 : lw_okq (⟨"EscheatLotsModel", "whyNotPass", "(I)I"⟩, 11) := ⟨⟨by decide +kernel, by decide +kernel⟩, List.mem_of_getElem? (i := 607) (by decide +kernel), List.mem_of_getElem? (i := 845) (by decide +kernel), List.mem_of_getElem? (i := 846) (by decide +kernel)⟩
theorem lw_p54 : lw_okq (⟨"EscheatLotsModel", "passNow", "(I)I"⟩, 11) := ⟨⟨by decide +kernel, by decide +kernel⟩, List.mem_of_getElem? (i := 607) (by decide +kernel), List.mem_of_getElem? (i := 849) (by decide +kernel), List.mem_of_getElem? (i := 850) (by decide +kernel)⟩
theorem lw_p55 : lw_okq (⟨"EscheatLotsModel", "dayNow", "()I"⟩, 11) := ⟨⟨by decide +kernel, by decide +kernel⟩, List.mem_of_getElem? (i := 607) (by decide +kernel), List.mem_of_getElem? (i := 853) (by decide +kernel), List.mem_of_getElem? (i := 854) (by decide +kernel)⟩
theorem lw_p56 : lw_okq (⟨"EscheatLotsModel", "dayOf", "(I)Z"⟩, 11) := ⟨⟨by decide +kernel, by decide +kernel⟩, List.mem_of_getElem? (i := 607) (by decide +kernel), List.mem_of_getElem? (i := 857) (by decide +kernel), List.mem_of_getElem? (i := 858) (by decide +kernel)⟩
theorem lw_p57 : lw_okq (⟨"EscheatLotsModel", "allClaimsTo", "(I)I"⟩, 11) := ⟨⟨by decide +kernel, by decide +kernel⟩, List.mem_of_getElem? (i := 607) (by decide +kernel), List.mem_of_getElem? (i := 865) (by decide +kernel), List.mem_of_getElem? (i := 866) (by decide +kernel)⟩
theorem lw_p58 : lw_okq (⟨"EscheatLotsModel", "claimsOf", "(IZ)I"⟩, 11) := ⟨⟨by decide +kernel, by decide +kernel⟩, List.mem_of_getElem? (i := 607) (by decide +kernel), List.mem_of_getElem? (i := 877) (by decide +kernel), List.mem_of_getElem? (i := 878) (by decide +kernel)⟩
theorem lw_p59 : lw_okq (⟨"EscheatLotsModel", "lotsGot", "(I)I"⟩, 11) := ⟨⟨by decide +kernel, by decide +kernel⟩, List.mem_of_getElem? (i := 607) (by decide +kernel), List.mem_of_getElem? (i := 881) (by decide +kernel), List.mem_of_getElem? (i := 882) (by decide +kernel)⟩
theorem lw_p60 : lw_okq (⟨"EscheatLotsModel", "valueOf", "(I)I"⟩, 11) := ⟨⟨by decide +kernel, by decide +kernel⟩, List.mem_of_getElem? (i := 607) (by decide +kernel), List.mem_of_getElem? (i := 893) (by decide +kernel), List.mem_of_getElem? (i := 894) (by decide +kernel)⟩
theorem lw_p61 : lw_okq (⟨"EscheatLotsModel", "purses", "()I"⟩, 11) := ⟨⟨by decide +kernel, by decide +kernel⟩, List.mem_of_getElem? (i := 607) (by decide +kernel), List.mem_of_getElem? (i := 897) (by decide +kernel), List.mem_of_getElem? (i := 898) (by decide +kernel)⟩
theorem lw_p62 : lw_okq (⟨"EscheatLotsModel", "standingClaims", "()I"⟩, 11) := ⟨⟨by decide +kernel, by decide +kernel⟩, List.mem_of_getElem? (i := 607) (by decide +kernel), List.mem_of_getElem? (i := 901) (by decide +kernel), List.mem_of_getElem? (i := 902) (by decide +kernel)⟩
theorem lw_p63 : lw_okq (⟨"EscheatLotsModel", "heirsWhoClaimed", "()I"⟩, 11) := ⟨⟨by decide +kernel, by decide +kernel⟩, List.mem_of_getElem? (i := 607) (by decide +kernel), List.mem_of_getElem? (i := 905) (by decide +kernel), List.mem_of_getElem? (i := 906) (by decide +kernel)⟩
def lw_privs_4 : List (MethodName × Nat) := [(⟨"EscheatLotsModel", "nearestOnes", "(I)I"⟩, 11), (⟨"EscheatLotsModel", "nearest", "(I)I"⟩, 11), (⟨"EscheatLotsModel", "shared", "(I)I"⟩, 11), (⟨"EscheatLotsModel", "pay", "(II)V"⟩, 11), (⟨"EscheatLotsModel", "isPaid", "(I)Z"⟩, 11), (⟨"EscheatLotsModel", "whyNotPass", "(I)I"⟩, 11), (⟨"EscheatLotsModel", "passNow", "(I)I"⟩, 11), (⟨"EscheatLotsModel", "dayNow", "()I"⟩, 11), (⟨"EscheatLotsModel", "dayOf", "(I)Z"⟩, 11), (⟨"EscheatLotsModel", "allClaimsTo", "(I)I"⟩, 11), (⟨"EscheatLotsModel", "claimsOf", "(IZ)I"⟩, 11), (⟨"EscheatLotsModel", "lotsGot", "(I)I"⟩, 11), (⟨"EscheatLotsModel", "valueOf", "(I)I"⟩, 11), (⟨"EscheatLotsModel", "purses", "()I"⟩, 11), (⟨"EscheatLotsModel", "standingClaims", "()I"⟩, 11), (⟨"EscheatLotsModel", "heirsWhoClaimed", "()I"⟩, 11)]
theorem lw_r4 : ∀ q ∈ lw_privs_4, lw_okq q := List.forall_mem_cons.mpr ⟨lw_p48, List.forall_mem_cons.mpr ⟨lw_p49, List.forall_mem_cons.mpr ⟨lw_p50, List.forall_mem_cons.mpr ⟨lw_p51, List.forall_mem_cons.mpr ⟨lw_p52, List.forall_mem_cons.mpr ⟨lw_p53, List.forall_mem_cons.mpr ⟨lw_p54, List.forall_mem_cons.mpr ⟨lw_p55, List.forall_mem_cons.mpr ⟨lw_p56, List.forall_mem_cons.mpr ⟨lw_p57, List.forall_mem_cons.mpr ⟨lw_p58, List.forall_mem_cons.mpr ⟨lw_p59, List.forall_mem_cons.mpr ⟨lw_p60, List.forall_mem_cons.mpr ⟨lw_p61, List.forall_mem_cons.mpr ⟨lw_p62, List.forall_mem_cons.mpr ⟨lw_p63, fun _ h => absurd h List.not_mem_nil⟩⟩⟩⟩⟩⟩⟩⟩⟩⟩⟩⟩⟩⟩⟩⟩
theorem lw_p64 : lw_okq (⟨"EscheatLotsModel", "daysToFall", "(I)I"⟩, 11) := ⟨⟨by decide +kernel, by decide +kernel⟩, List.mem_of_getElem? (i := 607) (by decide +kernel), List.mem_of_getElem? (i := 917) (by decide +kernel), List.mem_of_getElem? (i := 918) (by decide +kernel)⟩
theorem lw_p65 : lw_okq (⟨"EscheatLotsModel", "shareOf", "(III)I"⟩, 11) := ⟨⟨by decide +kernel, by decide +kernel⟩, List.mem_of_getElem? (i := 607) (by decide +kernel), List.mem_of_getElem? (i := 925) (by decide +kernel), List.mem_of_getElem? (i := 926) (by decide +kernel)⟩
theorem lw_p66 : lw_okq (⟨"EscheatLotsModel", "lapsesIn", "(I)I"⟩, 11) := ⟨⟨by decide +kernel, by decide +kernel⟩, List.mem_of_getElem? (i := 607) (by decide +kernel), List.mem_of_getElem? (i := 937) (by decide +kernel), List.mem_of_getElem? (i := 938) (by decide +kernel)⟩
theorem lw_p67 : lw_okq (⟨"EscheatLotsModel", "readPad", "()Z"⟩, 11) := ⟨⟨by decide +kernel, by decide +kernel⟩, List.mem_of_getElem? (i := 607) (by decide +kernel), List.mem_of_getElem? (i := 954) (by decide +kernel), List.mem_of_getElem? (i := 955) (by decide +kernel)⟩
theorem lw_p68 : lw_okq (⟨"EscheatLotsModel", "readOrder", "()Z"⟩, 11) := ⟨⟨by decide +kernel, by decide +kernel⟩, List.mem_of_getElem? (i := 607) (by decide +kernel), List.mem_of_getElem? (i := 958) (by decide +kernel), List.mem_of_getElem? (i := 959) (by decide +kernel)⟩
theorem lw_p69 : lw_okq (⟨"EscheatLotsModel", "number", "(I)I"⟩, 11) := ⟨⟨by decide +kernel, by decide +kernel⟩, List.mem_of_getElem? (i := 607) (by decide +kernel), List.mem_of_getElem? (i := 965) (by decide +kernel), List.mem_of_getElem? (i := 966) (by decide +kernel)⟩
theorem lw_p70 : lw_okq (⟨"EscheatLotsModel", "sees", "(II)Z"⟩, 11) := ⟨⟨by decide +kernel, by decide +kernel⟩, List.mem_of_getElem? (i := 607) (by decide +kernel), List.mem_of_getElem? (i := 969) (by decide +kernel), List.mem_of_getElem? (i := 970) (by decide +kernel)⟩
theorem lw_p71 : lw_okq (⟨"EscheatLotsModel", "takes", "(I)Z"⟩, 11) := ⟨⟨by decide +kernel, by decide +kernel⟩, List.mem_of_getElem? (i := 607) (by decide +kernel), List.mem_of_getElem? (i := 973) (by decide +kernel), List.mem_of_getElem? (i := 974) (by decide +kernel)⟩
theorem lw_p72 : lw_okq (⟨"EscheatLotsModel", "whyNot", "(I)I"⟩, 11) := ⟨⟨by decide +kernel, by decide +kernel⟩, List.mem_of_getElem? (i := 607) (by decide +kernel), List.mem_of_getElem? (i := 981) (by decide +kernel), List.mem_of_getElem? (i := 982) (by decide +kernel)⟩
theorem lw_p73 : lw_okq (⟨"EscheatLotsModel", "doOrder", "(I)I"⟩, 11) := ⟨⟨by decide +kernel, by decide +kernel⟩, List.mem_of_getElem? (i := 607) (by decide +kernel), List.mem_of_getElem? (i := 985) (by decide +kernel), List.mem_of_getElem? (i := 986) (by decide +kernel)⟩
def lw_privs_5 : List (MethodName × Nat) := [(⟨"EscheatLotsModel", "daysToFall", "(I)I"⟩, 11), (⟨"EscheatLotsModel", "shareOf", "(III)I"⟩, 11), (⟨"EscheatLotsModel", "lapsesIn", "(I)I"⟩, 11), (⟨"EscheatLotsModel", "readPad", "()Z"⟩, 11), (⟨"EscheatLotsModel", "readOrder", "()Z"⟩, 11), (⟨"EscheatLotsModel", "number", "(I)I"⟩, 11), (⟨"EscheatLotsModel", "sees", "(II)Z"⟩, 11), (⟨"EscheatLotsModel", "takes", "(I)Z"⟩, 11), (⟨"EscheatLotsModel", "whyNot", "(I)I"⟩, 11), (⟨"EscheatLotsModel", "doOrder", "(I)I"⟩, 11)]
theorem lw_r5 : ∀ q ∈ lw_privs_5, lw_okq q := List.forall_mem_cons.mpr ⟨lw_p64, List.forall_mem_cons.mpr ⟨lw_p65, List.forall_mem_cons.mpr ⟨lw_p66, List.forall_mem_cons.mpr ⟨lw_p67, List.forall_mem_cons.mpr ⟨lw_p68, List.forall_mem_cons.mpr ⟨lw_p69, List.forall_mem_cons.mpr ⟨lw_p70, List.forall_mem_cons.mpr ⟨lw_p71, List.forall_mem_cons.mpr ⟨lw_p72, List.forall_mem_cons.mpr ⟨lw_p73, fun _ h => absurd h List.not_mem_nil⟩⟩⟩⟩⟩⟩⟩⟩⟩⟩
def lw_privs : List (MethodName × Nat) := lw_privs_1 ++ (lw_privs_2 ++ (lw_privs_3 ++ (lw_privs_4 ++ (lw_privs_5))))
def lw_tbl : List Cond := k2_sels lw_privs ++ tables_1
theorem lw_privs_ok : ∀ q ∈ lw_privs, lw_okq q := by
  show ∀ q ∈ lw_privs_1 ++ (lw_privs_2 ++ (lw_privs_3 ++ (lw_privs_4 ++ (lw_privs_5)))), lw_okq q
  exact List.forall_mem_append.mpr ⟨lw_r1, List.forall_mem_append.mpr ⟨lw_r2, List.forall_mem_append.mpr ⟨lw_r3, List.forall_mem_append.mpr ⟨lw_r4, lw_r5⟩⟩⟩⟩
-- ===== end of PART A; then your names; then what follows =====
def RX0 : String := "EscheatLots$Claims"
def TX0 : u_T := fun k => match k with
  | 0 => ("EscheatLots$Claims", "count", "I", false)
  | 1 => ("EscheatLots$Claims", "heir", "[I", true)
  | 2 => ("EscheatLots$Claims", "lot", "[I", true)
  | 3 => ("EscheatLots$Claims", "line", "[I", true)
  | 4 => ("EscheatLots$Claims", "proof", "[I", true)
  | 5 => ("EscheatLots$Claims", "state", "[I", true)
  | 6 => ("EscheatLots$Claims", "waited", "[I", true)
  | _ => ("EscheatLots$Claims", "brought", "[I", true)
def tyX0 : Nat → FieldType := fun k => match k with
  | 0 => .int
  | 1 => .array .int
  | 2 => .array .int
  | 3 => .array .int
  | 4 => .array .int
  | 5 => .array .int
  | 6 => .array .int
  | _ => .array .int
abbrev wsX00 : List Cond := u_ws RX0 TX0 8
theorem nmX0 : ∀ a, a < 8 → ∀ b, b < 8 → a ≠ b → (TX0 a).2.1 ≠ (TX0 b).2.1 := by decide +kernel
theorem tyX0_ok : ∀ k, k < 8 → parseFieldDescriptor (TX0 k).2.2.1 = some (tyX0 k) := by decide +kernel
abbrev cX0_init : ByteArray := prog_2_method_1_code
def yX0_init : MethodName := ⟨RX0, "<init>", "()V"⟩
abbrev cX0_become : ByteArray := prog_2_method_2_code
def yX0_become : MethodName := ⟨RX0, "become", "(LEscheatLots$Claims;)V"⟩
abbrev cX0_exists : ByteArray := prog_2_method_3_code
def yX0_exists : MethodName := ⟨RX0, "exists", "(I)Z"⟩
abbrev cX0_isOpen : ByteArray := prog_2_method_4_code
def yX0_isOpen : MethodName := ⟨RX0, "isOpen", "(I)Z"⟩
abbrev cX0_stands : ByteArray := prog_2_method_5_code
def yX0_stands : MethodName := ⟨RX0, "stands", "(I)Z"⟩
abbrev cX0_all : ByteArray := prog_2_method_6_code
def yX0_all : MethodName := ⟨RX0, "all", "()I"⟩
abbrev cX0_inState : ByteArray := prog_2_method_7_code
def yX0_inState : MethodName := ⟨RX0, "inState", "(I)I"⟩
abbrev cX0_standing : ByteArray := prog_2_method_8_code
def yX0_standing : MethodName := ⟨RX0, "standing", "()I"⟩
abbrev cX0_ofHeir : ByteArray := prog_2_method_9_code
def yX0_ofHeir : MethodName := ⟨RX0, "ofHeir", "(I)I"⟩
abbrev cX0_toLot : ByteArray := prog_2_method_10_code
def yX0_toLot : MethodName := ⟨RX0, "toLot", "(I)I"⟩
abbrev cX0_openTo : ByteArray := prog_2_method_11_code
def yX0_openTo : MethodName := ⟨RX0, "openTo", "(I)I"⟩
abbrev cX0_upheldTo : ByteArray := prog_2_method_12_code
def yX0_upheldTo : MethodName := ⟨RX0, "upheldTo", "(I)I"⟩
abbrev cX0_standingTo : ByteArray := prog_2_method_13_code
def yX0_standingTo : MethodName := ⟨RX0, "standingTo", "(I)I"⟩
abbrev cX0_thatBrought : ByteArray := prog_2_method_14_code
def yX0_thatBrought : MethodName := ⟨RX0, "thatBrought", "()I"⟩
abbrev cX0_nearestLine : ByteArray := prog_2_method_15_code
def yX0_nearestLine : MethodName := ⟨RX0, "nearestLine", "(I)I"⟩
abbrev cX0_nearest : ByteArray := prog_2_method_16_code
def yX0_nearest : MethodName := ⟨RX0, "nearest", "(I)I"⟩
abbrev cX0_waitOneDay : ByteArray := prog_2_method_17_code
def yX0_waitOneDay : MethodName := ⟨RX0, "waitOneDay", "(I)I"⟩
abbrev cX0_waitLonger : ByteArray := prog_2_method_18_code
def yX0_waitLonger : MethodName := ⟨RX0, "waitLonger", "(II)V"⟩
def RX1 : String := "EscheatLots$Lots"
def TX1 : u_T := fun k => match k with
  | 0 => ("EscheatLots$Lots", "count", "I", false)
  | 1 => ("EscheatLots$Lots", "value", "[I", true)
  | 2 => ("EscheatLots$Lots", "state", "[I", true)
  | 3 => ("EscheatLots$Lots", "counted", "[I", true)
  | _ => ("EscheatLots$Lots", "since", "[I", true)
def tyX1 : Nat → FieldType := fun k => match k with
  | 0 => .int
  | 1 => .array .int
  | 2 => .array .int
  | 3 => .array .int
  | _ => .array .int
abbrev wsX10 : List Cond := u_ws RX1 TX1 5
theorem nmX1 : ∀ a, a < 5 → ∀ b, b < 5 → a ≠ b → (TX1 a).2.1 ≠ (TX1 b).2.1 := by decide +kernel
theorem tyX1_ok : ∀ k, k < 5 → parseFieldDescriptor (TX1 k).2.2.1 = some (tyX1 k) := by decide +kernel
abbrev cX1_init : ByteArray := prog_3_method_1_code
def yX1_init : MethodName := ⟨RX1, "<init>", "()V"⟩
abbrev cX1_become : ByteArray := prog_3_method_2_code
def yX1_become : MethodName := ⟨RX1, "become", "(LEscheatLots$Lots;)V"⟩
abbrev cX1_exists : ByteArray := prog_3_method_3_code
def yX1_exists : MethodName := ⟨RX1, "exists", "(I)Z"⟩
abbrev cX1_all : ByteArray := prog_3_method_4_code
def yX1_all : MethodName := ⟨RX1, "all", "()I"⟩
abbrev cX1_inState : ByteArray := prog_3_method_5_code
def yX1_inState : MethodName := ⟨RX1, "inState", "(I)I"⟩
abbrev cX1_isOver : ByteArray := prog_3_method_6_code
def yX1_isOver : MethodName := ⟨RX1, "isOver", "(I)Z"⟩
def RX2 : String := "EscheatLots$Office"
def TX2 : u_T := fun k => match k with
  | 0 => ("EscheatLots$Office", "settings", "[I", true)
  | 1 => ("EscheatLots$Office", "lots", "LEscheatLots$Lots;", true)
  | 2 => ("EscheatLots$Office", "claims", "LEscheatLots$Claims;", true)
  | 3 => ("EscheatLots$Office", "paidOrder", "[I", true)
  | 4 => ("EscheatLots$Office", "paidHeirs", "I", false)
  | 5 => ("EscheatLots$Office", "crown", "I", false)
  | _ => ("EscheatLots$Office", "day", "I", false)
def tyX2 : Nat → FieldType := fun k => match k with
  | 0 => .array .int
  | 1 => .object "EscheatLots$Lots"
  | 2 => .object "EscheatLots$Claims"
  | 3 => .array .int
  | 4 => .int
  | 5 => .int
  | _ => .int
abbrev wsX20 : List Cond := u_ws RX2 TX2 7
theorem nmX2 : ∀ a, a < 7 → ∀ b, b < 7 → a ≠ b → (TX2 a).2.1 ≠ (TX2 b).2.1 := by decide +kernel
theorem tyX2_ok : ∀ k, k < 7 → parseFieldDescriptor (TX2 k).2.2.1 = some (tyX2 k) := by decide +kernel
abbrev cX2_init : ByteArray := prog_4_method_1_code
def yX2_init : MethodName := ⟨RX2, "<init>", "()V"⟩
abbrev cX2_become : ByteArray := prog_4_method_2_code
def yX2_become : MethodName := ⟨RX2, "become", "(LEscheatLots$Office;)V"⟩
abbrev cX2_isHeir : ByteArray := prog_4_method_3_code
def yX2_isHeir : MethodName := ⟨RX2, "isHeir", "(I)Z"⟩
abbrev cX2_changeSetting : ByteArray := prog_4_method_4_code
def yX2_changeSetting : MethodName := ⟨RX2, "changeSetting", "(II)I"⟩
abbrev cX2_addLot : ByteArray := prog_4_method_5_code
def yX2_addLot : MethodName := ⟨RX2, "addLot", "(I)I"⟩
abbrev cX2_giveNotice : ByteArray := prog_4_method_6_code
def yX2_giveNotice : MethodName := ⟨RX2, "giveNotice", "(I)I"⟩
abbrev cX2_addClaim : ByteArray := prog_4_method_7_code
def yX2_addClaim : MethodName := ⟨RX2, "addClaim", "(III)I"⟩
abbrev cX2_canBeClaimed : ByteArray := prog_4_method_8_code
def yX2_canBeClaimed : MethodName := ⟨RX2, "canBeClaimed", "(I)Z"⟩
abbrev cX2_addProof : ByteArray := prog_4_method_9_code
def yX2_addProof : MethodName := ⟨RX2, "addProof", "(II)I"⟩
abbrev cX2_judge : ByteArray := prog_4_method_10_code
def yX2_judge : MethodName := ⟨RX2, "judge", "(I)I"⟩
abbrev cX2_takeBack : ByteArray := prog_4_method_11_code
def yX2_takeBack : MethodName := ⟨RX2, "takeBack", "(I)I"⟩
abbrev cX2_shareOut : ByteArray := prog_4_method_12_code
def yX2_shareOut : MethodName := ⟨RX2, "shareOut", "(I)I"⟩
abbrev cX2_coinsToShare : ByteArray := prog_4_method_13_code
def yX2_coinsToShare : MethodName := ⟨RX2, "coinsToShare", "(I)I"⟩
abbrev cX2_part : ByteArray := prog_4_method_14_code
def yX2_part : MethodName := ⟨RX2, "part", "(III)I"⟩
abbrev cX2_settleClaim : ByteArray := prog_4_method_15_code
def yX2_settleClaim : MethodName := ⟨RX2, "settleClaim", "(II)V"⟩
abbrev cX2_leaveOffice : ByteArray := prog_4_method_16_code
def yX2_leaveOffice : MethodName := ⟨RX2, "leaveOffice", "(II)V"⟩
abbrev cX2_passDays : ByteArray := prog_4_method_17_code
def yX2_passDays : MethodName := ⟨RX2, "passDays", "(I)I"⟩
abbrev cX2_passDay : ByteArray := prog_4_method_18_code
def yX2_passDay : MethodName := ⟨RX2, "passDay", "()I"⟩
abbrev cX2_countDay : ByteArray := prog_4_method_19_code
def yX2_countDay : MethodName := ⟨RX2, "countDay", "(I)I"⟩
abbrev cX2_aboutLot : ByteArray := prog_4_method_20_code
def yX2_aboutLot : MethodName := ⟨RX2, "aboutLot", "(II)I"⟩
abbrev cX2_aboutClaim : ByteArray := prog_4_method_21_code
def yX2_aboutClaim : MethodName := ⟨RX2, "aboutClaim", "(II)I"⟩
abbrev cX2_aboutHeir : ByteArray := prog_4_method_22_code
def yX2_aboutHeir : MethodName := ⟨RX2, "aboutHeir", "(II)I"⟩
abbrev cX2_purse : ByteArray := prog_4_method_23_code
def yX2_purse : MethodName := ⟨RX2, "purse", "(I)I"⟩
abbrev cX2_heirPaid : ByteArray := prog_4_method_24_code
def yX2_heirPaid : MethodName := ⟨RX2, "heirPaid", "(I)I"⟩
abbrev cX2_number : ByteArray := prog_4_method_25_code
def yX2_number : MethodName := ⟨RX2, "number", "(I)I"⟩
abbrev cX2_whyNot : ByteArray := prog_4_method_26_code
def yX2_whyNot : MethodName := ⟨RX2, "whyNot", "(I)I"⟩
abbrev cX2_daysToFall : ByteArray := prog_4_method_27_code
def yX2_daysToFall : MethodName := ⟨RX2, "daysToFall", "(I)I"⟩
abbrev cX2_idleDays : ByteArray := prog_4_method_28_code
def yX2_idleDays : MethodName := ⟨RX2, "idleDays", "(I)I"⟩
abbrev cX2_daysToLapse : ByteArray := prog_4_method_29_code
def yX2_daysToLapse : MethodName := ⟨RX2, "daysToLapse", "(I)I"⟩
abbrev cX2_wouldGet : ByteArray := prog_4_method_30_code
def yX2_wouldGet : MethodName := ⟨RX2, "wouldGet", "(III)I"⟩
abbrev cX2_firstFall : ByteArray := prog_4_method_31_code
def yX2_firstFall : MethodName := ⟨RX2, "firstFall", "(I)I"⟩
abbrev cX2_firstLapse : ByteArray := prog_4_method_32_code
def yX2_firstLapse : MethodName := ⟨RX2, "firstLapse", "(I)I"⟩
abbrev cX2_lapsesAhead : ByteArray := prog_4_method_33_code
def yX2_lapsesAhead : MethodName := ⟨RX2, "lapsesAhead", "(II)Z"⟩
def RX3 : String := "EscheatLots$Pad"
def TX3 : u_T := fun k => match k with
  | 0 => ("EscheatLots$Pad", "text", "[C", true)
  | 1 => ("EscheatLots$Pad", "length", "I", false)
  | 2 => ("EscheatLots$Pad", "at", "I", false)
  | 3 => ("EscheatLots$Pad", "kind", "C", false)
  | 4 => ("EscheatLots$Pad", "first", "I", false)
  | 5 => ("EscheatLots$Pad", "second", "I", false)
  | _ => ("EscheatLots$Pad", "third", "I", false)
def tyX3 : Nat → FieldType := fun k => match k with
  | 0 => .array .char
  | 1 => .int
  | 2 => .int
  | 3 => .char
  | 4 => .int
  | 5 => .int
  | _ => .int
abbrev wsX30 : List Cond := u_ws RX3 TX3 7
theorem nmX3 : ∀ a, a < 7 → ∀ b, b < 7 → a ≠ b → (TX3 a).2.1 ≠ (TX3 b).2.1 := by decide +kernel
theorem tyX3_ok : ∀ k, k < 7 → parseFieldDescriptor (TX3 k).2.2.1 = some (tyX3 k) := by decide +kernel
abbrev cX3_init : ByteArray := prog_5_method_1_code
def yX3_init : MethodName := ⟨RX3, "<init>", "()V"⟩
abbrev cX3_append : ByteArray := prog_5_method_2_code
def yX3_append : MethodName := ⟨RX3, "append", "(J)I"⟩
abbrev cX3_charactersIn : ByteArray := prog_5_method_3_code
def yX3_charactersIn : MethodName := ⟨RX3, "charactersIn", "(J)I"⟩
abbrev cX3_codeAt : ByteArray := prog_5_method_4_code
def yX3_codeAt : MethodName := ⟨RX3, "codeAt", "(JI)I"⟩
abbrev cX3_empty : ByteArray := prog_5_method_5_code
def yX3_empty : MethodName := ⟨RX3, "empty", "()I"⟩
abbrev cX3_firstFault : ByteArray := prog_5_method_6_code
def yX3_firstFault : MethodName := ⟨RX3, "firstFault", "()I"⟩
abbrev cX3_readOrder : ByteArray := prog_5_method_7_code
def yX3_readOrder : MethodName := ⟨RX3, "readOrder", "()Z"⟩
abbrev cX3_readFirst : ByteArray := prog_5_method_8_code
def yX3_readFirst : MethodName := ⟨RX3, "readFirst", "()Z"⟩
abbrev cX3_readSecond : ByteArray := prog_5_method_9_code
def yX3_readSecond : MethodName := ⟨RX3, "readSecond", "()Z"⟩
abbrev cX3_readThird : ByteArray := prog_5_method_10_code
def yX3_readThird : MethodName := ⟨RX3, "readThird", "()Z"⟩
abbrev cX3_readSign : ByteArray := prog_5_method_11_code
def yX3_readSign : MethodName := ⟨RX3, "readSign", "(C)Z"⟩
abbrev cX3_readNumber : ByteArray := prog_5_method_12_code
def yX3_readNumber : MethodName := ⟨RX3, "readNumber", "()I"⟩
abbrev cX3_readDigit : ByteArray := prog_5_method_13_code
def yX3_readDigit : MethodName := ⟨RX3, "readDigit", "()I"⟩
def RX4 : String := "EscheatLots"
def TX4 : u_T := fun k => match k with
  | 0 => ("EscheatLots", "office", "LEscheatLots$Office;", true)
  | 1 => ("EscheatLots", "pad", "LEscheatLots$Pad;", true)
  | 2 => ("EscheatLots", "history", "[LEscheatLots$Office;", true)
  | 3 => ("EscheatLots", "changes", "I", false)
  | 4 => ("EscheatLots", "slots", "[LEscheatLots$Office;", true)
  | _ => ("EscheatLots", "saved", "[Z", true)
def tyX4 : Nat → FieldType := fun k => match k with
  | 0 => .object "EscheatLots$Office"
  | 1 => .object "EscheatLots$Pad"
  | 2 => .array (.object "EscheatLots$Office")
  | 3 => .int
  | 4 => .array (.object "EscheatLots$Office")
  | _ => .array .boolean
abbrev wsX40 : List Cond := u_ws RX4 TX4 6
theorem nmX4 : ∀ a, a < 6 → ∀ b, b < 6 → a ≠ b → (TX4 a).2.1 ≠ (TX4 b).2.1 := by decide +kernel
theorem tyX4_ok : ∀ k, k < 6 → parseFieldDescriptor (TX4 k).2.2.1 = some (tyX4 k) := by decide +kernel
abbrev cX4_init : ByteArray := prog_1_method_1_code
def yX4_init : MethodName := ⟨RX4, "<init>", "()V"⟩
abbrev cX4_set : ByteArray := prog_1_method_2_code
def yX4_set : MethodName := ⟨RX4, "set", "(II)I"⟩
abbrev cX4_lot : ByteArray := prog_1_method_3_code
def yX4_lot : MethodName := ⟨RX4, "lot", "(I)I"⟩
abbrev cX4_notice : ByteArray := prog_1_method_4_code
def yX4_notice : MethodName := ⟨RX4, "notice", "(I)I"⟩
abbrev cX4_claim : ByteArray := prog_1_method_5_code
def yX4_claim : MethodName := ⟨RX4, "claim", "(III)I"⟩
abbrev cX4_prove : ByteArray := prog_1_method_6_code
def yX4_prove : MethodName := ⟨RX4, "prove", "(II)I"⟩
abbrev cX4_decide : ByteArray := prog_1_method_7_code
def yX4_decide : MethodName := ⟨RX4, "decide", "(I)I"⟩
abbrev cX4_withdraw : ByteArray := prog_1_method_8_code
def yX4_withdraw : MethodName := ⟨RX4, "withdraw", "(I)I"⟩
abbrev cX4_settle : ByteArray := prog_1_method_9_code
def yX4_settle : MethodName := ⟨RX4, "settle", "(I)I"⟩
abbrev cX4_pass : ByteArray := prog_1_method_10_code
def yX4_pass : MethodName := ⟨RX4, "pass", "(I)I"⟩
abbrev cX4_of : ByteArray := prog_1_method_11_code
def yX4_of : MethodName := ⟨RX4, "of", "(II)I"⟩
abbrev cX4_ofClaim : ByteArray := prog_1_method_12_code
def yX4_ofClaim : MethodName := ⟨RX4, "ofClaim", "(II)I"⟩
abbrev cX4_heir : ByteArray := prog_1_method_13_code
def yX4_heir : MethodName := ⟨RX4, "heir", "(II)I"⟩
abbrev cX4_paid : ByteArray := prog_1_method_14_code
def yX4_paid : MethodName := ⟨RX4, "paid", "(I)I"⟩
abbrev cX4_count : ByteArray := prog_1_method_15_code
def yX4_count : MethodName := ⟨RX4, "count", "(I)I"⟩
abbrev cX4_why : ByteArray := prog_1_method_16_code
def yX4_why : MethodName := ⟨RX4, "why", "(I)I"⟩
abbrev cX4_fallsIn : ByteArray := prog_1_method_17_code
def yX4_fallsIn : MethodName := ⟨RX4, "fallsIn", "(I)I"⟩
abbrev cX4_share : ByteArray := prog_1_method_18_code
def yX4_share : MethodName := ⟨RX4, "share", "(III)I"⟩
abbrev cX4_nextFall : ByteArray := prog_1_method_19_code
def yX4_nextFall : MethodName := ⟨RX4, "nextFall", "(I)I"⟩
abbrev cX4_nextLapse : ByteArray := prog_1_method_20_code
def yX4_nextLapse : MethodName := ⟨RX4, "nextLapse", "(I)I"⟩
abbrev cX4_put : ByteArray := prog_1_method_21_code
def yX4_put : MethodName := ⟨RX4, "put", "(J)I"⟩
abbrev cX4_wipe : ByteArray := prog_1_method_22_code
def yX4_wipe : MethodName := ⟨RX4, "wipe", "()I"⟩
abbrev cX4_fault : ByteArray := prog_1_method_23_code
def yX4_fault : MethodName := ⟨RX4, "fault", "()I"⟩
abbrev cX4_carryOut : ByteArray := prog_1_method_24_code
def yX4_carryOut : MethodName := ⟨RX4, "carryOut", "()I"⟩
abbrev cX4_carryOutOrder : ByteArray := prog_1_method_25_code
def yX4_carryOutOrder : MethodName := ⟨RX4, "carryOutOrder", "()I"⟩
abbrev cX4_undo : ByteArray := prog_1_method_26_code
def yX4_undo : MethodName := ⟨RX4, "undo", "()I"⟩
abbrev cX4_save : ByteArray := prog_1_method_27_code
def yX4_save : MethodName := ⟨RX4, "save", "(I)I"⟩
abbrev cX4_restore : ByteArray := prog_1_method_28_code
def yX4_restore : MethodName := ⟨RX4, "restore", "(I)I"⟩
abbrev cX4_draft : ByteArray := prog_1_method_29_code
def yX4_draft : MethodName := ⟨RX4, "draft", "()V"⟩
abbrev cX4_recorded : ByteArray := prog_1_method_30_code
def yX4_recorded : MethodName := ⟨RX4, "recorded", "(I)I"⟩
abbrev cX4_dropOldest : ByteArray := prog_1_method_31_code
def yX4_dropOldest : MethodName := ⟨RX4, "dropOldest", "()V"⟩
abbrev cX4_holds : ByteArray := prog_1_method_32_code
def yX4_holds : MethodName := ⟨RX4, "holds", "(II)Z"⟩
abbrev cX4_firstOnes : ByteArray := prog_1_method_33_code
def yX4_firstOnes : MethodName := ⟨RX4, "firstOnes", "(I)I"⟩
abbrev cX4_rowsWith : ByteArray := prog_1_method_34_code
def yX4_rowsWith : MethodName := ⟨RX4, "rowsWith", "([III)I"⟩
abbrev cX4_numbersIn : ByteArray := prog_1_method_35_code
def yX4_numbersIn : MethodName := ⟨RX4, "numbersIn", "([II)I"⟩
abbrev cX4_sum : ByteArray := prog_1_method_36_code
def yX4_sum : MethodName := ⟨RX4, "sum", "([II)I"⟩
abbrev cX4_copy : ByteArray := prog_1_method_37_code
def yX4_copy : MethodName := ⟨RX4, "copy", "([I[I)V"⟩
def RX5 : String := "EscheatLotsModel"
def TX5 : u_T := fun k => match k with
  | 0 => ("EscheatLotsModel", "z", "[I", true)
  | 1 => ("EscheatLotsModel", "spare", "[I", true)
  | 2 => ("EscheatLotsModel", "past", "[I", true)
  | 3 => ("EscheatLotsModel", "states", "I", false)
  | 4 => ("EscheatLotsModel", "slots", "[I", true)
  | 5 => ("EscheatLotsModel", "isSaved", "[Z", true)
  | 6 => ("EscheatLotsModel", "pad", "[I", true)
  | 7 => ("EscheatLotsModel", "typed", "I", false)
  | 8 => ("EscheatLotsModel", "spot", "I", false)
  | 9 => ("EscheatLotsModel", "told", "[I", true)
  | _ => ("EscheatLotsModel", "toldMany", "I", false)
def tyX5 : Nat → FieldType := fun k => match k with
  | 0 => .array .int
  | 1 => .array .int
  | 2 => .array .int
  | 3 => .int
  | 4 => .array .int
  | 5 => .array .boolean
  | 6 => .array .int
  | 7 => .int
  | 8 => .int
  | 9 => .array .int
  | _ => .int
abbrev wsX50 : List Cond := u_ws RX5 TX5 11
theorem nmX5 : ∀ a, a < 11 → ∀ b, b < 11 → a ≠ b → (TX5 a).2.1 ≠ (TX5 b).2.1 := by decide +kernel
theorem tyX5_ok : ∀ k, k < 11 → parseFieldDescriptor (TX5 k).2.2.1 = some (tyX5 k) := by decide +kernel
abbrev cX5_init : ByteArray := prog_7_method_1_code
def yX5_init : MethodName := ⟨RX5, "<init>", "()V"⟩
abbrev cX5_in : ByteArray := prog_7_method_2_code
def yX5_in : MethodName := ⟨RX5, "in", "(III)Z"⟩
abbrev cX5_lotOf : ByteArray := prog_7_method_3_code
def yX5_lotOf : MethodName := ⟨RX5, "lotOf", "(II)I"⟩
abbrev cX5_layLot : ByteArray := prog_7_method_4_code
def yX5_layLot : MethodName := ⟨RX5, "layLot", "(III)V"⟩
abbrev cX5_claimOf : ByteArray := prog_7_method_5_code
def yX5_claimOf : MethodName := ⟨RX5, "claimOf", "(II)I"⟩
abbrev cX5_layClaim : ByteArray := prog_7_method_6_code
def yX5_layClaim : MethodName := ⟨RX5, "layClaim", "(III)V"⟩
abbrev cX5_isLot : ByteArray := prog_7_method_7_code
def yX5_isLot : MethodName := ⟨RX5, "isLot", "(I)Z"⟩
abbrev cX5_isClaim : ByteArray := prog_7_method_8_code
def yX5_isClaim : MethodName := ⟨RX5, "isClaim", "(I)Z"⟩
abbrev cX5_isHeir : ByteArray := prog_7_method_9_code
def yX5_isHeir : MethodName := ⟨RX5, "isHeir", "(I)Z"⟩
abbrev cX5_copyState : ByteArray := prog_7_method_10_code
def yX5_copyState : MethodName := ⟨RX5, "copyState", "([II[II)V"⟩
abbrev cX5_record : ByteArray := prog_7_method_11_code
def yX5_record : MethodName := ⟨RX5, "record", "()V"⟩
abbrev cX5_undo : ByteArray := prog_7_method_12_code
def yX5_undo : MethodName := ⟨RX5, "undo", "()I"⟩
abbrev cX5_save : ByteArray := prog_7_method_13_code
def yX5_save : MethodName := ⟨RX5, "save", "(I)I"⟩
abbrev cX5_restore : ByteArray := prog_7_method_14_code
def yX5_restore : MethodName := ⟨RX5, "restore", "(I)I"⟩
abbrev cX5_stands : ByteArray := prog_7_method_15_code
def yX5_stands : MethodName := ⟨RX5, "stands", "(I)Z"⟩
abbrev cX5_claimsTo : ByteArray := prog_7_method_16_code
def yX5_claimsTo : MethodName := ⟨RX5, "claimsTo", "(II)I"⟩
abbrev cX5_standing : ByteArray := prog_7_method_17_code
def yX5_standing : MethodName := ⟨RX5, "standing", "(I)I"⟩
abbrev cX5_size : ByteArray := prog_7_method_18_code
def yX5_size : MethodName := ⟨RX5, "size", "(I)I"⟩
abbrev cX5_nearest : ByteArray := prog_7_method_19_code
def yX5_nearest : MethodName := ⟨RX5, "nearest", "(I)I"⟩
abbrev cX5_nearestOnes : ByteArray := prog_7_method_20_code
def yX5_nearestOnes : MethodName := ⟨RX5, "nearestOnes", "(I)I"⟩
abbrev cX5_shared : ByteArray := prog_7_method_21_code
def yX5_shared : MethodName := ⟨RX5, "shared", "(I)I"⟩
abbrev cX5_part : ByteArray := prog_7_method_22_code
def yX5_part : MethodName := ⟨RX5, "part", "(III)I"⟩
abbrev cX5_isValue : ByteArray := prog_7_method_23_code
def yX5_isValue : MethodName := ⟨RX5, "isValue", "(II)Z"⟩
abbrev cX5_set : ByteArray := prog_7_method_24_code
def yX5_set : MethodName := ⟨RX5, "set", "(II)I"⟩
abbrev cX5_whyNotLot : ByteArray := prog_7_method_25_code
def yX5_whyNotLot : MethodName := ⟨RX5, "whyNotLot", "(I)I"⟩
abbrev cX5_lotNow : ByteArray := prog_7_method_26_code
def yX5_lotNow : MethodName := ⟨RX5, "lotNow", "(I)I"⟩
abbrev cX5_lot : ByteArray := prog_7_method_27_code
def yX5_lot : MethodName := ⟨RX5, "lot", "(I)I"⟩
abbrev cX5_lotsThatAre : ByteArray := prog_7_method_28_code
def yX5_lotsThatAre : MethodName := ⟨RX5, "lotsThatAre", "(I)I"⟩
abbrev cX5_whyNotNotice : ByteArray := prog_7_method_29_code
def yX5_whyNotNotice : MethodName := ⟨RX5, "whyNotNotice", "(I)I"⟩
abbrev cX5_noticeNow : ByteArray := prog_7_method_30_code
def yX5_noticeNow : MethodName := ⟨RX5, "noticeNow", "(I)I"⟩
abbrev cX5_notice : ByteArray := prog_7_method_31_code
def yX5_notice : MethodName := ⟨RX5, "notice", "(I)I"⟩
abbrev cX5_isEnded : ByteArray := prog_7_method_32_code
def yX5_isEnded : MethodName := ⟨RX5, "isEnded", "(I)Z"⟩
abbrev cX5_claims : ByteArray := prog_7_method_33_code
def yX5_claims : MethodName := ⟨RX5, "claims", "(II)Z"⟩
abbrev cX5_whyNotClaim : ByteArray := prog_7_method_34_code
def yX5_whyNotClaim : MethodName := ⟨RX5, "whyNotClaim", "(III)I"⟩
abbrev cX5_claimNow : ByteArray := prog_7_method_35_code
def yX5_claimNow : MethodName := ⟨RX5, "claimNow", "(III)I"⟩
abbrev cX5_claim : ByteArray := prog_7_method_36_code
def yX5_claim : MethodName := ⟨RX5, "claim", "(III)I"⟩
abbrev cX5_whyNotOpen : ByteArray := prog_7_method_37_code
def yX5_whyNotOpen : MethodName := ⟨RX5, "whyNotOpen", "(I)I"⟩
abbrev cX5_whyNotProve : ByteArray := prog_7_method_38_code
def yX5_whyNotProve : MethodName := ⟨RX5, "whyNotProve", "(II)I"⟩
abbrev cX5_proveNow : ByteArray := prog_7_method_39_code
def yX5_proveNow : MethodName := ⟨RX5, "proveNow", "(II)I"⟩
abbrev cX5_prove : ByteArray := prog_7_method_40_code
def yX5_prove : MethodName := ⟨RX5, "prove", "(II)I"⟩
abbrev cX5_whyNotDecide : ByteArray := prog_7_method_41_code
def yX5_whyNotDecide : MethodName := ⟨RX5, "whyNotDecide", "(I)I"⟩
abbrev cX5_decideNow : ByteArray := prog_7_method_42_code
def yX5_decideNow : MethodName := ⟨RX5, "decideNow", "(I)I"⟩
abbrev cX5_decide : ByteArray := prog_7_method_43_code
def yX5_decide : MethodName := ⟨RX5, "decide", "(I)I"⟩
abbrev cX5_whyNotWithdraw : ByteArray := prog_7_method_44_code
def yX5_whyNotWithdraw : MethodName := ⟨RX5, "whyNotWithdraw", "(I)I"⟩
abbrev cX5_withdrawNow : ByteArray := prog_7_method_45_code
def yX5_withdrawNow : MethodName := ⟨RX5, "withdrawNow", "(I)I"⟩
abbrev cX5_withdraw : ByteArray := prog_7_method_46_code
def yX5_withdraw : MethodName := ⟨RX5, "withdraw", "(I)I"⟩
abbrev cX5_whyNotSettle : ByteArray := prog_7_method_47_code
def yX5_whyNotSettle : MethodName := ⟨RX5, "whyNotSettle", "(I)I"⟩
abbrev cX5_isPaid : ByteArray := prog_7_method_48_code
def yX5_isPaid : MethodName := ⟨RX5, "isPaid", "(I)Z"⟩
abbrev cX5_pay : ByteArray := prog_7_method_49_code
def yX5_pay : MethodName := ⟨RX5, "pay", "(II)V"⟩
abbrev cX5_settleNow : ByteArray := prog_7_method_50_code
def yX5_settleNow : MethodName := ⟨RX5, "settleNow", "(I)I"⟩
abbrev cX5_settle : ByteArray := prog_7_method_51_code
def yX5_settle : MethodName := ⟨RX5, "settle", "(I)I"⟩
abbrev cX5_dayOf : ByteArray := prog_7_method_52_code
def yX5_dayOf : MethodName := ⟨RX5, "dayOf", "(I)Z"⟩
abbrev cX5_dayNow : ByteArray := prog_7_method_53_code
def yX5_dayNow : MethodName := ⟨RX5, "dayNow", "()I"⟩
abbrev cX5_whyNotPass : ByteArray := prog_7_method_54_code
def yX5_whyNotPass : MethodName := ⟨RX5, "whyNotPass", "(I)I"⟩
abbrev cX5_passNow : ByteArray := prog_7_method_55_code
def yX5_passNow : MethodName := ⟨RX5, "passNow", "(I)I"⟩
abbrev cX5_pass : ByteArray := prog_7_method_56_code
def yX5_pass : MethodName := ⟨RX5, "pass", "(I)I"⟩
abbrev cX5_allClaimsTo : ByteArray := prog_7_method_57_code
def yX5_allClaimsTo : MethodName := ⟨RX5, "allClaimsTo", "(I)I"⟩
abbrev cX5_of : ByteArray := prog_7_method_58_code
def yX5_of : MethodName := ⟨RX5, "of", "(II)I"⟩
abbrev cX5_ofClaim : ByteArray := prog_7_method_59_code
def yX5_ofClaim : MethodName := ⟨RX5, "ofClaim", "(II)I"⟩
abbrev cX5_claimsOf : ByteArray := prog_7_method_60_code
def yX5_claimsOf : MethodName := ⟨RX5, "claimsOf", "(IZ)I"⟩
abbrev cX5_lotsGot : ByteArray := prog_7_method_61_code
def yX5_lotsGot : MethodName := ⟨RX5, "lotsGot", "(I)I"⟩
abbrev cX5_heir : ByteArray := prog_7_method_62_code
def yX5_heir : MethodName := ⟨RX5, "heir", "(II)I"⟩
abbrev cX5_paid : ByteArray := prog_7_method_63_code
def yX5_paid : MethodName := ⟨RX5, "paid", "(I)I"⟩
abbrev cX5_valueOf : ByteArray := prog_7_method_64_code
def yX5_valueOf : MethodName := ⟨RX5, "valueOf", "(I)I"⟩
abbrev cX5_purses : ByteArray := prog_7_method_65_code
def yX5_purses : MethodName := ⟨RX5, "purses", "()I"⟩
abbrev cX5_standingClaims : ByteArray := prog_7_method_66_code
def yX5_standingClaims : MethodName := ⟨RX5, "standingClaims", "()I"⟩
abbrev cX5_heirsWhoClaimed : ByteArray := prog_7_method_67_code
def yX5_heirsWhoClaimed : MethodName := ⟨RX5, "heirsWhoClaimed", "()I"⟩
abbrev cX5_count : ByteArray := prog_7_method_68_code
def yX5_count : MethodName := ⟨RX5, "count", "(I)I"⟩
abbrev cX5_why : ByteArray := prog_7_method_69_code
def yX5_why : MethodName := ⟨RX5, "why", "(I)I"⟩
abbrev cX5_daysToFall : ByteArray := prog_7_method_70_code
def yX5_daysToFall : MethodName := ⟨RX5, "daysToFall", "(I)I"⟩
abbrev cX5_fallsIn : ByteArray := prog_7_method_71_code
def yX5_fallsIn : MethodName := ⟨RX5, "fallsIn", "(I)I"⟩
abbrev cX5_shareOf : ByteArray := prog_7_method_72_code
def yX5_shareOf : MethodName := ⟨RX5, "shareOf", "(III)I"⟩
abbrev cX5_share : ByteArray := prog_7_method_73_code
def yX5_share : MethodName := ⟨RX5, "share", "(III)I"⟩
abbrev cX5_nextFall : ByteArray := prog_7_method_74_code
def yX5_nextFall : MethodName := ⟨RX5, "nextFall", "(I)I"⟩
abbrev cX5_lapsesIn : ByteArray := prog_7_method_75_code
def yX5_lapsesIn : MethodName := ⟨RX5, "lapsesIn", "(I)I"⟩
abbrev cX5_nextLapse : ByteArray := prog_7_method_76_code
def yX5_nextLapse : MethodName := ⟨RX5, "nextLapse", "(I)I"⟩
abbrev cX5_put : ByteArray := prog_7_method_77_code
def yX5_put : MethodName := ⟨RX5, "put", "(J)I"⟩
abbrev cX5_wipe : ByteArray := prog_7_method_78_code
def yX5_wipe : MethodName := ⟨RX5, "wipe", "()I"⟩
abbrev cX5_sees : ByteArray := prog_7_method_79_code
def yX5_sees : MethodName := ⟨RX5, "sees", "(II)Z"⟩
abbrev cX5_takes : ByteArray := prog_7_method_80_code
def yX5_takes : MethodName := ⟨RX5, "takes", "(I)Z"⟩
abbrev cX5_number : ByteArray := prog_7_method_81_code
def yX5_number : MethodName := ⟨RX5, "number", "(I)I"⟩
abbrev cX5_isLetter : ByteArray := prog_7_method_82_code
def yX5_isLetter : MethodName := ⟨RX5, "isLetter", "(I)Z"⟩
abbrev cX5_readOrder : ByteArray := prog_7_method_83_code
def yX5_readOrder : MethodName := ⟨RX5, "readOrder", "()Z"⟩
abbrev cX5_readPad : ByteArray := prog_7_method_84_code
def yX5_readPad : MethodName := ⟨RX5, "readPad", "()Z"⟩
abbrev cX5_fault : ByteArray := prog_7_method_85_code
def yX5_fault : MethodName := ⟨RX5, "fault", "()I"⟩
abbrev cX5_whyNot : ByteArray := prog_7_method_86_code
def yX5_whyNot : MethodName := ⟨RX5, "whyNot", "(I)I"⟩
abbrev cX5_doOrder : ByteArray := prog_7_method_87_code
def yX5_doOrder : MethodName := ⟨RX5, "doOrder", "(I)I"⟩
abbrev cX5_carryOut : ByteArray := prog_7_method_88_code
def yX5_carryOut : MethodName := ⟨RX5, "carryOut", "()I"⟩
def RJ6 : String := "java/lang/Integer"
def TJ6 : u_T := fun k => match k with
  | _ => ("", "", "", false)
def tyJ6 : Nat → FieldType := fun k => match k with
  | _ => .int
abbrev wsJ60 : List Cond := u_ws RJ6 TJ6 0
theorem nmJ6 : ∀ a, a < 0 → ∀ b, b < 0 → a ≠ b → (TJ6 a).2.1 ≠ (TJ6 b).2.1 := by decide +kernel
theorem tyJ6_ok : ∀ k, k < 0 → parseFieldDescriptor (TJ6 k).2.2.1 = some (tyJ6 k) := by decide +kernel
abbrev cJ6_bitCount_0f7a4 : ByteArray := prog_8_method_49_code
def yJ6_bitCount_0f7a4 : MethodName := ⟨RJ6, "bitCount", "(I)I"⟩
def RJ9 : String := "java/lang/Math"
def TJ9 : u_T := fun k => match k with
  | _ => ("", "", "", false)
def tyJ9 : Nat → FieldType := fun k => match k with
  | _ => .int
abbrev wsJ90 : List Cond := u_ws RJ9 TJ9 0
theorem nmJ9 : ∀ a, a < 0 → ∀ b, b < 0 → a ≠ b → (TJ9 a).2.1 ≠ (TJ9 b).2.1 := by decide +kernel
theorem tyJ9_ok : ∀ k, k < 0 → parseFieldDescriptor (TJ9 k).2.2.1 = some (tyJ9 k) := by decide +kernel
abbrev cJ9_max_7cf53 : ByteArray := prog_9_method_65_code
def yJ9_max_7cf53 : MethodName := ⟨RJ9, "max", "(II)I"⟩
abbrev cJ9_min_7cf53 : ByteArray := prog_9_method_69_code
def yJ9_min_7cf53 : MethodName := ⟨RJ9, "min", "(II)I"⟩
def RJ10 : String := "java/lang/System"
def TJ10 : u_T := fun k => match k with
  | _ => ("", "", "", false)
def tyJ10 : Nat → FieldType := fun k => match k with
  | _ => .int
abbrev wsJ100 : List Cond := u_ws RJ10 TJ10 0
theorem nmJ10 : ∀ a, a < 0 → ∀ b, b < 0 → a ≠ b → (TJ10 a).2.1 ≠ (TJ10 b).2.1 := by decide +kernel
theorem tyJ10_ok : ∀ k, k < 0 → parseFieldDescriptor (TJ10 k).2.2.1 = some (tyJ10 k) := by decide +kernel
def RL : String := "EscheatLotsLaw"
abbrev cL_law : ByteArray := code
def yL_law : MethodName := ⟨RL, "law", "([I)Z"⟩
abbrev vwCl : List vw_C := [(RX0, TX0, 8), (RX1, TX1, 5), (RX2, TX2, 7), (RX3, TX3, 7), (RX4, TX4, 6), (RX5, TX5, 11)]
/-- the tables' words that stay; and those of nest mates -/
def TB : List Cond := lw_tbl.filter goodWord
def isNW : Cond → Bool
  | .methodLinkNest .. => true
  | .fieldLinkNest .. => true
  | _ => false
def NB : List Cond := lw_tbl.filter isNW
theorem tb_at (i : Nat) {w : Cond} (h : lw_tbl[i]? = some w) (hg : goodWord w = true) : w ∈ TB := List.mem_filter.mpr ⟨List.mem_of_getElem? h, hg⟩
theorem nb_at (i : Nat) {w : Cond} (h : lw_tbl[i]? = some w) (hg : isNW w = true) : w ∈ NB := List.mem_filter.mpr ⟨List.mem_of_getElem? h, hg⟩
end
section
theorem q74 : Cond.initialized RL ∈ TB := tb_at 74 (by decide +kernel) rfl
theorem q75 : Cond.initialized RX4 ∈ TB := tb_at 75 (by decide +kernel) rfl
theorem q76 : Cond.initialized RX2 ∈ TB := tb_at 76 (by decide +kernel) rfl
theorem q77 : Cond.initialized RX1 ∈ TB := tb_at 77 (by decide +kernel) rfl
theorem q78 : Cond.initialized RX0 ∈ TB := tb_at 78 (by decide +kernel) rfl
theorem q79 : Cond.initialized RJ9 ∈ TB := tb_at 79 (by decide +kernel) rfl
theorem q80 : Cond.initialized RJ10 ∈ TB := tb_at 80 (by decide +kernel) rfl
theorem q81 : Cond.initialized RX3 ∈ TB := tb_at 81 (by decide +kernel) rfl
theorem q82 : Cond.initialized RX5 ∈ TB := tb_at 82 (by decide +kernel) rfl
theorem q83 : Cond.initialized RJ6 ∈ TB := tb_at 83 (by decide +kernel) rfl
theorem q84 : Cond.classLink RL 7 RX4 ∈ TB := tb_at 84 (by decide +kernel) rfl
theorem q85 : Cond.instantiable RX4 6 ∈ TB := tb_at 85 (by decide +kernel) rfl
theorem q86 : Cond.methodLink RL 9 yX4_init ∈ TB := tb_at 86 (by decide +kernel) rfl
theorem q87 : Cond.instanceMethod yX4_init ∈ TB := tb_at 87 (by decide +kernel) rfl
set_option maxRecDepth 100000 in
theorem q88 : Cond.code yX4_init cX4_init 2 none ∈ TB := tb_at 88 rfl rfl
theorem q89 : Cond.methodLink RX4 1 Lib.objectInit ∈ TB := tb_at 89 (by decide +kernel) rfl
theorem q90 : Cond.instanceMethod Lib.objectInit ∈ TB := tb_at 90 (by decide +kernel) rfl
set_option maxRecDepth 100000 in
theorem q91 : Cond.code Lib.objectInit ⟨#[0xb1]⟩ 1 none ∈ TB := tb_at 91 rfl rfl
theorem q92 : Cond.classLink RX4 7 RX2 ∈ TB := tb_at 92 (by decide +kernel) rfl
theorem q93 : Cond.instantiable RX2 7 ∈ TB := tb_at 93 (by decide +kernel) rfl
theorem q94 : Cond.methodLink RX4 9 yX2_init ∈ TB := tb_at 94 (by decide +kernel) rfl
theorem q95 : Cond.instanceMethod yX2_init ∈ TB := tb_at 95 (by decide +kernel) rfl
set_option maxRecDepth 100000 in
theorem q96 : Cond.code yX2_init cX2_init 1 none ∈ TB := tb_at 96 rfl rfl
theorem q97 : Cond.methodLink RX2 3 Lib.objectInit ∈ TB := tb_at 97 (by decide +kernel) rfl
theorem q98 : Cond.classLink RX2 15 RX1 ∈ TB := tb_at 98 (by decide +kernel) rfl
theorem q99 : Cond.instantiable RX1 5 ∈ TB := tb_at 99 (by decide +kernel) rfl
theorem q100 : Cond.methodLinkNest RX2 17 yX1_init RX4 ∈ NB := nb_at 100 (by decide +kernel) rfl
theorem q101 : Cond.instanceMethod yX1_init ∈ TB := tb_at 101 (by decide +kernel) rfl
set_option maxRecDepth 100000 in
theorem q102 : Cond.code yX1_init cX1_init 1 none ∈ TB := tb_at 102 rfl rfl
theorem q103 : Cond.methodLink RX1 3 Lib.objectInit ∈ TB := tb_at 103 (by decide +kernel) rfl
theorem q104 : Cond.fieldLink RX1 9 "EscheatLots$Lots" "count" "I" ∈ TB := tb_at 104 (by decide +kernel) rfl
theorem q105 : Cond.fieldLink RX2 62 "EscheatLots$Lots" "count" "I" ∈ TB := tb_at 105 (by decide +kernel) rfl
theorem q106 : Cond.fieldLink RX4 153 "EscheatLots$Lots" "count" "I" ∈ TB := tb_at 106 (by decide +kernel) rfl
theorem q107 : Cond.fieldLink RX1 15 "EscheatLots$Lots" "value" "[I" ∈ TB := tb_at 107 (by decide +kernel) rfl
theorem q108 : Cond.fieldLink RX2 65 "EscheatLots$Lots" "value" "[I" ∈ TB := tb_at 108 (by decide +kernel) rfl
theorem q109 : Cond.fieldLink RX1 19 "EscheatLots$Lots" "state" "[I" ∈ TB := tb_at 109 (by decide +kernel) rfl
theorem q110 : Cond.fieldLink RX2 72 "EscheatLots$Lots" "state" "[I" ∈ TB := tb_at 110 (by decide +kernel) rfl
theorem q111 : Cond.fieldLink RX1 22 "EscheatLots$Lots" "counted" "[I" ∈ TB := tb_at 111 (by decide +kernel) rfl
theorem q112 : Cond.fieldLink RX2 175 "EscheatLots$Lots" "counted" "[I" ∈ TB := tb_at 112 (by decide +kernel) rfl
theorem q113 : Cond.fieldLink RX1 25 "EscheatLots$Lots" "since" "[I" ∈ TB := tb_at 113 (by decide +kernel) rfl
theorem q114 : Cond.fieldLink RX2 106 "EscheatLots$Lots" "since" "[I" ∈ TB := tb_at 114 (by decide +kernel) rfl
theorem q115 : Cond.lays RX1 "EscheatLots$Lots" "count" "I" ∈ TB := tb_at 115 (by decide +kernel) rfl
theorem q117 : Cond.laysFinal RX1 "EscheatLots$Lots" "value" "[I" ∈ TB := tb_at 117 (by decide +kernel) rfl
theorem q119 : Cond.laysFinal RX1 "EscheatLots$Lots" "state" "[I" ∈ TB := tb_at 119 (by decide +kernel) rfl
theorem q121 : Cond.laysFinal RX1 "EscheatLots$Lots" "counted" "[I" ∈ TB := tb_at 121 (by decide +kernel) rfl
theorem q123 : Cond.laysFinal RX1 "EscheatLots$Lots" "since" "[I" ∈ TB := tb_at 123 (by decide +kernel) rfl
theorem q126 : Cond.arrayClass .int ∈ TB := tb_at 126 (by decide +kernel) rfl
theorem q127 : Cond.classLink RX2 22 RX0 ∈ TB := tb_at 127 (by decide +kernel) rfl
theorem q128 : Cond.instantiable RX0 8 ∈ TB := tb_at 128 (by decide +kernel) rfl
theorem q129 : Cond.methodLinkNest RX2 24 yX0_init RX4 ∈ NB := nb_at 129 (by decide +kernel) rfl
theorem q130 : Cond.instanceMethod yX0_init ∈ TB := tb_at 130 (by decide +kernel) rfl
set_option maxRecDepth 100000 in
theorem q131 : Cond.code yX0_init cX0_init 1 none ∈ TB := tb_at 131 rfl rfl
theorem q132 : Cond.methodLink RX0 3 Lib.objectInit ∈ TB := tb_at 132 (by decide +kernel) rfl
theorem q133 : Cond.fieldLink RX0 9 "EscheatLots$Claims" "count" "I" ∈ TB := tb_at 133 (by decide +kernel) rfl
theorem q134 : Cond.fieldLink RX2 96 "EscheatLots$Claims" "count" "I" ∈ TB := tb_at 134 (by decide +kernel) rfl
theorem q135 : Cond.fieldLink RX0 15 "EscheatLots$Claims" "heir" "[I" ∈ TB := tb_at 135 (by decide +kernel) rfl
theorem q136 : Cond.fieldLink RX2 97 "EscheatLots$Claims" "heir" "[I" ∈ TB := tb_at 136 (by decide +kernel) rfl
theorem q137 : Cond.fieldLink RX0 19 "EscheatLots$Claims" "lot" "[I" ∈ TB := tb_at 137 (by decide +kernel) rfl
theorem q138 : Cond.fieldLink RX2 100 "EscheatLots$Claims" "lot" "[I" ∈ TB := tb_at 138 (by decide +kernel) rfl
theorem q139 : Cond.fieldLink RX0 22 "EscheatLots$Claims" "line" "[I" ∈ TB := tb_at 139 (by decide +kernel) rfl
theorem q140 : Cond.fieldLink RX2 103 "EscheatLots$Claims" "line" "[I" ∈ TB := tb_at 140 (by decide +kernel) rfl
theorem q141 : Cond.fieldLink RX0 25 "EscheatLots$Claims" "proof" "[I" ∈ TB := tb_at 141 (by decide +kernel) rfl
theorem q142 : Cond.fieldLink RX2 116 "EscheatLots$Claims" "proof" "[I" ∈ TB := tb_at 142 (by decide +kernel) rfl
theorem q143 : Cond.fieldLink RX0 28 "EscheatLots$Claims" "state" "[I" ∈ TB := tb_at 143 (by decide +kernel) rfl
theorem q144 : Cond.fieldLink RX2 128 "EscheatLots$Claims" "state" "[I" ∈ TB := tb_at 144 (by decide +kernel) rfl
theorem q145 : Cond.fieldLink RX0 31 "EscheatLots$Claims" "waited" "[I" ∈ TB := tb_at 145 (by decide +kernel) rfl
theorem q146 : Cond.fieldLink RX2 125 "EscheatLots$Claims" "waited" "[I" ∈ TB := tb_at 146 (by decide +kernel) rfl
theorem q147 : Cond.fieldLink RX0 34 "EscheatLots$Claims" "brought" "[I" ∈ TB := tb_at 147 (by decide +kernel) rfl
theorem q148 : Cond.fieldLink RX2 162 "EscheatLots$Claims" "brought" "[I" ∈ TB := tb_at 148 (by decide +kernel) rfl
theorem q149 : Cond.lays RX0 "EscheatLots$Claims" "count" "I" ∈ TB := tb_at 149 (by decide +kernel) rfl
theorem q151 : Cond.laysFinal RX0 "EscheatLots$Claims" "heir" "[I" ∈ TB := tb_at 151 (by decide +kernel) rfl
theorem q153 : Cond.laysFinal RX0 "EscheatLots$Claims" "lot" "[I" ∈ TB := tb_at 153 (by decide +kernel) rfl
theorem q155 : Cond.laysFinal RX0 "EscheatLots$Claims" "line" "[I" ∈ TB := tb_at 155 (by decide +kernel) rfl
theorem q157 : Cond.laysFinal RX0 "EscheatLots$Claims" "proof" "[I" ∈ TB := tb_at 157 (by decide +kernel) rfl
theorem q159 : Cond.laysFinal RX0 "EscheatLots$Claims" "state" "[I" ∈ TB := tb_at 159 (by decide +kernel) rfl
theorem q161 : Cond.laysFinal RX0 "EscheatLots$Claims" "waited" "[I" ∈ TB := tb_at 161 (by decide +kernel) rfl
theorem q163 : Cond.laysFinal RX0 "EscheatLots$Claims" "brought" "[I" ∈ TB := tb_at 163 (by decide +kernel) rfl
theorem q166 : Cond.fieldLinkNest RX2 42 "EscheatLots" "AT_FIRST" "[I" RX4 ∈ NB := nb_at 166 (by decide +kernel) rfl
theorem q168 : Cond.methodLinkNest RX2 45 yX4_copy RX4 ∈ NB := nb_at 168 (by decide +kernel) rfl
theorem q169 : Cond.static yX4_copy ∈ TB := tb_at 169 (by decide +kernel) rfl
set_option maxRecDepth 100000 in
theorem q170 : Cond.code yX4_copy cX4_copy 2 none ∈ TB := tb_at 170 rfl rfl
theorem q171 : Cond.methodLink RX4 165 Lib.Math.min.name ∈ TB := tb_at 171 (by decide +kernel) rfl
theorem q172 : Cond.static Lib.Math.min.name ∈ TB := tb_at 172 (by decide +kernel) rfl
set_option maxRecDepth 100000 in
theorem q173 : Cond.code Lib.Math.min.name Lib.Math.min.code 2 (some .int) ∈ TB := tb_at 173 rfl rfl
theorem q174 : Cond.methodLink RX4 170 arraycopyName ∈ TB := tb_at 174 (by decide +kernel) rfl
theorem q175 : Cond.static arraycopyName ∈ TB := tb_at 175 (by decide +kernel) rfl
theorem q176 : Cond.native arraycopyName ∈ TB := tb_at 176 (by decide +kernel) rfl
theorem q177 : Cond.fieldLink RX2 9 "EscheatLots$Office" "settings" "[I" ∈ TB := tb_at 177 (by decide +kernel) rfl
theorem q178 : Cond.fieldLink RX2 18 "EscheatLots$Office" "lots" "LEscheatLots$Lots;" ∈ TB := tb_at 178 (by decide +kernel) rfl
theorem q179 : Cond.fieldLink RX4 149 "EscheatLots$Office" "lots" "LEscheatLots$Lots;" ∈ TB := tb_at 179 (by decide +kernel) rfl
theorem q180 : Cond.fieldLink RX2 25 "EscheatLots$Office" "claims" "LEscheatLots$Claims;" ∈ TB := tb_at 180 (by decide +kernel) rfl
theorem q181 : Cond.fieldLink RX2 29 "EscheatLots$Office" "paidOrder" "[I" ∈ TB := tb_at 181 (by decide +kernel) rfl
theorem q182 : Cond.fieldLink RX2 32 "EscheatLots$Office" "paidHeirs" "I" ∈ TB := tb_at 182 (by decide +kernel) rfl
theorem q183 : Cond.fieldLink RX2 36 "EscheatLots$Office" "crown" "I" ∈ TB := tb_at 183 (by decide +kernel) rfl
theorem q184 : Cond.fieldLink RX2 39 "EscheatLots$Office" "day" "I" ∈ TB := tb_at 184 (by decide +kernel) rfl
theorem q185 : Cond.laysFinal RX2 "EscheatLots$Office" "settings" "[I" ∈ TB := tb_at 185 (by decide +kernel) rfl
theorem q187 : Cond.laysFinal RX2 "EscheatLots$Office" "lots" "LEscheatLots$Lots;" ∈ TB := tb_at 187 (by decide +kernel) rfl
theorem q189 : Cond.laysFinal RX2 "EscheatLots$Office" "claims" "LEscheatLots$Claims;" ∈ TB := tb_at 189 (by decide +kernel) rfl
theorem q191 : Cond.laysFinal RX2 "EscheatLots$Office" "paidOrder" "[I" ∈ TB := tb_at 191 (by decide +kernel) rfl
theorem q193 : Cond.lays RX2 "EscheatLots$Office" "paidHeirs" "I" ∈ TB := tb_at 193 (by decide +kernel) rfl
theorem q195 : Cond.lays RX2 "EscheatLots$Office" "crown" "I" ∈ TB := tb_at 195 (by decide +kernel) rfl
theorem q197 : Cond.lays RX2 "EscheatLots$Office" "day" "I" ∈ TB := tb_at 197 (by decide +kernel) rfl
theorem q200 : Cond.classLink RX4 16 RX3 ∈ TB := tb_at 200 (by decide +kernel) rfl
theorem q201 : Cond.instantiable RX3 7 ∈ TB := tb_at 201 (by decide +kernel) rfl
theorem q202 : Cond.methodLinkNest RX4 18 yX3_init RX4 ∈ NB := nb_at 202 (by decide +kernel) rfl
theorem q203 : Cond.instanceMethod yX3_init ∈ TB := tb_at 203 (by decide +kernel) rfl
set_option maxRecDepth 100000 in
theorem q204 : Cond.code yX3_init cX3_init 1 none ∈ TB := tb_at 204 rfl rfl
theorem q205 : Cond.methodLink RX3 3 Lib.objectInit ∈ TB := tb_at 205 (by decide +kernel) rfl
theorem q206 : Cond.fieldLink RX3 9 "EscheatLots$Pad" "text" "[C" ∈ TB := tb_at 206 (by decide +kernel) rfl
theorem q207 : Cond.fieldLink RX3 15 "EscheatLots$Pad" "length" "I" ∈ TB := tb_at 207 (by decide +kernel) rfl
theorem q208 : Cond.fieldLink RX4 86 "EscheatLots$Pad" "length" "I" ∈ TB := tb_at 208 (by decide +kernel) rfl
theorem q209 : Cond.fieldLink RX3 19 "EscheatLots$Pad" "at" "I" ∈ TB := tb_at 209 (by decide +kernel) rfl
theorem q210 : Cond.fieldLink RX4 118 "EscheatLots$Pad" "at" "I" ∈ TB := tb_at 210 (by decide +kernel) rfl
theorem q211 : Cond.fieldLink RX3 22 "EscheatLots$Pad" "kind" "C" ∈ TB := tb_at 211 (by decide +kernel) rfl
theorem q212 : Cond.fieldLink RX4 132 "EscheatLots$Pad" "kind" "C" ∈ TB := tb_at 212 (by decide +kernel) rfl
theorem q213 : Cond.fieldLink RX3 26 "EscheatLots$Pad" "first" "I" ∈ TB := tb_at 213 (by decide +kernel) rfl
theorem q214 : Cond.fieldLink RX4 136 "EscheatLots$Pad" "first" "I" ∈ TB := tb_at 214 (by decide +kernel) rfl
theorem q215 : Cond.fieldLink RX3 29 "EscheatLots$Pad" "second" "I" ∈ TB := tb_at 215 (by decide +kernel) rfl
theorem q216 : Cond.fieldLink RX4 139 "EscheatLots$Pad" "second" "I" ∈ TB := tb_at 216 (by decide +kernel) rfl
theorem q217 : Cond.fieldLink RX3 32 "EscheatLots$Pad" "third" "I" ∈ TB := tb_at 217 (by decide +kernel) rfl
theorem q218 : Cond.fieldLink RX4 142 "EscheatLots$Pad" "third" "I" ∈ TB := tb_at 218 (by decide +kernel) rfl
theorem q219 : Cond.laysFinal RX3 "EscheatLots$Pad" "text" "[C" ∈ TB := tb_at 219 (by decide +kernel) rfl
theorem q221 : Cond.lays RX3 "EscheatLots$Pad" "length" "I" ∈ TB := tb_at 221 (by decide +kernel) rfl
theorem q223 : Cond.lays RX3 "EscheatLots$Pad" "at" "I" ∈ TB := tb_at 223 (by decide +kernel) rfl
theorem q225 : Cond.lays RX3 "EscheatLots$Pad" "kind" "C" ∈ TB := tb_at 225 (by decide +kernel) rfl
theorem q227 : Cond.lays RX3 "EscheatLots$Pad" "first" "I" ∈ TB := tb_at 227 (by decide +kernel) rfl
theorem q229 : Cond.lays RX3 "EscheatLots$Pad" "second" "I" ∈ TB := tb_at 229 (by decide +kernel) rfl
theorem q231 : Cond.lays RX3 "EscheatLots$Pad" "third" "I" ∈ TB := tb_at 231 (by decide +kernel) rfl
theorem q234 : Cond.arrayClass .char ∈ TB := tb_at 234 (by decide +kernel) rfl
theorem q236 : Cond.fieldLink RX4 10 "EscheatLots" "office" "LEscheatLots$Office;" ∈ TB := tb_at 236 (by decide +kernel) rfl
theorem q237 : Cond.fieldLink RX4 19 "EscheatLots" "pad" "LEscheatLots$Pad;" ∈ TB := tb_at 237 (by decide +kernel) rfl
theorem q238 : Cond.fieldLink RX4 23 "EscheatLots" "history" "[LEscheatLots$Office;" ∈ TB := tb_at 238 (by decide +kernel) rfl
theorem q239 : Cond.fieldLink RX4 27 "EscheatLots" "changes" "I" ∈ TB := tb_at 239 (by decide +kernel) rfl
theorem q240 : Cond.fieldLink RX4 31 "EscheatLots" "slots" "[LEscheatLots$Office;" ∈ TB := tb_at 240 (by decide +kernel) rfl
theorem q241 : Cond.fieldLink RX4 34 "EscheatLots" "saved" "[Z" ∈ TB := tb_at 241 (by decide +kernel) rfl
theorem q242 : Cond.laysFinal RX4 "EscheatLots" "office" "LEscheatLots$Office;" ∈ TB := tb_at 242 (by decide +kernel) rfl
theorem q244 : Cond.laysFinal RX4 "EscheatLots" "pad" "LEscheatLots$Pad;" ∈ TB := tb_at 244 (by decide +kernel) rfl
theorem q246 : Cond.laysFinal RX4 "EscheatLots" "history" "[LEscheatLots$Office;" ∈ TB := tb_at 246 (by decide +kernel) rfl
theorem q248 : Cond.lays RX4 "EscheatLots" "changes" "I" ∈ TB := tb_at 248 (by decide +kernel) rfl
theorem q250 : Cond.laysFinal RX4 "EscheatLots" "slots" "[LEscheatLots$Office;" ∈ TB := tb_at 250 (by decide +kernel) rfl
theorem q252 : Cond.laysFinal RX4 "EscheatLots" "saved" "[Z" ∈ TB := tb_at 252 (by decide +kernel) rfl
theorem q255 : Cond.arrayClass .boolean ∈ TB := tb_at 255 (by decide +kernel) rfl
theorem q256 : Cond.methodLink RL 13 yX4_set ∈ TB := tb_at 256 (by decide +kernel) rfl
theorem q257 : Cond.instanceMethod yX4_set ∈ TB := tb_at 257 (by decide +kernel) rfl
theorem q258 : Cond.selects RX4 yX4_set yX4_set ∈ TB := tb_at 258 (by decide +kernel) rfl
set_option maxRecDepth 100000 in
theorem q259 : Cond.code yX4_set cX4_set 3 (some .int) ∈ TB := tb_at 259 rfl rfl
theorem q260 : Cond.methodLink RX4 38 yX4_draft ∈ TB := tb_at 260 (by decide +kernel) rfl
theorem q262 : Cond.instanceMethod yX4_draft ∈ TB := tb_at 262 (by decide +kernel) rfl
set_option maxRecDepth 100000 in
theorem q263 : Cond.code yX4_draft cX4_draft 1 none ∈ TB := tb_at 263 rfl rfl
theorem q264 : Cond.methodLink RX4 145 yX2_become ∈ TB := tb_at 264 (by decide +kernel) rfl
theorem q265 : Cond.instanceMethod yX2_become ∈ TB := tb_at 265 (by decide +kernel) rfl
theorem q266 : Cond.selects RX2 yX2_become yX2_become ∈ TB := tb_at 266 (by decide +kernel) rfl
set_option maxRecDepth 100000 in
theorem q267 : Cond.code yX2_become cX2_become 2 none ∈ TB := tb_at 267 rfl rfl
theorem q268 : Cond.methodLink RX2 49 yX1_become ∈ TB := tb_at 268 (by decide +kernel) rfl
theorem q269 : Cond.instanceMethod yX1_become ∈ TB := tb_at 269 (by decide +kernel) rfl
theorem q270 : Cond.selects RX1 yX1_become yX1_become ∈ TB := tb_at 270 (by decide +kernel) rfl
set_option maxRecDepth 100000 in
theorem q271 : Cond.code yX1_become cX1_become 2 none ∈ TB := tb_at 271 rfl rfl
theorem q272 : Cond.methodLinkNest RX1 28 yX4_copy RX4 ∈ NB := nb_at 272 (by decide +kernel) rfl
theorem q273 : Cond.methodLink RX2 53 yX0_become ∈ TB := tb_at 273 (by decide +kernel) rfl
theorem q274 : Cond.instanceMethod yX0_become ∈ TB := tb_at 274 (by decide +kernel) rfl
theorem q275 : Cond.selects RX0 yX0_become yX0_become ∈ TB := tb_at 275 (by decide +kernel) rfl
set_option maxRecDepth 100000 in
theorem q276 : Cond.code yX0_become cX0_become 2 none ∈ TB := tb_at 276 rfl rfl
theorem q277 : Cond.methodLinkNest RX0 37 yX4_copy RX4 ∈ NB := nb_at 277 (by decide +kernel) rfl
theorem q278 : Cond.methodLink RX4 41 yX2_changeSetting ∈ TB := tb_at 278 (by decide +kernel) rfl
theorem q279 : Cond.instanceMethod yX2_changeSetting ∈ TB := tb_at 279 (by decide +kernel) rfl
theorem q280 : Cond.selects RX2 yX2_changeSetting yX2_changeSetting ∈ TB := tb_at 280 (by decide +kernel) rfl
set_option maxRecDepth 100000 in
theorem q281 : Cond.code yX2_changeSetting cX2_changeSetting 4 (some .int) ∈ TB := tb_at 281 rfl rfl
theorem q282 : Cond.fieldLinkNest RX2 56 "EscheatLots" "LEAST" "[I" RX4 ∈ NB := nb_at 282 (by decide +kernel) rfl
theorem q284 : Cond.fieldLinkNest RX2 59 "EscheatLots" "MOST" "[I" RX4 ∈ NB := nb_at 284 (by decide +kernel) rfl
theorem q286 : Cond.methodLink RX4 45 yX4_recorded ∈ TB := tb_at 286 (by decide +kernel) rfl
theorem q288 : Cond.instanceMethod yX4_recorded ∈ TB := tb_at 288 (by decide +kernel) rfl
set_option maxRecDepth 100000 in
theorem q289 : Cond.code yX4_recorded cX4_recorded 2 (some .int) ∈ TB := tb_at 289 rfl rfl
theorem q290 : Cond.methodLink RX4 158 yX4_dropOldest ∈ TB := tb_at 290 (by decide +kernel) rfl
theorem q292 : Cond.instanceMethod yX4_dropOldest ∈ TB := tb_at 292 (by decide +kernel) rfl
set_option maxRecDepth 100000 in
theorem q293 : Cond.code yX4_dropOldest cX4_dropOldest 3 none ∈ TB := tb_at 293 rfl rfl
theorem q294 : Cond.methodLink RL 18 yX4_lot ∈ TB := tb_at 294 (by decide +kernel) rfl
theorem q295 : Cond.instanceMethod yX4_lot ∈ TB := tb_at 295 (by decide +kernel) rfl
theorem q296 : Cond.selects RX4 yX4_lot yX4_lot ∈ TB := tb_at 296 (by decide +kernel) rfl
set_option maxRecDepth 100000 in
theorem q297 : Cond.code yX4_lot cX4_lot 2 (some .int) ∈ TB := tb_at 297 rfl rfl
theorem q298 : Cond.methodLink RX4 49 yX2_addLot ∈ TB := tb_at 298 (by decide +kernel) rfl
theorem q299 : Cond.instanceMethod yX2_addLot ∈ TB := tb_at 299 (by decide +kernel) rfl
theorem q300 : Cond.selects RX2 yX2_addLot yX2_addLot ∈ TB := tb_at 300 (by decide +kernel) rfl
set_option maxRecDepth 100000 in
theorem q301 : Cond.code yX2_addLot cX2_addLot 3 (some .int) ∈ TB := tb_at 301 rfl rfl
theorem q302 : Cond.methodLink RL 23 yX4_notice ∈ TB := tb_at 302 (by decide +kernel) rfl
theorem q303 : Cond.instanceMethod yX4_notice ∈ TB := tb_at 303 (by decide +kernel) rfl
theorem q304 : Cond.selects RX4 yX4_notice yX4_notice ∈ TB := tb_at 304 (by decide +kernel) rfl
set_option maxRecDepth 100000 in
theorem q305 : Cond.code yX4_notice cX4_notice 2 (some .int) ∈ TB := tb_at 305 rfl rfl
theorem q306 : Cond.methodLink RX4 52 yX2_giveNotice ∈ TB := tb_at 306 (by decide +kernel) rfl
theorem q307 : Cond.instanceMethod yX2_giveNotice ∈ TB := tb_at 307 (by decide +kernel) rfl
theorem q308 : Cond.selects RX2 yX2_giveNotice yX2_giveNotice ∈ TB := tb_at 308 (by decide +kernel) rfl
set_option maxRecDepth 100000 in
theorem q309 : Cond.code yX2_giveNotice cX2_giveNotice 2 (some .int) ∈ TB := tb_at 309 rfl rfl
theorem q310 : Cond.methodLink RX2 68 yX1_exists ∈ TB := tb_at 310 (by decide +kernel) rfl
theorem q311 : Cond.instanceMethod yX1_exists ∈ TB := tb_at 311 (by decide +kernel) rfl
theorem q312 : Cond.selects RX1 yX1_exists yX1_exists ∈ TB := tb_at 312 (by decide +kernel) rfl
set_option maxRecDepth 100000 in
theorem q313 : Cond.code yX1_exists cX1_exists 2 (some .boolean) ∈ TB := tb_at 313 rfl rfl
theorem q314 : Cond.methodLink RX2 75 yX1_inState ∈ TB := tb_at 314 (by decide +kernel) rfl
theorem q315 : Cond.instanceMethod yX1_inState ∈ TB := tb_at 315 (by decide +kernel) rfl
theorem q316 : Cond.selects RX1 yX1_inState yX1_inState ∈ TB := tb_at 316 (by decide +kernel) rfl
set_option maxRecDepth 100000 in
theorem q317 : Cond.code yX1_inState cX1_inState 2 (some .int) ∈ TB := tb_at 317 rfl rfl
theorem q318 : Cond.methodLinkNest RX1 36 yX4_rowsWith RX4 ∈ NB := nb_at 318 (by decide +kernel) rfl
theorem q319 : Cond.static yX4_rowsWith ∈ TB := tb_at 319 (by decide +kernel) rfl
set_option maxRecDepth 100000 in
theorem q320 : Cond.code yX4_rowsWith cX4_rowsWith 5 (some .int) ∈ TB := tb_at 320 rfl rfl
theorem q321 : Cond.methodLink RX2 79 yJ6_bitCount_0f7a4 ∈ TB := tb_at 321 (by decide +kernel) rfl
theorem q322 : Cond.static yJ6_bitCount_0f7a4 ∈ TB := tb_at 322 (by decide +kernel) rfl
set_option maxRecDepth 100000 in
theorem q323 : Cond.code yJ6_bitCount_0f7a4 cJ6_bitCount_0f7a4 1 (some .int) ∈ TB := tb_at 323 rfl rfl
theorem q324 : Cond.constant RJ6 265 (1431655765) ∈ TB := tb_at 324 (by decide +kernel) rfl
theorem q325 : Cond.constant RJ6 266 (858993459) ∈ TB := tb_at 325 (by decide +kernel) rfl
theorem q326 : Cond.constant RJ6 267 (252645135) ∈ TB := tb_at 326 (by decide +kernel) rfl
theorem q327 : Cond.methodLink RL 27 yX4_claim ∈ TB := tb_at 327 (by decide +kernel) rfl
theorem q328 : Cond.instanceMethod yX4_claim ∈ TB := tb_at 328 (by decide +kernel) rfl
theorem q329 : Cond.selects RX4 yX4_claim yX4_claim ∈ TB := tb_at 329 (by decide +kernel) rfl
set_option maxRecDepth 100000 in
theorem q330 : Cond.code yX4_claim cX4_claim 4 (some .int) ∈ TB := tb_at 330 rfl rfl
theorem q331 : Cond.methodLink RX4 55 yX2_addClaim ∈ TB := tb_at 331 (by decide +kernel) rfl
theorem q332 : Cond.instanceMethod yX2_addClaim ∈ TB := tb_at 332 (by decide +kernel) rfl
theorem q333 : Cond.selects RX2 yX2_addClaim yX2_addClaim ∈ TB := tb_at 333 (by decide +kernel) rfl
set_option maxRecDepth 100000 in
theorem q334 : Cond.code yX2_addClaim cX2_addClaim 5 (some .int) ∈ TB := tb_at 334 rfl rfl
theorem q335 : Cond.methodLink RX2 84 yX2_isHeir ∈ TB := tb_at 335 (by decide +kernel) rfl
theorem q336 : Cond.static yX2_isHeir ∈ TB := tb_at 336 (by decide +kernel) rfl
set_option maxRecDepth 100000 in
theorem q337 : Cond.code yX2_isHeir cX2_isHeir 1 (some .boolean) ∈ TB := tb_at 337 rfl rfl
theorem q338 : Cond.methodLink RX2 87 yX2_canBeClaimed ∈ TB := tb_at 338 (by decide +kernel) rfl
theorem q340 : Cond.instanceMethod yX2_canBeClaimed ∈ TB := tb_at 340 (by decide +kernel) rfl
set_option maxRecDepth 100000 in
theorem q341 : Cond.code yX2_canBeClaimed cX2_canBeClaimed 2 (some .boolean) ∈ TB := tb_at 341 rfl rfl
theorem q342 : Cond.methodLink RX2 109 yX1_isOver ∈ TB := tb_at 342 (by decide +kernel) rfl
theorem q343 : Cond.instanceMethod yX1_isOver ∈ TB := tb_at 343 (by decide +kernel) rfl
theorem q344 : Cond.selects RX1 yX1_isOver yX1_isOver ∈ TB := tb_at 344 (by decide +kernel) rfl
set_option maxRecDepth 100000 in
theorem q345 : Cond.code yX1_isOver cX1_isOver 2 (some .boolean) ∈ TB := tb_at 345 rfl rfl
theorem q346 : Cond.methodLink RX2 90 yX0_ofHeir ∈ TB := tb_at 346 (by decide +kernel) rfl
theorem q347 : Cond.instanceMethod yX0_ofHeir ∈ TB := tb_at 347 (by decide +kernel) rfl
theorem q348 : Cond.selects RX0 yX0_ofHeir yX0_ofHeir ∈ TB := tb_at 348 (by decide +kernel) rfl
set_option maxRecDepth 100000 in
theorem q349 : Cond.code yX0_ofHeir cX0_ofHeir 2 (some .int) ∈ TB := tb_at 349 rfl rfl
theorem q350 : Cond.methodLinkNest RX0 45 yX4_rowsWith RX4 ∈ NB := nb_at 350 (by decide +kernel) rfl
theorem q351 : Cond.methodLink RX2 93 yX0_standingTo ∈ TB := tb_at 351 (by decide +kernel) rfl
theorem q352 : Cond.instanceMethod yX0_standingTo ∈ TB := tb_at 352 (by decide +kernel) rfl
theorem q353 : Cond.selects RX0 yX0_standingTo yX0_standingTo ∈ TB := tb_at 353 (by decide +kernel) rfl
set_option maxRecDepth 100000 in
theorem q354 : Cond.code yX0_standingTo cX0_standingTo 2 (some .int) ∈ TB := tb_at 354 rfl rfl
theorem q355 : Cond.methodLink RX0 52 yX0_toLot ∈ TB := tb_at 355 (by decide +kernel) rfl
theorem q356 : Cond.instanceMethod yX0_toLot ∈ TB := tb_at 356 (by decide +kernel) rfl
theorem q357 : Cond.selects RX0 yX0_toLot yX0_toLot ∈ TB := tb_at 357 (by decide +kernel) rfl
set_option maxRecDepth 100000 in
theorem q358 : Cond.code yX0_toLot cX0_toLot 2 (some .int) ∈ TB := tb_at 358 rfl rfl
theorem q359 : Cond.methodLink RX0 55 yX0_standing ∈ TB := tb_at 359 (by decide +kernel) rfl
theorem q360 : Cond.instanceMethod yX0_standing ∈ TB := tb_at 360 (by decide +kernel) rfl
theorem q361 : Cond.selects RX0 yX0_standing yX0_standing ∈ TB := tb_at 361 (by decide +kernel) rfl
set_option maxRecDepth 100000 in
theorem q362 : Cond.code yX0_standing cX0_standing 1 (some .int) ∈ TB := tb_at 362 rfl rfl
theorem q363 : Cond.methodLink RX0 49 yX0_inState ∈ TB := tb_at 363 (by decide +kernel) rfl
theorem q364 : Cond.instanceMethod yX0_inState ∈ TB := tb_at 364 (by decide +kernel) rfl
theorem q365 : Cond.selects RX0 yX0_inState yX0_inState ∈ TB := tb_at 365 (by decide +kernel) rfl
set_option maxRecDepth 100000 in
theorem q366 : Cond.code yX0_inState cX0_inState 2 (some .int) ∈ TB := tb_at 366 rfl rfl
theorem q367 : Cond.methodLink RL 32 yX4_prove ∈ TB := tb_at 367 (by decide +kernel) rfl
theorem q368 : Cond.instanceMethod yX4_prove ∈ TB := tb_at 368 (by decide +kernel) rfl
theorem q369 : Cond.selects RX4 yX4_prove yX4_prove ∈ TB := tb_at 369 (by decide +kernel) rfl
set_option maxRecDepth 100000 in
theorem q370 : Cond.code yX4_prove cX4_prove 3 (some .int) ∈ TB := tb_at 370 rfl rfl
theorem q371 : Cond.methodLink RX4 59 yX2_addProof ∈ TB := tb_at 371 (by decide +kernel) rfl
theorem q372 : Cond.instanceMethod yX2_addProof ∈ TB := tb_at 372 (by decide +kernel) rfl
theorem q373 : Cond.selects RX2 yX2_addProof yX2_addProof ∈ TB := tb_at 373 (by decide +kernel) rfl
set_option maxRecDepth 100000 in
theorem q374 : Cond.code yX2_addProof cX2_addProof 3 (some .int) ∈ TB := tb_at 374 rfl rfl
theorem q375 : Cond.methodLink RX2 112 yX0_exists ∈ TB := tb_at 375 (by decide +kernel) rfl
theorem q376 : Cond.instanceMethod yX0_exists ∈ TB := tb_at 376 (by decide +kernel) rfl
theorem q377 : Cond.selects RX0 yX0_exists yX0_exists ∈ TB := tb_at 377 (by decide +kernel) rfl
set_option maxRecDepth 100000 in
theorem q378 : Cond.code yX0_exists cX0_exists 2 (some .boolean) ∈ TB := tb_at 378 rfl rfl
theorem q379 : Cond.methodLink RX2 113 yX0_isOpen ∈ TB := tb_at 379 (by decide +kernel) rfl
theorem q380 : Cond.instanceMethod yX0_isOpen ∈ TB := tb_at 380 (by decide +kernel) rfl
theorem q381 : Cond.selects RX0 yX0_isOpen yX0_isOpen ∈ TB := tb_at 381 (by decide +kernel) rfl
set_option maxRecDepth 100000 in
theorem q382 : Cond.code yX0_isOpen cX0_isOpen 2 (some .boolean) ∈ TB := tb_at 382 rfl rfl
theorem q383 : Cond.methodLink RX2 119 Lib.Math.min.name ∈ TB := tb_at 383 (by decide +kernel) rfl
theorem q384 : Cond.methodLink RL 36 yX4_decide ∈ TB := tb_at 384 (by decide +kernel) rfl
theorem q385 : Cond.instanceMethod yX4_decide ∈ TB := tb_at 385 (by decide +kernel) rfl
theorem q386 : Cond.selects RX4 yX4_decide yX4_decide ∈ TB := tb_at 386 (by decide +kernel) rfl
set_option maxRecDepth 100000 in
theorem q387 : Cond.code yX4_decide cX4_decide 2 (some .int) ∈ TB := tb_at 387 rfl rfl
theorem q388 : Cond.methodLink RX4 62 yX2_judge ∈ TB := tb_at 388 (by decide +kernel) rfl
theorem q389 : Cond.instanceMethod yX2_judge ∈ TB := tb_at 389 (by decide +kernel) rfl
theorem q390 : Cond.selects RX2 yX2_judge yX2_judge ∈ TB := tb_at 390 (by decide +kernel) rfl
set_option maxRecDepth 100000 in
theorem q391 : Cond.code yX2_judge cX2_judge 2 (some .int) ∈ TB := tb_at 391 rfl rfl
theorem q392 : Cond.methodLink RL 40 yX4_withdraw ∈ TB := tb_at 392 (by decide +kernel) rfl
theorem q393 : Cond.instanceMethod yX4_withdraw ∈ TB := tb_at 393 (by decide +kernel) rfl
theorem q394 : Cond.selects RX4 yX4_withdraw yX4_withdraw ∈ TB := tb_at 394 (by decide +kernel) rfl
set_option maxRecDepth 100000 in
theorem q395 : Cond.code yX4_withdraw cX4_withdraw 2 (some .int) ∈ TB := tb_at 395 rfl rfl
theorem q396 : Cond.methodLink RX4 65 yX2_takeBack ∈ TB := tb_at 396 (by decide +kernel) rfl
theorem q397 : Cond.instanceMethod yX2_takeBack ∈ TB := tb_at 397 (by decide +kernel) rfl
theorem q398 : Cond.selects RX2 yX2_takeBack yX2_takeBack ∈ TB := tb_at 398 (by decide +kernel) rfl
set_option maxRecDepth 100000 in
theorem q399 : Cond.code yX2_takeBack cX2_takeBack 2 (some .int) ∈ TB := tb_at 399 rfl rfl
theorem q400 : Cond.methodLink RX2 129 yX0_stands ∈ TB := tb_at 400 (by decide +kernel) rfl
theorem q401 : Cond.instanceMethod yX0_stands ∈ TB := tb_at 401 (by decide +kernel) rfl
theorem q402 : Cond.selects RX0 yX0_stands yX0_stands ∈ TB := tb_at 402 (by decide +kernel) rfl
set_option maxRecDepth 100000 in
theorem q403 : Cond.code yX0_stands cX0_stands 2 (some .boolean) ∈ TB := tb_at 403 rfl rfl
theorem q404 : Cond.methodLink RL 44 yX4_settle ∈ TB := tb_at 404 (by decide +kernel) rfl
theorem q405 : Cond.instanceMethod yX4_settle ∈ TB := tb_at 405 (by decide +kernel) rfl
theorem q406 : Cond.selects RX4 yX4_settle yX4_settle ∈ TB := tb_at 406 (by decide +kernel) rfl
set_option maxRecDepth 100000 in
theorem q407 : Cond.code yX4_settle cX4_settle 2 (some .int) ∈ TB := tb_at 407 rfl rfl
theorem q408 : Cond.methodLink RX4 68 yX2_shareOut ∈ TB := tb_at 408 (by decide +kernel) rfl
theorem q409 : Cond.instanceMethod yX2_shareOut ∈ TB := tb_at 409 (by decide +kernel) rfl
theorem q410 : Cond.selects RX2 yX2_shareOut yX2_shareOut ∈ TB := tb_at 410 (by decide +kernel) rfl
set_option maxRecDepth 100000 in
theorem q411 : Cond.code yX2_shareOut cX2_shareOut 6 (some .int) ∈ TB := tb_at 411 rfl rfl
theorem q412 : Cond.methodLink RX2 132 yX0_upheldTo ∈ TB := tb_at 412 (by decide +kernel) rfl
theorem q413 : Cond.instanceMethod yX0_upheldTo ∈ TB := tb_at 413 (by decide +kernel) rfl
theorem q414 : Cond.selects RX0 yX0_upheldTo yX0_upheldTo ∈ TB := tb_at 414 (by decide +kernel) rfl
set_option maxRecDepth 100000 in
theorem q415 : Cond.code yX0_upheldTo cX0_upheldTo 2 (some .int) ∈ TB := tb_at 415 rfl rfl
theorem q416 : Cond.methodLink RX2 135 yX0_openTo ∈ TB := tb_at 416 (by decide +kernel) rfl
theorem q417 : Cond.instanceMethod yX0_openTo ∈ TB := tb_at 417 (by decide +kernel) rfl
theorem q418 : Cond.selects RX0 yX0_openTo yX0_openTo ∈ TB := tb_at 418 (by decide +kernel) rfl
set_option maxRecDepth 100000 in
theorem q419 : Cond.code yX0_openTo cX0_openTo 2 (some .int) ∈ TB := tb_at 419 rfl rfl
theorem q420 : Cond.methodLink RX2 138 yX2_coinsToShare ∈ TB := tb_at 420 (by decide +kernel) rfl
theorem q422 : Cond.instanceMethod yX2_coinsToShare ∈ TB := tb_at 422 (by decide +kernel) rfl
set_option maxRecDepth 100000 in
theorem q423 : Cond.code yX2_coinsToShare cX2_coinsToShare 3 (some .int) ∈ TB := tb_at 423 rfl rfl
theorem q424 : Cond.methodLink RX2 141 yX0_nearest ∈ TB := tb_at 424 (by decide +kernel) rfl
theorem q425 : Cond.instanceMethod yX0_nearest ∈ TB := tb_at 425 (by decide +kernel) rfl
theorem q426 : Cond.selects RX0 yX0_nearest yX0_nearest ∈ TB := tb_at 426 (by decide +kernel) rfl
set_option maxRecDepth 100000 in
theorem q427 : Cond.code yX0_nearest cX0_nearest 2 (some .int) ∈ TB := tb_at 427 rfl rfl
theorem q428 : Cond.methodLink RX0 66 yX0_nearestLine ∈ TB := tb_at 428 (by decide +kernel) rfl
theorem q429 : Cond.instanceMethod yX0_nearestLine ∈ TB := tb_at 429 (by decide +kernel) rfl
theorem q430 : Cond.selects RX0 yX0_nearestLine yX0_nearestLine ∈ TB := tb_at 430 (by decide +kernel) rfl
set_option maxRecDepth 100000 in
theorem q431 : Cond.code yX0_nearestLine cX0_nearestLine 4 (some .int) ∈ TB := tb_at 431 rfl rfl
theorem q432 : Cond.methodLinkNest RX0 62 yX4_holds RX4 ∈ NB := nb_at 432 (by decide +kernel) rfl
theorem q433 : Cond.static yX4_holds ∈ TB := tb_at 433 (by decide +kernel) rfl
set_option maxRecDepth 100000 in
theorem q434 : Cond.code yX4_holds cX4_holds 2 (some .boolean) ∈ TB := tb_at 434 rfl rfl
theorem q435 : Cond.methodLinkNest RX2 144 yX4_holds RX4 ∈ NB := nb_at 435 (by decide +kernel) rfl
theorem q436 : Cond.methodLink RX2 148 yX2_part ∈ TB := tb_at 436 (by decide +kernel) rfl
theorem q437 : Cond.static yX2_part ∈ TB := tb_at 437 (by decide +kernel) rfl
set_option maxRecDepth 100000 in
theorem q438 : Cond.code yX2_part cX2_part 5 (some .int) ∈ TB := tb_at 438 rfl rfl
theorem q439 : Cond.methodLink RX2 152 yX2_settleClaim ∈ TB := tb_at 439 (by decide +kernel) rfl
theorem q441 : Cond.instanceMethod yX2_settleClaim ∈ TB := tb_at 441 (by decide +kernel) rfl
set_option maxRecDepth 100000 in
theorem q442 : Cond.code yX2_settleClaim cX2_settleClaim 4 none ∈ TB := tb_at 442 rfl rfl
theorem q443 : Cond.methodLink RX2 159 yX2_purse ∈ TB := tb_at 443 (by decide +kernel) rfl
theorem q445 : Cond.instanceMethod yX2_purse ∈ TB := tb_at 445 (by decide +kernel) rfl
set_option maxRecDepth 100000 in
theorem q446 : Cond.code yX2_purse cX2_purse 2 (some .int) ∈ TB := tb_at 446 rfl rfl
theorem q447 : Cond.methodLinkNest RX2 194 yX4_sum RX4 ∈ NB := nb_at 447 (by decide +kernel) rfl
theorem q448 : Cond.static yX4_sum ∈ TB := tb_at 448 (by decide +kernel) rfl
set_option maxRecDepth 100000 in
theorem q449 : Cond.code yX4_sum cX4_sum 4 (some .int) ∈ TB := tb_at 449 rfl rfl
theorem q450 : Cond.methodLink RX4 161 yX4_holds ∈ TB := tb_at 450 (by decide +kernel) rfl
theorem q451 : Cond.methodLink RX2 156 yX2_leaveOffice ∈ TB := tb_at 451 (by decide +kernel) rfl
theorem q453 : Cond.instanceMethod yX2_leaveOffice ∈ TB := tb_at 453 (by decide +kernel) rfl
set_option maxRecDepth 100000 in
theorem q454 : Cond.code yX2_leaveOffice cX2_leaveOffice 3 none ∈ TB := tb_at 454 rfl rfl
theorem q455 : Cond.methodLink RL 48 yX4_pass ∈ TB := tb_at 455 (by decide +kernel) rfl
theorem q456 : Cond.instanceMethod yX4_pass ∈ TB := tb_at 456 (by decide +kernel) rfl
theorem q457 : Cond.selects RX4 yX4_pass yX4_pass ∈ TB := tb_at 457 (by decide +kernel) rfl
set_option maxRecDepth 100000 in
theorem q458 : Cond.code yX4_pass cX4_pass 2 (some .int) ∈ TB := tb_at 458 rfl rfl
theorem q459 : Cond.methodLink RX4 71 yX2_passDays ∈ TB := tb_at 459 (by decide +kernel) rfl
theorem q460 : Cond.instanceMethod yX2_passDays ∈ TB := tb_at 460 (by decide +kernel) rfl
theorem q461 : Cond.selects RX2 yX2_passDays yX2_passDays ∈ TB := tb_at 461 (by decide +kernel) rfl
set_option maxRecDepth 100000 in
theorem q462 : Cond.code yX2_passDays cX2_passDays 4 (some .int) ∈ TB := tb_at 462 rfl rfl
theorem q463 : Cond.methodLink RX2 165 yX2_passDay ∈ TB := tb_at 463 (by decide +kernel) rfl
theorem q465 : Cond.instanceMethod yX2_passDay ∈ TB := tb_at 465 (by decide +kernel) rfl
set_option maxRecDepth 100000 in
theorem q466 : Cond.code yX2_passDay cX2_passDay 4 (some .int) ∈ TB := tb_at 466 rfl rfl
theorem q467 : Cond.methodLink RX2 169 yX0_waitOneDay ∈ TB := tb_at 467 (by decide +kernel) rfl
theorem q468 : Cond.instanceMethod yX0_waitOneDay ∈ TB := tb_at 468 (by decide +kernel) rfl
theorem q469 : Cond.selects RX0 yX0_waitOneDay yX0_waitOneDay ∈ TB := tb_at 469 (by decide +kernel) rfl
set_option maxRecDepth 100000 in
theorem q470 : Cond.code yX0_waitOneDay cX0_waitOneDay 4 (some .int) ∈ TB := tb_at 470 rfl rfl
theorem q471 : Cond.methodLink RX0 69 yX0_isOpen ∈ TB := tb_at 471 (by decide +kernel) rfl
theorem q472 : Cond.methodLink RX0 73 yX0_waitLonger ∈ TB := tb_at 472 (by decide +kernel) rfl
theorem q474 : Cond.instanceMethod yX0_waitLonger ∈ TB := tb_at 474 (by decide +kernel) rfl
set_option maxRecDepth 100000 in
theorem q475 : Cond.code yX0_waitLonger cX0_waitLonger 3 none ∈ TB := tb_at 475 rfl rfl
theorem q476 : Cond.methodLink RX0 77 yX0_stands ∈ TB := tb_at 476 (by decide +kernel) rfl
theorem q477 : Cond.methodLink RX2 172 yX2_countDay ∈ TB := tb_at 477 (by decide +kernel) rfl
theorem q479 : Cond.instanceMethod yX2_countDay ∈ TB := tb_at 479 (by decide +kernel) rfl
set_option maxRecDepth 100000 in
theorem q480 : Cond.code yX2_countDay cX2_countDay 2 (some .int) ∈ TB := tb_at 480 rfl rfl
theorem q481 : Cond.methodLink RL 52 yX4_of ∈ TB := tb_at 481 (by decide +kernel) rfl
theorem q482 : Cond.instanceMethod yX4_of ∈ TB := tb_at 482 (by decide +kernel) rfl
theorem q483 : Cond.selects RX4 yX4_of yX4_of ∈ TB := tb_at 483 (by decide +kernel) rfl
set_option maxRecDepth 100000 in
theorem q484 : Cond.code yX4_of cX4_of 3 (some .int) ∈ TB := tb_at 484 rfl rfl
theorem q485 : Cond.methodLink RX4 74 yX2_aboutLot ∈ TB := tb_at 485 (by decide +kernel) rfl
theorem q486 : Cond.instanceMethod yX2_aboutLot ∈ TB := tb_at 486 (by decide +kernel) rfl
theorem q487 : Cond.selects RX2 yX2_aboutLot yX2_aboutLot ∈ TB := tb_at 487 (by decide +kernel) rfl
set_option maxRecDepth 100000 in
theorem q488 : Cond.code yX2_aboutLot cX2_aboutLot 3 (some .int) ∈ TB := tb_at 488 rfl rfl
theorem q489 : Cond.methodLink RX2 178 yX0_toLot ∈ TB := tb_at 489 (by decide +kernel) rfl
theorem q490 : Cond.methodLink RX2 181 yX0_nearestLine ∈ TB := tb_at 490 (by decide +kernel) rfl
theorem q491 : Cond.methodLink RL 56 yX4_ofClaim ∈ TB := tb_at 491 (by decide +kernel) rfl
theorem q492 : Cond.instanceMethod yX4_ofClaim ∈ TB := tb_at 492 (by decide +kernel) rfl
theorem q493 : Cond.selects RX4 yX4_ofClaim yX4_ofClaim ∈ TB := tb_at 493 (by decide +kernel) rfl
set_option maxRecDepth 100000 in
theorem q494 : Cond.code yX4_ofClaim cX4_ofClaim 3 (some .int) ∈ TB := tb_at 494 rfl rfl
theorem q495 : Cond.methodLink RX4 77 yX2_aboutClaim ∈ TB := tb_at 495 (by decide +kernel) rfl
theorem q496 : Cond.instanceMethod yX2_aboutClaim ∈ TB := tb_at 496 (by decide +kernel) rfl
theorem q497 : Cond.selects RX2 yX2_aboutClaim yX2_aboutClaim ∈ TB := tb_at 497 (by decide +kernel) rfl
set_option maxRecDepth 100000 in
theorem q498 : Cond.code yX2_aboutClaim cX2_aboutClaim 3 (some .int) ∈ TB := tb_at 498 rfl rfl
theorem q499 : Cond.methodLink RL 60 yX4_heir ∈ TB := tb_at 499 (by decide +kernel) rfl
theorem q500 : Cond.instanceMethod yX4_heir ∈ TB := tb_at 500 (by decide +kernel) rfl
theorem q501 : Cond.selects RX4 yX4_heir yX4_heir ∈ TB := tb_at 501 (by decide +kernel) rfl
set_option maxRecDepth 100000 in
theorem q502 : Cond.code yX4_heir cX4_heir 3 (some .int) ∈ TB := tb_at 502 rfl rfl
theorem q503 : Cond.methodLink RX4 80 yX2_aboutHeir ∈ TB := tb_at 503 (by decide +kernel) rfl
theorem q504 : Cond.instanceMethod yX2_aboutHeir ∈ TB := tb_at 504 (by decide +kernel) rfl
theorem q505 : Cond.selects RX2 yX2_aboutHeir yX2_aboutHeir ∈ TB := tb_at 505 (by decide +kernel) rfl
set_option maxRecDepth 100000 in
theorem q506 : Cond.code yX2_aboutHeir cX2_aboutHeir 3 (some .int) ∈ TB := tb_at 506 rfl rfl
theorem q507 : Cond.methodLink RX2 184 yX0_standing ∈ TB := tb_at 507 (by decide +kernel) rfl
theorem q508 : Cond.methodLink RX2 187 yX0_thatBrought ∈ TB := tb_at 508 (by decide +kernel) rfl
theorem q509 : Cond.instanceMethod yX0_thatBrought ∈ TB := tb_at 509 (by decide +kernel) rfl
theorem q510 : Cond.selects RX0 yX0_thatBrought yX0_thatBrought ∈ TB := tb_at 510 (by decide +kernel) rfl
set_option maxRecDepth 100000 in
theorem q511 : Cond.code yX0_thatBrought cX0_thatBrought 1 (some .int) ∈ TB := tb_at 511 rfl rfl
theorem q512 : Cond.methodLink RX0 59 yX0_all ∈ TB := tb_at 512 (by decide +kernel) rfl
theorem q513 : Cond.instanceMethod yX0_all ∈ TB := tb_at 513 (by decide +kernel) rfl
theorem q514 : Cond.selects RX0 yX0_all yX0_all ∈ TB := tb_at 514 (by decide +kernel) rfl
set_option maxRecDepth 100000 in
theorem q515 : Cond.code yX0_all cX0_all 1 (some .int) ∈ TB := tb_at 515 rfl rfl
theorem q516 : Cond.methodLinkNest RX0 41 yX4_firstOnes RX4 ∈ NB := nb_at 516 (by decide +kernel) rfl
theorem q517 : Cond.static yX4_firstOnes ∈ TB := tb_at 517 (by decide +kernel) rfl
set_option maxRecDepth 100000 in
theorem q518 : Cond.code yX4_firstOnes cX4_firstOnes 1 (some .int) ∈ TB := tb_at 518 rfl rfl
theorem q519 : Cond.methodLinkNest RX2 190 yX4_numbersIn RX4 ∈ NB := nb_at 519 (by decide +kernel) rfl
theorem q520 : Cond.static yX4_numbersIn ∈ TB := tb_at 520 (by decide +kernel) rfl
set_option maxRecDepth 100000 in
theorem q521 : Cond.code yX4_numbersIn cX4_numbersIn 4 (some .int) ∈ TB := tb_at 521 rfl rfl
theorem q522 : Cond.methodLink RL 64 yX4_paid ∈ TB := tb_at 522 (by decide +kernel) rfl
theorem q523 : Cond.instanceMethod yX4_paid ∈ TB := tb_at 523 (by decide +kernel) rfl
theorem q524 : Cond.selects RX4 yX4_paid yX4_paid ∈ TB := tb_at 524 (by decide +kernel) rfl
set_option maxRecDepth 100000 in
theorem q525 : Cond.code yX4_paid cX4_paid 2 (some .int) ∈ TB := tb_at 525 rfl rfl
theorem q526 : Cond.methodLink RX4 83 yX2_heirPaid ∈ TB := tb_at 526 (by decide +kernel) rfl
theorem q527 : Cond.instanceMethod yX2_heirPaid ∈ TB := tb_at 527 (by decide +kernel) rfl
theorem q528 : Cond.selects RX2 yX2_heirPaid yX2_heirPaid ∈ TB := tb_at 528 (by decide +kernel) rfl
set_option maxRecDepth 100000 in
theorem q529 : Cond.code yX2_heirPaid cX2_heirPaid 2 (some .int) ∈ TB := tb_at 529 rfl rfl
theorem q530 : Cond.methodLink RL 68 yX4_count ∈ TB := tb_at 530 (by decide +kernel) rfl
theorem q531 : Cond.instanceMethod yX4_count ∈ TB := tb_at 531 (by decide +kernel) rfl
theorem q532 : Cond.selects RX4 yX4_count yX4_count ∈ TB := tb_at 532 (by decide +kernel) rfl
set_option maxRecDepth 100000 in
theorem q533 : Cond.code yX4_count cX4_count 2 (some .int) ∈ TB := tb_at 533 rfl rfl
theorem q534 : Cond.methodLink RX4 89 yX2_number ∈ TB := tb_at 534 (by decide +kernel) rfl
theorem q535 : Cond.instanceMethod yX2_number ∈ TB := tb_at 535 (by decide +kernel) rfl
theorem q536 : Cond.selects RX2 yX2_number yX2_number ∈ TB := tb_at 536 (by decide +kernel) rfl
set_option maxRecDepth 100000 in
theorem q537 : Cond.code yX2_number cX2_number 2 (some .int) ∈ TB := tb_at 537 rfl rfl
theorem q538 : Cond.methodLink RX2 197 yX1_all ∈ TB := tb_at 538 (by decide +kernel) rfl
theorem q539 : Cond.instanceMethod yX1_all ∈ TB := tb_at 539 (by decide +kernel) rfl
theorem q540 : Cond.selects RX1 yX1_all yX1_all ∈ TB := tb_at 540 (by decide +kernel) rfl
set_option maxRecDepth 100000 in
theorem q541 : Cond.code yX1_all cX1_all 1 (some .int) ∈ TB := tb_at 541 rfl rfl
theorem q542 : Cond.methodLinkNest RX1 32 yX4_firstOnes RX4 ∈ NB := nb_at 542 (by decide +kernel) rfl
theorem q543 : Cond.methodLink RX2 200 yX0_all ∈ TB := tb_at 543 (by decide +kernel) rfl
theorem q544 : Cond.methodLink RL 72 yX4_why ∈ TB := tb_at 544 (by decide +kernel) rfl
theorem q545 : Cond.instanceMethod yX4_why ∈ TB := tb_at 545 (by decide +kernel) rfl
theorem q546 : Cond.selects RX4 yX4_why yX4_why ∈ TB := tb_at 546 (by decide +kernel) rfl
set_option maxRecDepth 100000 in
theorem q547 : Cond.code yX4_why cX4_why 2 (some .int) ∈ TB := tb_at 547 rfl rfl
theorem q548 : Cond.methodLink RX4 92 yX2_whyNot ∈ TB := tb_at 548 (by decide +kernel) rfl
theorem q549 : Cond.instanceMethod yX2_whyNot ∈ TB := tb_at 549 (by decide +kernel) rfl
theorem q550 : Cond.selects RX2 yX2_whyNot yX2_whyNot ∈ TB := tb_at 550 (by decide +kernel) rfl
set_option maxRecDepth 100000 in
theorem q551 : Cond.code yX2_whyNot cX2_whyNot 2 (some .int) ∈ TB := tb_at 551 rfl rfl
theorem q552 : Cond.methodLink RL 76 yX4_fallsIn ∈ TB := tb_at 552 (by decide +kernel) rfl
theorem q553 : Cond.instanceMethod yX4_fallsIn ∈ TB := tb_at 553 (by decide +kernel) rfl
theorem q554 : Cond.selects RX4 yX4_fallsIn yX4_fallsIn ∈ TB := tb_at 554 (by decide +kernel) rfl
set_option maxRecDepth 100000 in
theorem q555 : Cond.code yX4_fallsIn cX4_fallsIn 2 (some .int) ∈ TB := tb_at 555 rfl rfl
theorem q556 : Cond.methodLink RX4 95 yX2_daysToFall ∈ TB := tb_at 556 (by decide +kernel) rfl
theorem q557 : Cond.instanceMethod yX2_daysToFall ∈ TB := tb_at 557 (by decide +kernel) rfl
theorem q558 : Cond.selects RX2 yX2_daysToFall yX2_daysToFall ∈ TB := tb_at 558 (by decide +kernel) rfl
set_option maxRecDepth 100000 in
theorem q559 : Cond.code yX2_daysToFall cX2_daysToFall 2 (some .int) ∈ TB := tb_at 559 rfl rfl
theorem q560 : Cond.methodLink RX2 201 yX2_idleDays ∈ TB := tb_at 560 (by decide +kernel) rfl
theorem q562 : Cond.instanceMethod yX2_idleDays ∈ TB := tb_at 562 (by decide +kernel) rfl
set_option maxRecDepth 100000 in
theorem q563 : Cond.code yX2_idleDays cX2_idleDays 5 (some .int) ∈ TB := tb_at 563 rfl rfl
theorem q564 : Cond.methodLink RX2 207 yX2_daysToLapse ∈ TB := tb_at 564 (by decide +kernel) rfl
theorem q566 : Cond.instanceMethod yX2_daysToLapse ∈ TB := tb_at 566 (by decide +kernel) rfl
set_option maxRecDepth 100000 in
theorem q567 : Cond.code yX2_daysToLapse cX2_daysToLapse 2 (some .int) ∈ TB := tb_at 567 rfl rfl
theorem q568 : Cond.methodLink RX2 204 Lib.Math.max.name ∈ TB := tb_at 568 (by decide +kernel) rfl
theorem q569 : Cond.static Lib.Math.max.name ∈ TB := tb_at 569 (by decide +kernel) rfl
set_option maxRecDepth 100000 in
theorem q570 : Cond.code Lib.Math.max.name Lib.Math.max.code 2 (some .int) ∈ TB := tb_at 570 rfl rfl
theorem q571 : Cond.methodLink RL 80 yX4_share ∈ TB := tb_at 571 (by decide +kernel) rfl
theorem q572 : Cond.instanceMethod yX4_share ∈ TB := tb_at 572 (by decide +kernel) rfl
theorem q573 : Cond.selects RX4 yX4_share yX4_share ∈ TB := tb_at 573 (by decide +kernel) rfl
set_option maxRecDepth 100000 in
theorem q574 : Cond.code yX4_share cX4_share 4 (some .int) ∈ TB := tb_at 574 rfl rfl
theorem q575 : Cond.methodLink RX4 98 yX2_wouldGet ∈ TB := tb_at 575 (by decide +kernel) rfl
theorem q576 : Cond.instanceMethod yX2_wouldGet ∈ TB := tb_at 576 (by decide +kernel) rfl
theorem q577 : Cond.selects RX2 yX2_wouldGet yX2_wouldGet ∈ TB := tb_at 577 (by decide +kernel) rfl
set_option maxRecDepth 100000 in
theorem q578 : Cond.code yX2_wouldGet cX2_wouldGet 5 (some .int) ∈ TB := tb_at 578 rfl rfl
theorem q579 : Cond.methodLink RL 84 yX4_nextFall ∈ TB := tb_at 579 (by decide +kernel) rfl
theorem q580 : Cond.instanceMethod yX4_nextFall ∈ TB := tb_at 580 (by decide +kernel) rfl
theorem q581 : Cond.selects RX4 yX4_nextFall yX4_nextFall ∈ TB := tb_at 581 (by decide +kernel) rfl
set_option maxRecDepth 100000 in
theorem q582 : Cond.code yX4_nextFall cX4_nextFall 2 (some .int) ∈ TB := tb_at 582 rfl rfl
theorem q583 : Cond.methodLink RX4 101 yX2_firstFall ∈ TB := tb_at 583 (by decide +kernel) rfl
theorem q584 : Cond.instanceMethod yX2_firstFall ∈ TB := tb_at 584 (by decide +kernel) rfl
theorem q585 : Cond.selects RX2 yX2_firstFall yX2_firstFall ∈ TB := tb_at 585 (by decide +kernel) rfl
set_option maxRecDepth 100000 in
theorem q586 : Cond.code yX2_firstFall cX2_firstFall 6 (some .int) ∈ TB := tb_at 586 rfl rfl
theorem q587 : Cond.methodLink RX2 210 yX2_daysToFall ∈ TB := tb_at 587 (by decide +kernel) rfl
theorem q588 : Cond.methodLink RL 88 yX4_nextLapse ∈ TB := tb_at 588 (by decide +kernel) rfl
theorem q589 : Cond.instanceMethod yX4_nextLapse ∈ TB := tb_at 589 (by decide +kernel) rfl
theorem q590 : Cond.selects RX4 yX4_nextLapse yX4_nextLapse ∈ TB := tb_at 590 (by decide +kernel) rfl
set_option maxRecDepth 100000 in
theorem q591 : Cond.code yX4_nextLapse cX4_nextLapse 2 (some .int) ∈ TB := tb_at 591 rfl rfl
theorem q592 : Cond.methodLink RX4 104 yX2_firstLapse ∈ TB := tb_at 592 (by decide +kernel) rfl
theorem q593 : Cond.instanceMethod yX2_firstLapse ∈ TB := tb_at 593 (by decide +kernel) rfl
theorem q594 : Cond.selects RX2 yX2_firstLapse yX2_firstLapse ∈ TB := tb_at 594 (by decide +kernel) rfl
set_option maxRecDepth 100000 in
theorem q595 : Cond.code yX2_firstLapse cX2_firstLapse 4 (some .int) ∈ TB := tb_at 595 rfl rfl
theorem q596 : Cond.methodLink RX2 213 yX2_lapsesAhead ∈ TB := tb_at 596 (by decide +kernel) rfl
theorem q598 : Cond.instanceMethod yX2_lapsesAhead ∈ TB := tb_at 598 (by decide +kernel) rfl
set_option maxRecDepth 100000 in
theorem q599 : Cond.code yX2_lapsesAhead cX2_lapsesAhead 5 (some .boolean) ∈ TB := tb_at 599 rfl rfl
theorem q600 : Cond.methodLink RL 94 yX4_put ∈ TB := tb_at 600 (by decide +kernel) rfl
theorem q601 : Cond.instanceMethod yX4_put ∈ TB := tb_at 601 (by decide +kernel) rfl
theorem q602 : Cond.selects RX4 yX4_put yX4_put ∈ TB := tb_at 602 (by decide +kernel) rfl
set_option maxRecDepth 100000 in
theorem q603 : Cond.code yX4_put cX4_put 3 (some .int) ∈ TB := tb_at 603 rfl rfl
theorem q604 : Cond.methodLink RX4 107 yX3_append ∈ TB := tb_at 604 (by decide +kernel) rfl
theorem q605 : Cond.instanceMethod yX3_append ∈ TB := tb_at 605 (by decide +kernel) rfl
theorem q606 : Cond.selects RX3 yX3_append yX3_append ∈ TB := tb_at 606 (by decide +kernel) rfl
set_option maxRecDepth 100000 in
theorem q607 : Cond.code yX3_append cX3_append 5 (some .int) ∈ TB := tb_at 607 rfl rfl
theorem q608 : Cond.methodLink RX3 35 yX3_charactersIn ∈ TB := tb_at 608 (by decide +kernel) rfl
theorem q609 : Cond.static yX3_charactersIn ∈ TB := tb_at 609 (by decide +kernel) rfl
set_option maxRecDepth 100000 in
theorem q610 : Cond.code yX3_charactersIn cX3_charactersIn 4 (some .int) ∈ TB := tb_at 610 rfl rfl
theorem q611 : Cond.methodLink RX3 39 yX3_codeAt ∈ TB := tb_at 611 (by decide +kernel) rfl
theorem q612 : Cond.static yX3_codeAt ∈ TB := tb_at 612 (by decide +kernel) rfl
set_option maxRecDepth 100000 in
theorem q613 : Cond.code yX3_codeAt cX3_codeAt 3 (some .int) ∈ TB := tb_at 613 rfl rfl
theorem q614 : Cond.methodLink RL 99 yX4_wipe ∈ TB := tb_at 614 (by decide +kernel) rfl
theorem q615 : Cond.instanceMethod yX4_wipe ∈ TB := tb_at 615 (by decide +kernel) rfl
theorem q616 : Cond.selects RX4 yX4_wipe yX4_wipe ∈ TB := tb_at 616 (by decide +kernel) rfl
set_option maxRecDepth 100000 in
theorem q617 : Cond.code yX4_wipe cX4_wipe 1 (some .int) ∈ TB := tb_at 617 rfl rfl
theorem q618 : Cond.methodLink RX4 111 yX3_empty ∈ TB := tb_at 618 (by decide +kernel) rfl
theorem q619 : Cond.instanceMethod yX3_empty ∈ TB := tb_at 619 (by decide +kernel) rfl
theorem q620 : Cond.selects RX3 yX3_empty yX3_empty ∈ TB := tb_at 620 (by decide +kernel) rfl
set_option maxRecDepth 100000 in
theorem q621 : Cond.code yX3_empty cX3_empty 2 (some .int) ∈ TB := tb_at 621 rfl rfl
theorem q622 : Cond.methodLink RL 104 yX4_fault ∈ TB := tb_at 622 (by decide +kernel) rfl
theorem q623 : Cond.instanceMethod yX4_fault ∈ TB := tb_at 623 (by decide +kernel) rfl
theorem q624 : Cond.selects RX4 yX4_fault yX4_fault ∈ TB := tb_at 624 (by decide +kernel) rfl
set_option maxRecDepth 100000 in
theorem q625 : Cond.code yX4_fault cX4_fault 1 (some .int) ∈ TB := tb_at 625 rfl rfl
theorem q626 : Cond.methodLink RX4 115 yX3_firstFault ∈ TB := tb_at 626 (by decide +kernel) rfl
theorem q627 : Cond.instanceMethod yX3_firstFault ∈ TB := tb_at 627 (by decide +kernel) rfl
theorem q628 : Cond.selects RX3 yX3_firstFault yX3_firstFault ∈ TB := tb_at 628 (by decide +kernel) rfl
set_option maxRecDepth 100000 in
theorem q629 : Cond.code yX3_firstFault cX3_firstFault 3 (some .int) ∈ TB := tb_at 629 rfl rfl
theorem q630 : Cond.methodLink RX3 43 yX3_readOrder ∈ TB := tb_at 630 (by decide +kernel) rfl
theorem q631 : Cond.instanceMethod yX3_readOrder ∈ TB := tb_at 631 (by decide +kernel) rfl
theorem q632 : Cond.selects RX3 yX3_readOrder yX3_readOrder ∈ TB := tb_at 632 (by decide +kernel) rfl
set_option maxRecDepth 100000 in
theorem q633 : Cond.code yX3_readOrder cX3_readOrder 1 (some .boolean) ∈ TB := tb_at 633 rfl rfl
theorem q634 : Cond.methodLink RX3 51 yX3_readFirst ∈ TB := tb_at 634 (by decide +kernel) rfl
theorem q636 : Cond.instanceMethod yX3_readFirst ∈ TB := tb_at 636 (by decide +kernel) rfl
set_option maxRecDepth 100000 in
theorem q637 : Cond.code yX3_readFirst cX3_readFirst 1 (some .boolean) ∈ TB := tb_at 637 rfl rfl
theorem q638 : Cond.methodLink RX3 60 yX3_readNumber ∈ TB := tb_at 638 (by decide +kernel) rfl
theorem q640 : Cond.instanceMethod yX3_readNumber ∈ TB := tb_at 640 (by decide +kernel) rfl
set_option maxRecDepth 100000 in
theorem q641 : Cond.code yX3_readNumber cX3_readNumber 4 (some .int) ∈ TB := tb_at 641 rfl rfl
theorem q642 : Cond.methodLink RX3 64 yX3_readDigit ∈ TB := tb_at 642 (by decide +kernel) rfl
theorem q644 : Cond.instanceMethod yX3_readDigit ∈ TB := tb_at 644 (by decide +kernel) rfl
set_option maxRecDepth 100000 in
theorem q645 : Cond.code yX3_readDigit cX3_readDigit 2 (some .int) ∈ TB := tb_at 645 rfl rfl
theorem q646 : Cond.methodLink RX3 47 yX3_readSign ∈ TB := tb_at 646 (by decide +kernel) rfl
theorem q647 : Cond.instanceMethod yX3_readSign ∈ TB := tb_at 647 (by decide +kernel) rfl
theorem q648 : Cond.selects RX3 yX3_readSign yX3_readSign ∈ TB := tb_at 648 (by decide +kernel) rfl
set_option maxRecDepth 100000 in
theorem q649 : Cond.code yX3_readSign cX3_readSign 2 (some .boolean) ∈ TB := tb_at 649 rfl rfl
theorem q650 : Cond.methodLink RX3 54 yX3_readSecond ∈ TB := tb_at 650 (by decide +kernel) rfl
theorem q652 : Cond.instanceMethod yX3_readSecond ∈ TB := tb_at 652 (by decide +kernel) rfl
set_option maxRecDepth 100000 in
theorem q653 : Cond.code yX3_readSecond cX3_readSecond 1 (some .boolean) ∈ TB := tb_at 653 rfl rfl
theorem q654 : Cond.methodLink RX3 57 yX3_readThird ∈ TB := tb_at 654 (by decide +kernel) rfl
theorem q656 : Cond.instanceMethod yX3_readThird ∈ TB := tb_at 656 (by decide +kernel) rfl
set_option maxRecDepth 100000 in
theorem q657 : Cond.code yX3_readThird cX3_readThird 1 (some .boolean) ∈ TB := tb_at 657 rfl rfl
theorem q658 : Cond.methodLink RL 108 yX4_carryOut ∈ TB := tb_at 658 (by decide +kernel) rfl
theorem q659 : Cond.instanceMethod yX4_carryOut ∈ TB := tb_at 659 (by decide +kernel) rfl
theorem q660 : Cond.selects RX4 yX4_carryOut yX4_carryOut ∈ TB := tb_at 660 (by decide +kernel) rfl
set_option maxRecDepth 100000 in
theorem q661 : Cond.code yX4_carryOut cX4_carryOut 2 (some .int) ∈ TB := tb_at 661 rfl rfl
theorem q662 : Cond.methodLink RX4 121 yX3_readOrder ∈ TB := tb_at 662 (by decide +kernel) rfl
theorem q663 : Cond.methodLink RX4 125 yX4_carryOutOrder ∈ TB := tb_at 663 (by decide +kernel) rfl
theorem q665 : Cond.instanceMethod yX4_carryOutOrder ∈ TB := tb_at 665 (by decide +kernel) rfl
set_option maxRecDepth 100000 in
theorem q666 : Cond.code yX4_carryOutOrder cX4_carryOutOrder 1 (some .int) ∈ TB := tb_at 666 rfl rfl
theorem q667 : Cond.methodLink RX4 128 yX3_readSign ∈ TB := tb_at 667 (by decide +kernel) rfl
theorem q668 : Cond.methodLink RL 112 yX4_undo ∈ TB := tb_at 668 (by decide +kernel) rfl
theorem q669 : Cond.instanceMethod yX4_undo ∈ TB := tb_at 669 (by decide +kernel) rfl
theorem q670 : Cond.selects RX4 yX4_undo yX4_undo ∈ TB := tb_at 670 (by decide +kernel) rfl
set_option maxRecDepth 100000 in
theorem q671 : Cond.code yX4_undo cX4_undo 1 (some .int) ∈ TB := tb_at 671 rfl rfl
theorem q672 : Cond.methodLink RL 116 yX4_save ∈ TB := tb_at 672 (by decide +kernel) rfl
theorem q673 : Cond.instanceMethod yX4_save ∈ TB := tb_at 673 (by decide +kernel) rfl
theorem q674 : Cond.selects RX4 yX4_save yX4_save ∈ TB := tb_at 674 (by decide +kernel) rfl
set_option maxRecDepth 100000 in
theorem q675 : Cond.code yX4_save cX4_save 2 (some .int) ∈ TB := tb_at 675 rfl rfl
theorem q676 : Cond.methodLink RL 120 yX4_restore ∈ TB := tb_at 676 (by decide +kernel) rfl
theorem q677 : Cond.instanceMethod yX4_restore ∈ TB := tb_at 677 (by decide +kernel) rfl
theorem q678 : Cond.selects RX4 yX4_restore yX4_restore ∈ TB := tb_at 678 (by decide +kernel) rfl
set_option maxRecDepth 100000 in
theorem q679 : Cond.code yX4_restore cX4_restore 2 (some .int) ∈ TB := tb_at 679 rfl rfl
theorem q680 : Cond.classLink RL 10 RX5 ∈ TB := tb_at 680 (by decide +kernel) rfl
theorem q681 : Cond.instantiable RX5 11 ∈ TB := tb_at 681 (by decide +kernel) rfl
theorem q682 : Cond.methodLink RL 12 yX5_init ∈ TB := tb_at 682 (by decide +kernel) rfl
theorem q683 : Cond.instanceMethod yX5_init ∈ TB := tb_at 683 (by decide +kernel) rfl
set_option maxRecDepth 100000 in
theorem q684 : Cond.code yX5_init cX5_init 1 none ∈ TB := tb_at 684 rfl rfl
theorem q685 : Cond.methodLink RX5 1 Lib.objectInit ∈ TB := tb_at 685 (by decide +kernel) rfl
theorem q686 : Cond.fieldLink RX5 7 "EscheatLotsModel" "z" "[I" ∈ TB := tb_at 686 (by decide +kernel) rfl
theorem q687 : Cond.fieldLink RX5 13 "EscheatLotsModel" "spare" "[I" ∈ TB := tb_at 687 (by decide +kernel) rfl
theorem q688 : Cond.fieldLink RX5 16 "EscheatLotsModel" "past" "[I" ∈ TB := tb_at 688 (by decide +kernel) rfl
theorem q689 : Cond.fieldLink RX5 36 "EscheatLotsModel" "states" "I" ∈ TB := tb_at 689 (by decide +kernel) rfl
theorem q690 : Cond.fieldLink RX5 19 "EscheatLotsModel" "slots" "[I" ∈ TB := tb_at 690 (by decide +kernel) rfl
theorem q691 : Cond.fieldLink RX5 22 "EscheatLotsModel" "isSaved" "[Z" ∈ TB := tb_at 691 (by decide +kernel) rfl
theorem q692 : Cond.fieldLink RX5 26 "EscheatLotsModel" "pad" "[I" ∈ TB := tb_at 692 (by decide +kernel) rfl
theorem q693 : Cond.fieldLink RX5 197 "EscheatLotsModel" "typed" "I" ∈ TB := tb_at 693 (by decide +kernel) rfl
theorem q694 : Cond.fieldLink RX5 211 "EscheatLotsModel" "spot" "I" ∈ TB := tb_at 694 (by decide +kernel) rfl
theorem q695 : Cond.fieldLink RX5 29 "EscheatLotsModel" "told" "[I" ∈ TB := tb_at 695 (by decide +kernel) rfl
theorem q696 : Cond.fieldLink RX5 226 "EscheatLotsModel" "toldMany" "I" ∈ TB := tb_at 696 (by decide +kernel) rfl
theorem q697 : Cond.laysFinal RX5 "EscheatLotsModel" "z" "[I" ∈ TB := tb_at 697 (by decide +kernel) rfl
theorem q699 : Cond.laysFinal RX5 "EscheatLotsModel" "spare" "[I" ∈ TB := tb_at 699 (by decide +kernel) rfl
theorem q701 : Cond.laysFinal RX5 "EscheatLotsModel" "past" "[I" ∈ TB := tb_at 701 (by decide +kernel) rfl
theorem q703 : Cond.lays RX5 "EscheatLotsModel" "states" "I" ∈ TB := tb_at 703 (by decide +kernel) rfl
theorem q705 : Cond.laysFinal RX5 "EscheatLotsModel" "slots" "[I" ∈ TB := tb_at 705 (by decide +kernel) rfl
theorem q707 : Cond.laysFinal RX5 "EscheatLotsModel" "isSaved" "[Z" ∈ TB := tb_at 707 (by decide +kernel) rfl
theorem q709 : Cond.laysFinal RX5 "EscheatLotsModel" "pad" "[I" ∈ TB := tb_at 709 (by decide +kernel) rfl
theorem q711 : Cond.lays RX5 "EscheatLotsModel" "typed" "I" ∈ TB := tb_at 711 (by decide +kernel) rfl
theorem q713 : Cond.lays RX5 "EscheatLotsModel" "spot" "I" ∈ TB := tb_at 713 (by decide +kernel) rfl
theorem q715 : Cond.laysFinal RX5 "EscheatLotsModel" "told" "[I" ∈ TB := tb_at 715 (by decide +kernel) rfl
theorem q717 : Cond.lays RX5 "EscheatLotsModel" "toldMany" "I" ∈ TB := tb_at 717 (by decide +kernel) rfl
theorem q720 : Cond.methodLink RL 115 yX5_undo ∈ TB := tb_at 720 (by decide +kernel) rfl
theorem q721 : Cond.instanceMethod yX5_undo ∈ TB := tb_at 721 (by decide +kernel) rfl
theorem q722 : Cond.selects RX5 yX5_undo yX5_undo ∈ TB := tb_at 722 (by decide +kernel) rfl
set_option maxRecDepth 100000 in
theorem q723 : Cond.code yX5_undo cX5_undo 1 (some .int) ∈ TB := tb_at 723 rfl rfl
theorem q724 : Cond.methodLink RX5 40 yX5_copyState ∈ TB := tb_at 724 (by decide +kernel) rfl
theorem q725 : Cond.static yX5_copyState ∈ TB := tb_at 725 (by decide +kernel) rfl
set_option maxRecDepth 100000 in
theorem q726 : Cond.code yX5_copyState cX5_copyState 5 none ∈ TB := tb_at 726 rfl rfl
theorem q727 : Cond.methodLink RL 119 yX5_save ∈ TB := tb_at 727 (by decide +kernel) rfl
theorem q728 : Cond.instanceMethod yX5_save ∈ TB := tb_at 728 (by decide +kernel) rfl
theorem q729 : Cond.selects RX5 yX5_save yX5_save ∈ TB := tb_at 729 (by decide +kernel) rfl
set_option maxRecDepth 100000 in
theorem q730 : Cond.code yX5_save cX5_save 2 (some .int) ∈ TB := tb_at 730 rfl rfl
theorem q731 : Cond.methodLink RX5 32 yX5_in ∈ TB := tb_at 731 (by decide +kernel) rfl
theorem q732 : Cond.static yX5_in ∈ TB := tb_at 732 (by decide +kernel) rfl
set_option maxRecDepth 100000 in
theorem q733 : Cond.code yX5_in cX5_in 3 (some .boolean) ∈ TB := tb_at 733 rfl rfl
theorem q734 : Cond.methodLink RL 123 yX5_restore ∈ TB := tb_at 734 (by decide +kernel) rfl
theorem q735 : Cond.instanceMethod yX5_restore ∈ TB := tb_at 735 (by decide +kernel) rfl
theorem q736 : Cond.selects RX5 yX5_restore yX5_restore ∈ TB := tb_at 736 (by decide +kernel) rfl
set_option maxRecDepth 100000 in
theorem q737 : Cond.code yX5_restore cX5_restore 2 (some .int) ∈ TB := tb_at 737 rfl rfl
theorem q738 : Cond.methodLink RX5 44 yX5_record ∈ TB := tb_at 738 (by decide +kernel) rfl
theorem q740 : Cond.instanceMethod yX5_record ∈ TB := tb_at 740 (by decide +kernel) rfl
set_option maxRecDepth 100000 in
theorem q741 : Cond.code yX5_record cX5_record 2 none ∈ TB := tb_at 741 rfl rfl
theorem q742 : Cond.methodLink RL 17 yX5_set ∈ TB := tb_at 742 (by decide +kernel) rfl
theorem q743 : Cond.instanceMethod yX5_set ∈ TB := tb_at 743 (by decide +kernel) rfl
theorem q744 : Cond.selects RX5 yX5_set yX5_set ∈ TB := tb_at 744 (by decide +kernel) rfl
set_option maxRecDepth 100000 in
theorem q745 : Cond.code yX5_set cX5_set 4 (some .int) ∈ TB := tb_at 745 rfl rfl
theorem q746 : Cond.methodLink RX5 64 yX5_isValue ∈ TB := tb_at 746 (by decide +kernel) rfl
theorem q747 : Cond.static yX5_isValue ∈ TB := tb_at 747 (by decide +kernel) rfl
set_option maxRecDepth 100000 in
theorem q748 : Cond.code yX5_isValue cX5_isValue 2 (some .boolean) ∈ TB := tb_at 748 rfl rfl
theorem q749 : Cond.methodLink RL 22 yX5_lot ∈ TB := tb_at 749 (by decide +kernel) rfl
theorem q750 : Cond.instanceMethod yX5_lot ∈ TB := tb_at 750 (by decide +kernel) rfl
theorem q751 : Cond.selects RX5 yX5_lot yX5_lot ∈ TB := tb_at 751 (by decide +kernel) rfl
set_option maxRecDepth 100000 in
theorem q752 : Cond.code yX5_lot cX5_lot 3 (some .int) ∈ TB := tb_at 752 rfl rfl
theorem q753 : Cond.methodLink RX5 72 yX5_whyNotLot ∈ TB := tb_at 753 (by decide +kernel) rfl
theorem q755 : Cond.instanceMethod yX5_whyNotLot ∈ TB := tb_at 755 (by decide +kernel) rfl
set_option maxRecDepth 100000 in
theorem q756 : Cond.code yX5_whyNotLot cX5_whyNotLot 2 (some .int) ∈ TB := tb_at 756 rfl rfl
theorem q757 : Cond.methodLink RX5 75 yX5_lotNow ∈ TB := tb_at 757 (by decide +kernel) rfl
theorem q759 : Cond.instanceMethod yX5_lotNow ∈ TB := tb_at 759 (by decide +kernel) rfl
set_option maxRecDepth 100000 in
theorem q760 : Cond.code yX5_lotNow cX5_lotNow 3 (some .int) ∈ TB := tb_at 760 rfl rfl
theorem q761 : Cond.methodLink RX5 68 yX5_layLot ∈ TB := tb_at 761 (by decide +kernel) rfl
theorem q763 : Cond.instanceMethod yX5_layLot ∈ TB := tb_at 763 (by decide +kernel) rfl
set_option maxRecDepth 100000 in
theorem q764 : Cond.code yX5_layLot cX5_layLot 4 none ∈ TB := tb_at 764 rfl rfl
theorem q765 : Cond.methodLink RL 26 yX5_notice ∈ TB := tb_at 765 (by decide +kernel) rfl
theorem q766 : Cond.instanceMethod yX5_notice ∈ TB := tb_at 766 (by decide +kernel) rfl
theorem q767 : Cond.selects RX5 yX5_notice yX5_notice ∈ TB := tb_at 767 (by decide +kernel) rfl
set_option maxRecDepth 100000 in
theorem q768 : Cond.code yX5_notice cX5_notice 3 (some .int) ∈ TB := tb_at 768 rfl rfl
theorem q769 : Cond.methodLink RX5 85 yX5_whyNotNotice ∈ TB := tb_at 769 (by decide +kernel) rfl
theorem q771 : Cond.instanceMethod yX5_whyNotNotice ∈ TB := tb_at 771 (by decide +kernel) rfl
set_option maxRecDepth 100000 in
theorem q772 : Cond.code yX5_whyNotNotice cX5_whyNotNotice 2 (some .int) ∈ TB := tb_at 772 rfl rfl
theorem q773 : Cond.methodLink RX5 78 yX5_isLot ∈ TB := tb_at 773 (by decide +kernel) rfl
theorem q775 : Cond.instanceMethod yX5_isLot ∈ TB := tb_at 775 (by decide +kernel) rfl
set_option maxRecDepth 100000 in
theorem q776 : Cond.code yX5_isLot cX5_isLot 2 (some .boolean) ∈ TB := tb_at 776 rfl rfl
theorem q777 : Cond.methodLink RX5 58 yX5_lotOf ∈ TB := tb_at 777 (by decide +kernel) rfl
theorem q779 : Cond.instanceMethod yX5_lotOf ∈ TB := tb_at 779 (by decide +kernel) rfl
set_option maxRecDepth 100000 in
theorem q780 : Cond.code yX5_lotOf cX5_lotOf 3 (some .int) ∈ TB := tb_at 780 rfl rfl
theorem q781 : Cond.methodLink RX5 88 yX5_noticeNow ∈ TB := tb_at 781 (by decide +kernel) rfl
theorem q783 : Cond.instanceMethod yX5_noticeNow ∈ TB := tb_at 783 (by decide +kernel) rfl
set_option maxRecDepth 100000 in
theorem q784 : Cond.code yX5_noticeNow cX5_noticeNow 2 (some .int) ∈ TB := tb_at 784 rfl rfl
theorem q785 : Cond.methodLink RX5 82 yX5_lotsThatAre ∈ TB := tb_at 785 (by decide +kernel) rfl
theorem q787 : Cond.instanceMethod yX5_lotsThatAre ∈ TB := tb_at 787 (by decide +kernel) rfl
set_option maxRecDepth 100000 in
theorem q788 : Cond.code yX5_lotsThatAre cX5_lotsThatAre 4 (some .int) ∈ TB := tb_at 788 rfl rfl
theorem q789 : Cond.methodLink RX5 61 yX5_size ∈ TB := tb_at 789 (by decide +kernel) rfl
theorem q790 : Cond.static yX5_size ∈ TB := tb_at 790 (by decide +kernel) rfl
set_option maxRecDepth 100000 in
theorem q791 : Cond.code yX5_size cX5_size 3 (some .int) ∈ TB := tb_at 791 rfl rfl
theorem q792 : Cond.methodLink RL 31 yX5_claim ∈ TB := tb_at 792 (by decide +kernel) rfl
theorem q793 : Cond.instanceMethod yX5_claim ∈ TB := tb_at 793 (by decide +kernel) rfl
theorem q794 : Cond.selects RX5 yX5_claim yX5_claim ∈ TB := tb_at 794 (by decide +kernel) rfl
set_option maxRecDepth 100000 in
theorem q795 : Cond.code yX5_claim cX5_claim 5 (some .int) ∈ TB := tb_at 795 rfl rfl
theorem q796 : Cond.methodLink RX5 106 yX5_whyNotClaim ∈ TB := tb_at 796 (by decide +kernel) rfl
theorem q798 : Cond.instanceMethod yX5_whyNotClaim ∈ TB := tb_at 798 (by decide +kernel) rfl
set_option maxRecDepth 100000 in
theorem q799 : Cond.code yX5_whyNotClaim cX5_whyNotClaim 5 (some .int) ∈ TB := tb_at 799 rfl rfl
theorem q800 : Cond.methodLink RX5 94 yX5_isHeir ∈ TB := tb_at 800 (by decide +kernel) rfl
theorem q801 : Cond.static yX5_isHeir ∈ TB := tb_at 801 (by decide +kernel) rfl
set_option maxRecDepth 100000 in
theorem q802 : Cond.code yX5_isHeir cX5_isHeir 1 (some .boolean) ∈ TB := tb_at 802 rfl rfl
theorem q803 : Cond.methodLink RX5 97 yX5_isEnded ∈ TB := tb_at 803 (by decide +kernel) rfl
theorem q805 : Cond.instanceMethod yX5_isEnded ∈ TB := tb_at 805 (by decide +kernel) rfl
set_option maxRecDepth 100000 in
theorem q806 : Cond.code yX5_isEnded cX5_isEnded 2 (some .boolean) ∈ TB := tb_at 806 rfl rfl
theorem q807 : Cond.methodLink RX5 100 yX5_claims ∈ TB := tb_at 807 (by decide +kernel) rfl
theorem q809 : Cond.instanceMethod yX5_claims ∈ TB := tb_at 809 (by decide +kernel) rfl
set_option maxRecDepth 100000 in
theorem q810 : Cond.code yX5_claims cX5_claims 5 (some .boolean) ∈ TB := tb_at 810 rfl rfl
theorem q811 : Cond.methodLink RX5 47 yX5_claimOf ∈ TB := tb_at 811 (by decide +kernel) rfl
theorem q813 : Cond.instanceMethod yX5_claimOf ∈ TB := tb_at 813 (by decide +kernel) rfl
set_option maxRecDepth 100000 in
theorem q814 : Cond.code yX5_claimOf cX5_claimOf 3 (some .int) ∈ TB := tb_at 814 rfl rfl
theorem q815 : Cond.methodLink RX5 91 yX5_stands ∈ TB := tb_at 815 (by decide +kernel) rfl
theorem q817 : Cond.instanceMethod yX5_stands ∈ TB := tb_at 817 (by decide +kernel) rfl
set_option maxRecDepth 100000 in
theorem q818 : Cond.code yX5_stands cX5_stands 2 (some .boolean) ∈ TB := tb_at 818 rfl rfl
theorem q819 : Cond.methodLink RX5 110 yX5_claimNow ∈ TB := tb_at 819 (by decide +kernel) rfl
theorem q821 : Cond.instanceMethod yX5_claimNow ∈ TB := tb_at 821 (by decide +kernel) rfl
set_option maxRecDepth 100000 in
theorem q822 : Cond.code yX5_claimNow cX5_claimNow 6 (some .int) ∈ TB := tb_at 822 rfl rfl
theorem q823 : Cond.methodLink RX5 103 yX5_layClaim ∈ TB := tb_at 823 (by decide +kernel) rfl
theorem q825 : Cond.instanceMethod yX5_layClaim ∈ TB := tb_at 825 (by decide +kernel) rfl
set_option maxRecDepth 100000 in
theorem q826 : Cond.code yX5_layClaim cX5_layClaim 4 none ∈ TB := tb_at 826 rfl rfl
theorem q827 : Cond.methodLink RL 35 yX5_prove ∈ TB := tb_at 827 (by decide +kernel) rfl
theorem q828 : Cond.instanceMethod yX5_prove ∈ TB := tb_at 828 (by decide +kernel) rfl
theorem q829 : Cond.selects RX5 yX5_prove yX5_prove ∈ TB := tb_at 829 (by decide +kernel) rfl
set_option maxRecDepth 100000 in
theorem q830 : Cond.code yX5_prove cX5_prove 4 (some .int) ∈ TB := tb_at 830 rfl rfl
theorem q831 : Cond.methodLink RX5 119 yX5_whyNotProve ∈ TB := tb_at 831 (by decide +kernel) rfl
theorem q833 : Cond.instanceMethod yX5_whyNotProve ∈ TB := tb_at 833 (by decide +kernel) rfl
set_option maxRecDepth 100000 in
theorem q834 : Cond.code yX5_whyNotProve cX5_whyNotProve 3 (some .int) ∈ TB := tb_at 834 rfl rfl
theorem q835 : Cond.methodLink RX5 113 yX5_isClaim ∈ TB := tb_at 835 (by decide +kernel) rfl
theorem q837 : Cond.instanceMethod yX5_isClaim ∈ TB := tb_at 837 (by decide +kernel) rfl
set_option maxRecDepth 100000 in
theorem q838 : Cond.code yX5_isClaim cX5_isClaim 2 (some .boolean) ∈ TB := tb_at 838 rfl rfl
theorem q839 : Cond.methodLink RX5 116 yX5_whyNotOpen ∈ TB := tb_at 839 (by decide +kernel) rfl
theorem q841 : Cond.instanceMethod yX5_whyNotOpen ∈ TB := tb_at 841 (by decide +kernel) rfl
set_option maxRecDepth 100000 in
theorem q842 : Cond.code yX5_whyNotOpen cX5_whyNotOpen 2 (some .int) ∈ TB := tb_at 842 rfl rfl
theorem q843 : Cond.methodLink RX5 122 yX5_proveNow ∈ TB := tb_at 843 (by decide +kernel) rfl
theorem q845 : Cond.instanceMethod yX5_proveNow ∈ TB := tb_at 845 (by decide +kernel) rfl
set_option maxRecDepth 100000 in
theorem q846 : Cond.code yX5_proveNow cX5_proveNow 4 (some .int) ∈ TB := tb_at 846 rfl rfl
theorem q847 : Cond.methodLink RL 39 yX5_decide ∈ TB := tb_at 847 (by decide +kernel) rfl
theorem q848 : Cond.instanceMethod yX5_decide ∈ TB := tb_at 848 (by decide +kernel) rfl
theorem q849 : Cond.selects RX5 yX5_decide yX5_decide ∈ TB := tb_at 849 (by decide +kernel) rfl
set_option maxRecDepth 100000 in
theorem q850 : Cond.code yX5_decide cX5_decide 3 (some .int) ∈ TB := tb_at 850 rfl rfl
theorem q851 : Cond.methodLink RX5 125 yX5_whyNotDecide ∈ TB := tb_at 851 (by decide +kernel) rfl
theorem q853 : Cond.instanceMethod yX5_whyNotDecide ∈ TB := tb_at 853 (by decide +kernel) rfl
set_option maxRecDepth 100000 in
theorem q854 : Cond.code yX5_whyNotDecide cX5_whyNotDecide 2 (some .int) ∈ TB := tb_at 854 rfl rfl
theorem q855 : Cond.methodLink RX5 128 yX5_decideNow ∈ TB := tb_at 855 (by decide +kernel) rfl
theorem q857 : Cond.instanceMethod yX5_decideNow ∈ TB := tb_at 857 (by decide +kernel) rfl
set_option maxRecDepth 100000 in
theorem q858 : Cond.code yX5_decideNow cX5_decideNow 2 (some .int) ∈ TB := tb_at 858 rfl rfl
theorem q859 : Cond.methodLink RL 43 yX5_withdraw ∈ TB := tb_at 859 (by decide +kernel) rfl
theorem q860 : Cond.instanceMethod yX5_withdraw ∈ TB := tb_at 860 (by decide +kernel) rfl
theorem q861 : Cond.selects RX5 yX5_withdraw yX5_withdraw ∈ TB := tb_at 861 (by decide +kernel) rfl
set_option maxRecDepth 100000 in
theorem q862 : Cond.code yX5_withdraw cX5_withdraw 3 (some .int) ∈ TB := tb_at 862 rfl rfl
theorem q863 : Cond.methodLink RX5 134 yX5_whyNotWithdraw ∈ TB := tb_at 863 (by decide +kernel) rfl
theorem q865 : Cond.instanceMethod yX5_whyNotWithdraw ∈ TB := tb_at 865 (by decide +kernel) rfl
set_option maxRecDepth 100000 in
theorem q866 : Cond.code yX5_whyNotWithdraw cX5_whyNotWithdraw 2 (some .int) ∈ TB := tb_at 866 rfl rfl
theorem q867 : Cond.methodLink RX5 137 yX5_withdrawNow ∈ TB := tb_at 867 (by decide +kernel) rfl
theorem q869 : Cond.instanceMethod yX5_withdrawNow ∈ TB := tb_at 869 (by decide +kernel) rfl
set_option maxRecDepth 100000 in
theorem q870 : Cond.code yX5_withdrawNow cX5_withdrawNow 2 (some .int) ∈ TB := tb_at 870 rfl rfl
theorem q871 : Cond.methodLink RX5 131 yX5_standing ∈ TB := tb_at 871 (by decide +kernel) rfl
theorem q873 : Cond.instanceMethod yX5_standing ∈ TB := tb_at 873 (by decide +kernel) rfl
set_option maxRecDepth 100000 in
theorem q874 : Cond.code yX5_standing cX5_standing 2 (some .int) ∈ TB := tb_at 874 rfl rfl
theorem q875 : Cond.methodLink RX5 51 yX5_claimsTo ∈ TB := tb_at 875 (by decide +kernel) rfl
theorem q877 : Cond.instanceMethod yX5_claimsTo ∈ TB := tb_at 877 (by decide +kernel) rfl
set_option maxRecDepth 100000 in
theorem q878 : Cond.code yX5_claimsTo cX5_claimsTo 5 (some .int) ∈ TB := tb_at 878 rfl rfl
theorem q879 : Cond.methodLink RL 47 yX5_settle ∈ TB := tb_at 879 (by decide +kernel) rfl
theorem q880 : Cond.instanceMethod yX5_settle ∈ TB := tb_at 880 (by decide +kernel) rfl
theorem q881 : Cond.selects RX5 yX5_settle yX5_settle ∈ TB := tb_at 881 (by decide +kernel) rfl
set_option maxRecDepth 100000 in
theorem q882 : Cond.code yX5_settle cX5_settle 3 (some .int) ∈ TB := tb_at 882 rfl rfl
theorem q883 : Cond.methodLink RX5 156 yX5_whyNotSettle ∈ TB := tb_at 883 (by decide +kernel) rfl
theorem q885 : Cond.instanceMethod yX5_whyNotSettle ∈ TB := tb_at 885 (by decide +kernel) rfl
set_option maxRecDepth 100000 in
theorem q886 : Cond.code yX5_whyNotSettle cX5_whyNotSettle 2 (some .int) ∈ TB := tb_at 886 rfl rfl
theorem q887 : Cond.methodLink RX5 159 yX5_settleNow ∈ TB := tb_at 887 (by decide +kernel) rfl
theorem q889 : Cond.instanceMethod yX5_settleNow ∈ TB := tb_at 889 (by decide +kernel) rfl
set_option maxRecDepth 100000 in
theorem q890 : Cond.code yX5_settleNow cX5_settleNow 7 (some .int) ∈ TB := tb_at 890 rfl rfl
theorem q891 : Cond.methodLink RX5 143 yX5_nearestOnes ∈ TB := tb_at 891 (by decide +kernel) rfl
theorem q893 : Cond.instanceMethod yX5_nearestOnes ∈ TB := tb_at 893 (by decide +kernel) rfl
set_option maxRecDepth 100000 in
theorem q894 : Cond.code yX5_nearestOnes cX5_nearestOnes 5 (some .int) ∈ TB := tb_at 894 rfl rfl
theorem q895 : Cond.methodLink RX5 54 yX5_nearest ∈ TB := tb_at 895 (by decide +kernel) rfl
theorem q897 : Cond.instanceMethod yX5_nearest ∈ TB := tb_at 897 (by decide +kernel) rfl
set_option maxRecDepth 100000 in
theorem q898 : Cond.code yX5_nearest cX5_nearest 5 (some .int) ∈ TB := tb_at 898 rfl rfl
theorem q899 : Cond.methodLink RX5 146 yX5_shared ∈ TB := tb_at 899 (by decide +kernel) rfl
theorem q901 : Cond.instanceMethod yX5_shared ∈ TB := tb_at 901 (by decide +kernel) rfl
set_option maxRecDepth 100000 in
theorem q902 : Cond.code yX5_shared cX5_shared 3 (some .int) ∈ TB := tb_at 902 rfl rfl
theorem q903 : Cond.methodLink RX5 149 yX5_part ∈ TB := tb_at 903 (by decide +kernel) rfl
theorem q904 : Cond.static yX5_part ∈ TB := tb_at 904 (by decide +kernel) rfl
set_option maxRecDepth 100000 in
theorem q905 : Cond.code yX5_part cX5_part 5 (some .int) ∈ TB := tb_at 905 rfl rfl
theorem q906 : Cond.methodLink RX5 152 yX5_pay ∈ TB := tb_at 906 (by decide +kernel) rfl
theorem q908 : Cond.instanceMethod yX5_pay ∈ TB := tb_at 908 (by decide +kernel) rfl
set_option maxRecDepth 100000 in
theorem q909 : Cond.code yX5_pay cX5_pay 4 none ∈ TB := tb_at 909 rfl rfl
theorem q910 : Cond.methodLink RX5 140 yX5_isPaid ∈ TB := tb_at 910 (by decide +kernel) rfl
theorem q912 : Cond.instanceMethod yX5_isPaid ∈ TB := tb_at 912 (by decide +kernel) rfl
set_option maxRecDepth 100000 in
theorem q913 : Cond.code yX5_isPaid cX5_isPaid 4 (some .boolean) ∈ TB := tb_at 913 rfl rfl
theorem q914 : Cond.methodLink RL 51 yX5_pass ∈ TB := tb_at 914 (by decide +kernel) rfl
theorem q915 : Cond.instanceMethod yX5_pass ∈ TB := tb_at 915 (by decide +kernel) rfl
theorem q916 : Cond.selects RX5 yX5_pass yX5_pass ∈ TB := tb_at 916 (by decide +kernel) rfl
set_option maxRecDepth 100000 in
theorem q917 : Cond.code yX5_pass cX5_pass 3 (some .int) ∈ TB := tb_at 917 rfl rfl
theorem q918 : Cond.methodLink RX5 169 yX5_whyNotPass ∈ TB := tb_at 918 (by decide +kernel) rfl
theorem q920 : Cond.instanceMethod yX5_whyNotPass ∈ TB := tb_at 920 (by decide +kernel) rfl
set_option maxRecDepth 100000 in
theorem q921 : Cond.code yX5_whyNotPass cX5_whyNotPass 2 (some .int) ∈ TB := tb_at 921 rfl rfl
theorem q922 : Cond.methodLink RX5 172 yX5_passNow ∈ TB := tb_at 922 (by decide +kernel) rfl
theorem q924 : Cond.instanceMethod yX5_passNow ∈ TB := tb_at 924 (by decide +kernel) rfl
set_option maxRecDepth 100000 in
theorem q925 : Cond.code yX5_passNow cX5_passNow 4 (some .int) ∈ TB := tb_at 925 rfl rfl
theorem q926 : Cond.methodLink RX5 165 yX5_dayNow ∈ TB := tb_at 926 (by decide +kernel) rfl
theorem q928 : Cond.instanceMethod yX5_dayNow ∈ TB := tb_at 928 (by decide +kernel) rfl
set_option maxRecDepth 100000 in
theorem q929 : Cond.code yX5_dayNow cX5_dayNow 3 (some .int) ∈ TB := tb_at 929 rfl rfl
theorem q930 : Cond.methodLink RX5 162 yX5_dayOf ∈ TB := tb_at 930 (by decide +kernel) rfl
theorem q932 : Cond.instanceMethod yX5_dayOf ∈ TB := tb_at 932 (by decide +kernel) rfl
set_option maxRecDepth 100000 in
theorem q933 : Cond.code yX5_dayOf cX5_dayOf 5 (some .boolean) ∈ TB := tb_at 933 rfl rfl
theorem q934 : Cond.methodLink RL 55 yX5_of ∈ TB := tb_at 934 (by decide +kernel) rfl
theorem q935 : Cond.instanceMethod yX5_of ∈ TB := tb_at 935 (by decide +kernel) rfl
theorem q936 : Cond.selects RX5 yX5_of yX5_of ∈ TB := tb_at 936 (by decide +kernel) rfl
set_option maxRecDepth 100000 in
theorem q937 : Cond.code yX5_of cX5_of 3 (some .int) ∈ TB := tb_at 937 rfl rfl
theorem q938 : Cond.methodLink RX5 175 yX5_allClaimsTo ∈ TB := tb_at 938 (by decide +kernel) rfl
theorem q940 : Cond.instanceMethod yX5_allClaimsTo ∈ TB := tb_at 940 (by decide +kernel) rfl
set_option maxRecDepth 100000 in
theorem q941 : Cond.code yX5_allClaimsTo cX5_allClaimsTo 4 (some .int) ∈ TB := tb_at 941 rfl rfl
theorem q942 : Cond.methodLink RL 59 yX5_ofClaim ∈ TB := tb_at 942 (by decide +kernel) rfl
theorem q943 : Cond.instanceMethod yX5_ofClaim ∈ TB := tb_at 943 (by decide +kernel) rfl
theorem q944 : Cond.selects RX5 yX5_ofClaim yX5_ofClaim ∈ TB := tb_at 944 (by decide +kernel) rfl
set_option maxRecDepth 100000 in
theorem q945 : Cond.code yX5_ofClaim cX5_ofClaim 3 (some .int) ∈ TB := tb_at 945 rfl rfl
theorem q946 : Cond.methodLink RL 63 yX5_heir ∈ TB := tb_at 946 (by decide +kernel) rfl
theorem q947 : Cond.instanceMethod yX5_heir ∈ TB := tb_at 947 (by decide +kernel) rfl
theorem q948 : Cond.selects RX5 yX5_heir yX5_heir ∈ TB := tb_at 948 (by decide +kernel) rfl
set_option maxRecDepth 100000 in
theorem q949 : Cond.code yX5_heir cX5_heir 3 (some .int) ∈ TB := tb_at 949 rfl rfl
theorem q950 : Cond.methodLink RX5 178 yX5_claimsOf ∈ TB := tb_at 950 (by decide +kernel) rfl
theorem q952 : Cond.instanceMethod yX5_claimsOf ∈ TB := tb_at 952 (by decide +kernel) rfl
set_option maxRecDepth 100000 in
theorem q953 : Cond.code yX5_claimsOf cX5_claimsOf 5 (some .int) ∈ TB := tb_at 953 rfl rfl
theorem q954 : Cond.methodLink RX5 182 yX5_lotsGot ∈ TB := tb_at 954 (by decide +kernel) rfl
theorem q956 : Cond.instanceMethod yX5_lotsGot ∈ TB := tb_at 956 (by decide +kernel) rfl
set_option maxRecDepth 100000 in
theorem q957 : Cond.code yX5_lotsGot cX5_lotsGot 4 (some .int) ∈ TB := tb_at 957 rfl rfl
theorem q958 : Cond.methodLink RL 67 yX5_paid ∈ TB := tb_at 958 (by decide +kernel) rfl
theorem q959 : Cond.instanceMethod yX5_paid ∈ TB := tb_at 959 (by decide +kernel) rfl
theorem q960 : Cond.selects RX5 yX5_paid yX5_paid ∈ TB := tb_at 960 (by decide +kernel) rfl
set_option maxRecDepth 100000 in
theorem q961 : Cond.code yX5_paid cX5_paid 2 (some .int) ∈ TB := tb_at 961 rfl rfl
theorem q962 : Cond.methodLink RL 71 yX5_count ∈ TB := tb_at 962 (by decide +kernel) rfl
theorem q963 : Cond.instanceMethod yX5_count ∈ TB := tb_at 963 (by decide +kernel) rfl
theorem q964 : Cond.selects RX5 yX5_count yX5_count ∈ TB := tb_at 964 (by decide +kernel) rfl
set_option maxRecDepth 100000 in
theorem q965 : Cond.code yX5_count cX5_count 2 (some .int) ∈ TB := tb_at 965 rfl rfl
theorem q966 : Cond.methodLink RX5 185 yX5_valueOf ∈ TB := tb_at 966 (by decide +kernel) rfl
theorem q968 : Cond.instanceMethod yX5_valueOf ∈ TB := tb_at 968 (by decide +kernel) rfl
set_option maxRecDepth 100000 in
theorem q969 : Cond.code yX5_valueOf cX5_valueOf 4 (some .int) ∈ TB := tb_at 969 rfl rfl
theorem q970 : Cond.methodLink RX5 188 yX5_purses ∈ TB := tb_at 970 (by decide +kernel) rfl
theorem q972 : Cond.instanceMethod yX5_purses ∈ TB := tb_at 972 (by decide +kernel) rfl
set_option maxRecDepth 100000 in
theorem q973 : Cond.code yX5_purses cX5_purses 3 (some .int) ∈ TB := tb_at 973 rfl rfl
theorem q974 : Cond.methodLink RX5 191 yX5_standingClaims ∈ TB := tb_at 974 (by decide +kernel) rfl
theorem q976 : Cond.instanceMethod yX5_standingClaims ∈ TB := tb_at 976 (by decide +kernel) rfl
set_option maxRecDepth 100000 in
theorem q977 : Cond.code yX5_standingClaims cX5_standingClaims 3 (some .int) ∈ TB := tb_at 977 rfl rfl
theorem q978 : Cond.methodLink RX5 194 yX5_heirsWhoClaimed ∈ TB := tb_at 978 (by decide +kernel) rfl
theorem q980 : Cond.instanceMethod yX5_heirsWhoClaimed ∈ TB := tb_at 980 (by decide +kernel) rfl
set_option maxRecDepth 100000 in
theorem q981 : Cond.code yX5_heirsWhoClaimed cX5_heirsWhoClaimed 3 (some .int) ∈ TB := tb_at 981 rfl rfl
theorem q982 : Cond.methodLink RL 75 yX5_why ∈ TB := tb_at 982 (by decide +kernel) rfl
theorem q983 : Cond.instanceMethod yX5_why ∈ TB := tb_at 983 (by decide +kernel) rfl
theorem q984 : Cond.selects RX5 yX5_why yX5_why ∈ TB := tb_at 984 (by decide +kernel) rfl
set_option maxRecDepth 100000 in
theorem q985 : Cond.code yX5_why cX5_why 2 (some .int) ∈ TB := tb_at 985 rfl rfl
theorem q986 : Cond.methodLink RL 79 yX5_fallsIn ∈ TB := tb_at 986 (by decide +kernel) rfl
theorem q987 : Cond.instanceMethod yX5_fallsIn ∈ TB := tb_at 987 (by decide +kernel) rfl
theorem q988 : Cond.selects RX5 yX5_fallsIn yX5_fallsIn ∈ TB := tb_at 988 (by decide +kernel) rfl
set_option maxRecDepth 100000 in
theorem q989 : Cond.code yX5_fallsIn cX5_fallsIn 2 (some .int) ∈ TB := tb_at 989 rfl rfl
theorem q990 : Cond.methodLink RX5 200 yX5_daysToFall ∈ TB := tb_at 990 (by decide +kernel) rfl
theorem q992 : Cond.instanceMethod yX5_daysToFall ∈ TB := tb_at 992 (by decide +kernel) rfl
set_option maxRecDepth 100000 in
theorem q993 : Cond.code yX5_daysToFall cX5_daysToFall 4 (some .int) ∈ TB := tb_at 993 rfl rfl
theorem q994 : Cond.methodLink RL 83 yX5_share ∈ TB := tb_at 994 (by decide +kernel) rfl
theorem q995 : Cond.instanceMethod yX5_share ∈ TB := tb_at 995 (by decide +kernel) rfl
theorem q996 : Cond.selects RX5 yX5_share yX5_share ∈ TB := tb_at 996 (by decide +kernel) rfl
set_option maxRecDepth 100000 in
theorem q997 : Cond.code yX5_share cX5_share 4 (some .int) ∈ TB := tb_at 997 rfl rfl
theorem q998 : Cond.methodLink RX5 203 yX5_shareOf ∈ TB := tb_at 998 (by decide +kernel) rfl
theorem q1000 : Cond.instanceMethod yX5_shareOf ∈ TB := tb_at 1000 (by decide +kernel) rfl
set_option maxRecDepth 100000 in
theorem q1001 : Cond.code yX5_shareOf cX5_shareOf 7 (some .int) ∈ TB := tb_at 1001 rfl rfl
theorem q1002 : Cond.methodLink RL 87 yX5_nextFall ∈ TB := tb_at 1002 (by decide +kernel) rfl
theorem q1003 : Cond.instanceMethod yX5_nextFall ∈ TB := tb_at 1003 (by decide +kernel) rfl
theorem q1004 : Cond.selects RX5 yX5_nextFall yX5_nextFall ∈ TB := tb_at 1004 (by decide +kernel) rfl
set_option maxRecDepth 100000 in
theorem q1005 : Cond.code yX5_nextFall cX5_nextFall 7 (some .int) ∈ TB := tb_at 1005 rfl rfl
theorem q1006 : Cond.methodLink RL 91 yX5_nextLapse ∈ TB := tb_at 1006 (by decide +kernel) rfl
theorem q1007 : Cond.instanceMethod yX5_nextLapse ∈ TB := tb_at 1007 (by decide +kernel) rfl
theorem q1008 : Cond.selects RX5 yX5_nextLapse yX5_nextLapse ∈ TB := tb_at 1008 (by decide +kernel) rfl
set_option maxRecDepth 100000 in
theorem q1009 : Cond.code yX5_nextLapse cX5_nextLapse 5 (some .int) ∈ TB := tb_at 1009 rfl rfl
theorem q1010 : Cond.methodLink RX5 206 yX5_lapsesIn ∈ TB := tb_at 1010 (by decide +kernel) rfl
theorem q1012 : Cond.instanceMethod yX5_lapsesIn ∈ TB := tb_at 1012 (by decide +kernel) rfl
set_option maxRecDepth 100000 in
theorem q1013 : Cond.code yX5_lapsesIn cX5_lapsesIn 3 (some .int) ∈ TB := tb_at 1013 rfl rfl
theorem q1014 : Cond.methodLink RL 98 yX5_put ∈ TB := tb_at 1014 (by decide +kernel) rfl
theorem q1015 : Cond.instanceMethod yX5_put ∈ TB := tb_at 1015 (by decide +kernel) rfl
theorem q1016 : Cond.selects RX5 yX5_put yX5_put ∈ TB := tb_at 1016 (by decide +kernel) rfl
set_option maxRecDepth 100000 in
theorem q1017 : Cond.code yX5_put cX5_put 7 (some .int) ∈ TB := tb_at 1017 rfl rfl
theorem q1018 : Cond.constantLong RX5 209 (255) ∈ TB := tb_at 1018 (by decide +kernel) rfl
theorem q1019 : Cond.methodLink RL 103 yX5_wipe ∈ TB := tb_at 1019 (by decide +kernel) rfl
theorem q1020 : Cond.instanceMethod yX5_wipe ∈ TB := tb_at 1020 (by decide +kernel) rfl
theorem q1021 : Cond.selects RX5 yX5_wipe yX5_wipe ∈ TB := tb_at 1021 (by decide +kernel) rfl
set_option maxRecDepth 100000 in
theorem q1022 : Cond.code yX5_wipe cX5_wipe 2 (some .int) ∈ TB := tb_at 1022 rfl rfl
theorem q1023 : Cond.methodLink RL 107 yX5_fault ∈ TB := tb_at 1023 (by decide +kernel) rfl
theorem q1024 : Cond.instanceMethod yX5_fault ∈ TB := tb_at 1024 (by decide +kernel) rfl
theorem q1025 : Cond.selects RX5 yX5_fault yX5_fault ∈ TB := tb_at 1025 (by decide +kernel) rfl
set_option maxRecDepth 100000 in
theorem q1026 : Cond.code yX5_fault cX5_fault 1 (some .int) ∈ TB := tb_at 1026 rfl rfl
theorem q1027 : Cond.methodLink RX5 233 yX5_readPad ∈ TB := tb_at 1027 (by decide +kernel) rfl
theorem q1029 : Cond.instanceMethod yX5_readPad ∈ TB := tb_at 1029 (by decide +kernel) rfl
set_option maxRecDepth 100000 in
theorem q1030 : Cond.code yX5_readPad cX5_readPad 2 (some .boolean) ∈ TB := tb_at 1030 rfl rfl
theorem q1031 : Cond.methodLink RX5 229 yX5_readOrder ∈ TB := tb_at 1031 (by decide +kernel) rfl
theorem q1033 : Cond.instanceMethod yX5_readOrder ∈ TB := tb_at 1033 (by decide +kernel) rfl
set_option maxRecDepth 100000 in
theorem q1034 : Cond.code yX5_readOrder cX5_readOrder 5 (some .boolean) ∈ TB := tb_at 1034 rfl rfl
theorem q1035 : Cond.methodLink RX5 217 yX5_isLetter ∈ TB := tb_at 1035 (by decide +kernel) rfl
theorem q1036 : Cond.static yX5_isLetter ∈ TB := tb_at 1036 (by decide +kernel) rfl
set_option maxRecDepth 100000 in
theorem q1037 : Cond.code yX5_isLetter cX5_isLetter 1 (some .boolean) ∈ TB := tb_at 1037 rfl rfl
theorem q1038 : Cond.methodLink RX5 220 yX5_number ∈ TB := tb_at 1038 (by decide +kernel) rfl
theorem q1040 : Cond.instanceMethod yX5_number ∈ TB := tb_at 1040 (by decide +kernel) rfl
set_option maxRecDepth 100000 in
theorem q1041 : Cond.code yX5_number cX5_number 3 (some .int) ∈ TB := tb_at 1041 rfl rfl
theorem q1042 : Cond.methodLink RX5 214 yX5_sees ∈ TB := tb_at 1042 (by decide +kernel) rfl
theorem q1044 : Cond.instanceMethod yX5_sees ∈ TB := tb_at 1044 (by decide +kernel) rfl
set_option maxRecDepth 100000 in
theorem q1045 : Cond.code yX5_sees cX5_sees 3 (some .boolean) ∈ TB := tb_at 1045 rfl rfl
theorem q1046 : Cond.methodLink RX5 223 yX5_takes ∈ TB := tb_at 1046 (by decide +kernel) rfl
theorem q1048 : Cond.instanceMethod yX5_takes ∈ TB := tb_at 1048 (by decide +kernel) rfl
set_option maxRecDepth 100000 in
theorem q1049 : Cond.code yX5_takes cX5_takes 3 (some .boolean) ∈ TB := tb_at 1049 rfl rfl
theorem q1050 : Cond.methodLink RL 111 yX5_carryOut ∈ TB := tb_at 1050 (by decide +kernel) rfl
theorem q1051 : Cond.instanceMethod yX5_carryOut ∈ TB := tb_at 1051 (by decide +kernel) rfl
theorem q1052 : Cond.selects RX5 yX5_carryOut yX5_carryOut ∈ TB := tb_at 1052 (by decide +kernel) rfl
set_option maxRecDepth 100000 in
theorem q1053 : Cond.code yX5_carryOut cX5_carryOut 2 (some .int) ∈ TB := tb_at 1053 rfl rfl
theorem q1054 : Cond.methodLink RX5 236 yX5_whyNot ∈ TB := tb_at 1054 (by decide +kernel) rfl
theorem q1056 : Cond.instanceMethod yX5_whyNot ∈ TB := tb_at 1056 (by decide +kernel) rfl
set_option maxRecDepth 100000 in
theorem q1057 : Cond.code yX5_whyNot cX5_whyNot 3 (some .int) ∈ TB := tb_at 1057 rfl rfl
theorem q1058 : Cond.methodLink RX5 239 yX5_doOrder ∈ TB := tb_at 1058 (by decide +kernel) rfl
theorem q1060 : Cond.instanceMethod yX5_doOrder ∈ TB := tb_at 1060 (by decide +kernel) rfl
set_option maxRecDepth 100000 in
theorem q1061 : Cond.code yX5_doOrder cX5_doOrder 3 (some .int) ∈ TB := tb_at 1061 rfl rfl
theorem q1062 : Cond.constantLong RL 92 (4294967295) ∈ TB := tb_at 1062 (by decide +kernel) rfl
theorem p0 : Cond.selects RX4 yX4_draft yX4_draft ∈ TB := tb_at 0 (by decide +kernel) rfl
theorem p1 : Cond.selects RX4 yX4_recorded yX4_recorded ∈ TB := tb_at 1 (by decide +kernel) rfl
theorem p2 : Cond.selects RX4 yX4_dropOldest yX4_dropOldest ∈ TB := tb_at 2 (by decide +kernel) rfl
theorem p3 : Cond.selects RX2 yX2_canBeClaimed yX2_canBeClaimed ∈ TB := tb_at 3 (by decide +kernel) rfl
theorem p4 : Cond.selects RX2 yX2_coinsToShare yX2_coinsToShare ∈ TB := tb_at 4 (by decide +kernel) rfl
theorem p5 : Cond.selects RX2 yX2_settleClaim yX2_settleClaim ∈ TB := tb_at 5 (by decide +kernel) rfl
theorem p6 : Cond.selects RX2 yX2_purse yX2_purse ∈ TB := tb_at 6 (by decide +kernel) rfl
theorem p7 : Cond.selects RX2 yX2_leaveOffice yX2_leaveOffice ∈ TB := tb_at 7 (by decide +kernel) rfl
theorem p8 : Cond.selects RX2 yX2_passDay yX2_passDay ∈ TB := tb_at 8 (by decide +kernel) rfl
theorem p9 : Cond.selects RX0 yX0_waitLonger yX0_waitLonger ∈ TB := tb_at 9 (by decide +kernel) rfl
theorem p10 : Cond.selects RX2 yX2_countDay yX2_countDay ∈ TB := tb_at 10 (by decide +kernel) rfl
theorem p11 : Cond.selects RX2 yX2_idleDays yX2_idleDays ∈ TB := tb_at 11 (by decide +kernel) rfl
theorem p12 : Cond.selects RX2 yX2_daysToLapse yX2_daysToLapse ∈ TB := tb_at 12 (by decide +kernel) rfl
theorem p13 : Cond.selects RX2 yX2_lapsesAhead yX2_lapsesAhead ∈ TB := tb_at 13 (by decide +kernel) rfl
theorem p14 : Cond.selects RX3 yX3_readFirst yX3_readFirst ∈ TB := tb_at 14 (by decide +kernel) rfl
theorem p15 : Cond.selects RX3 yX3_readNumber yX3_readNumber ∈ TB := tb_at 15 (by decide +kernel) rfl
theorem p16 : Cond.selects RX3 yX3_readDigit yX3_readDigit ∈ TB := tb_at 16 (by decide +kernel) rfl
theorem p17 : Cond.selects RX3 yX3_readSecond yX3_readSecond ∈ TB := tb_at 17 (by decide +kernel) rfl
theorem p18 : Cond.selects RX3 yX3_readThird yX3_readThird ∈ TB := tb_at 18 (by decide +kernel) rfl
theorem p19 : Cond.selects RX4 yX4_carryOutOrder yX4_carryOutOrder ∈ TB := tb_at 19 (by decide +kernel) rfl
theorem p20 : Cond.selects RX5 yX5_record yX5_record ∈ TB := tb_at 20 (by decide +kernel) rfl
theorem p21 : Cond.selects RX5 yX5_whyNotLot yX5_whyNotLot ∈ TB := tb_at 21 (by decide +kernel) rfl
theorem p22 : Cond.selects RX5 yX5_lotNow yX5_lotNow ∈ TB := tb_at 22 (by decide +kernel) rfl
theorem p23 : Cond.selects RX5 yX5_layLot yX5_layLot ∈ TB := tb_at 23 (by decide +kernel) rfl
theorem p24 : Cond.selects RX5 yX5_whyNotNotice yX5_whyNotNotice ∈ TB := tb_at 24 (by decide +kernel) rfl
theorem p25 : Cond.selects RX5 yX5_isLot yX5_isLot ∈ TB := tb_at 25 (by decide +kernel) rfl
theorem p26 : Cond.selects RX5 yX5_lotOf yX5_lotOf ∈ TB := tb_at 26 (by decide +kernel) rfl
theorem p27 : Cond.selects RX5 yX5_noticeNow yX5_noticeNow ∈ TB := tb_at 27 (by decide +kernel) rfl
theorem p28 : Cond.selects RX5 yX5_lotsThatAre yX5_lotsThatAre ∈ TB := tb_at 28 (by decide +kernel) rfl
theorem p29 : Cond.selects RX5 yX5_whyNotClaim yX5_whyNotClaim ∈ TB := tb_at 29 (by decide +kernel) rfl
theorem p30 : Cond.selects RX5 yX5_isEnded yX5_isEnded ∈ TB := tb_at 30 (by decide +kernel) rfl
theorem p31 : Cond.selects RX5 yX5_claims yX5_claims ∈ TB := tb_at 31 (by decide +kernel) rfl
theorem p32 : Cond.selects RX5 yX5_claimOf yX5_claimOf ∈ TB := tb_at 32 (by decide +kernel) rfl
theorem p33 : Cond.selects RX5 yX5_stands yX5_stands ∈ TB := tb_at 33 (by decide +kernel) rfl
theorem p34 : Cond.selects RX5 yX5_claimNow yX5_claimNow ∈ TB := tb_at 34 (by decide +kernel) rfl
theorem p35 : Cond.selects RX5 yX5_layClaim yX5_layClaim ∈ TB := tb_at 35 (by decide +kernel) rfl
theorem p36 : Cond.selects RX5 yX5_whyNotProve yX5_whyNotProve ∈ TB := tb_at 36 (by decide +kernel) rfl
theorem p37 : Cond.selects RX5 yX5_isClaim yX5_isClaim ∈ TB := tb_at 37 (by decide +kernel) rfl
theorem p38 : Cond.selects RX5 yX5_whyNotOpen yX5_whyNotOpen ∈ TB := tb_at 38 (by decide +kernel) rfl
theorem p39 : Cond.selects RX5 yX5_proveNow yX5_proveNow ∈ TB := tb_at 39 (by decide +kernel) rfl
theorem p40 : Cond.selects RX5 yX5_whyNotDecide yX5_whyNotDecide ∈ TB := tb_at 40 (by decide +kernel) rfl
theorem p41 : Cond.selects RX5 yX5_decideNow yX5_decideNow ∈ TB := tb_at 41 (by decide +kernel) rfl
theorem p42 : Cond.selects RX5 yX5_whyNotWithdraw yX5_whyNotWithdraw ∈ TB := tb_at 42 (by decide +kernel) rfl
theorem p43 : Cond.selects RX5 yX5_withdrawNow yX5_withdrawNow ∈ TB := tb_at 43 (by decide +kernel) rfl
theorem p44 : Cond.selects RX5 yX5_standing yX5_standing ∈ TB := tb_at 44 (by decide +kernel) rfl
theorem p45 : Cond.selects RX5 yX5_claimsTo yX5_claimsTo ∈ TB := tb_at 45 (by decide +kernel) rfl
theorem p46 : Cond.selects RX5 yX5_whyNotSettle yX5_whyNotSettle ∈ TB := tb_at 46 (by decide +kernel) rfl
theorem p47 : Cond.selects RX5 yX5_settleNow yX5_settleNow ∈ TB := tb_at 47 (by decide +kernel) rfl
theorem p48 : Cond.selects RX5 yX5_nearestOnes yX5_nearestOnes ∈ TB := tb_at 48 (by decide +kernel) rfl
theorem p49 : Cond.selects RX5 yX5_nearest yX5_nearest ∈ TB := tb_at 49 (by decide +kernel) rfl
theorem p50 : Cond.selects RX5 yX5_shared yX5_shared ∈ TB := tb_at 50 (by decide +kernel) rfl
theorem p51 : Cond.selects RX5 yX5_pay yX5_pay ∈ TB := tb_at 51 (by decide +kernel) rfl
theorem p52 : Cond.selects RX5 yX5_isPaid yX5_isPaid ∈ TB := tb_at 52 (by decide +kernel) rfl
theorem p53 : Cond.selects RX5 yX5_whyNotPass yX5_whyNotPass ∈ TB := tb_at 53 (by decide +kernel) rfl
theorem p54 : Cond.selects RX5 yX5_passNow yX5_passNow ∈ TB := tb_at 54 (by decide +kernel) rfl
theorem p55 : Cond.selects RX5 yX5_dayNow yX5_dayNow ∈ TB := tb_at 55 (by decide +kernel) rfl
theorem p56 : Cond.selects RX5 yX5_dayOf yX5_dayOf ∈ TB := tb_at 56 (by decide +kernel) rfl
theorem p57 : Cond.selects RX5 yX5_allClaimsTo yX5_allClaimsTo ∈ TB := tb_at 57 (by decide +kernel) rfl
theorem p58 : Cond.selects RX5 yX5_claimsOf yX5_claimsOf ∈ TB := tb_at 58 (by decide +kernel) rfl
theorem p59 : Cond.selects RX5 yX5_lotsGot yX5_lotsGot ∈ TB := tb_at 59 (by decide +kernel) rfl
theorem p60 : Cond.selects RX5 yX5_valueOf yX5_valueOf ∈ TB := tb_at 60 (by decide +kernel) rfl
theorem p61 : Cond.selects RX5 yX5_purses yX5_purses ∈ TB := tb_at 61 (by decide +kernel) rfl
theorem p62 : Cond.selects RX5 yX5_standingClaims yX5_standingClaims ∈ TB := tb_at 62 (by decide +kernel) rfl
theorem p63 : Cond.selects RX5 yX5_heirsWhoClaimed yX5_heirsWhoClaimed ∈ TB := tb_at 63 (by decide +kernel) rfl
theorem p64 : Cond.selects RX5 yX5_daysToFall yX5_daysToFall ∈ TB := tb_at 64 (by decide +kernel) rfl
theorem p65 : Cond.selects RX5 yX5_shareOf yX5_shareOf ∈ TB := tb_at 65 (by decide +kernel) rfl
theorem p66 : Cond.selects RX5 yX5_lapsesIn yX5_lapsesIn ∈ TB := tb_at 66 (by decide +kernel) rfl
theorem p67 : Cond.selects RX5 yX5_readPad yX5_readPad ∈ TB := tb_at 67 (by decide +kernel) rfl
theorem p68 : Cond.selects RX5 yX5_readOrder yX5_readOrder ∈ TB := tb_at 68 (by decide +kernel) rfl
theorem p69 : Cond.selects RX5 yX5_number yX5_number ∈ TB := tb_at 69 (by decide +kernel) rfl
theorem p70 : Cond.selects RX5 yX5_sees yX5_sees ∈ TB := tb_at 70 (by decide +kernel) rfl
theorem p71 : Cond.selects RX5 yX5_takes yX5_takes ∈ TB := tb_at 71 (by decide +kernel) rfl
theorem p72 : Cond.selects RX5 yX5_whyNot yX5_whyNot ∈ TB := tb_at 72 (by decide +kernel) rfl
theorem p73 : Cond.selects RX5 yX5_doOrder yX5_doOrder ∈ TB := tb_at 73 (by decide +kernel) rfl
end
section
theorem dX0_init_0 : decode cX0_init 0 = .ok (.aload_n 0, 1) := by decide +kernel
theorem dX0_init_1 : decode cX0_init 1 = .ok (.invokespecial 3, 3) := by decide +kernel
theorem dX0_init_4 : decode cX0_init 4 = .ok (.aload_n 0, 1) := by decide +kernel
theorem dX0_init_5 : decode cX0_init 5 = .ok (.iconst 0, 1) := by decide +kernel
theorem dX0_init_6 : decode cX0_init 6 = .ok (.putfield 9, 3) := by decide +kernel
theorem dX0_init_9 : decode cX0_init 9 = .ok (.aload_n 0, 1) := by decide +kernel
theorem dX0_init_10 : decode cX0_init 10 = .ok (.bipush 30, 2) := by decide +kernel
theorem dX0_init_12 : decode cX0_init 12 = .ok (.newarray .int, 2) := by decide +kernel
theorem dX0_init_14 : decode cX0_init 14 = .ok (.putfield 15, 3) := by decide +kernel
theorem dX0_init_17 : decode cX0_init 17 = .ok (.aload_n 0, 1) := by decide +kernel
theorem dX0_init_18 : decode cX0_init 18 = .ok (.bipush 30, 2) := by decide +kernel
theorem dX0_init_20 : decode cX0_init 20 = .ok (.newarray .int, 2) := by decide +kernel
theorem dX0_init_22 : decode cX0_init 22 = .ok (.putfield 19, 3) := by decide +kernel
theorem dX0_init_25 : decode cX0_init 25 = .ok (.aload_n 0, 1) := by decide +kernel
theorem dX0_init_26 : decode cX0_init 26 = .ok (.bipush 30, 2) := by decide +kernel
theorem dX0_init_28 : decode cX0_init 28 = .ok (.newarray .int, 2) := by decide +kernel
theorem dX0_init_30 : decode cX0_init 30 = .ok (.putfield 22, 3) := by decide +kernel
theorem dX0_init_33 : decode cX0_init 33 = .ok (.aload_n 0, 1) := by decide +kernel
theorem dX0_init_34 : decode cX0_init 34 = .ok (.bipush 30, 2) := by decide +kernel
theorem dX0_init_36 : decode cX0_init 36 = .ok (.newarray .int, 2) := by decide +kernel
theorem dX0_init_38 : decode cX0_init 38 = .ok (.putfield 25, 3) := by decide +kernel
theorem dX0_init_41 : decode cX0_init 41 = .ok (.aload_n 0, 1) := by decide +kernel
theorem dX0_init_42 : decode cX0_init 42 = .ok (.bipush 30, 2) := by decide +kernel
theorem dX0_init_44 : decode cX0_init 44 = .ok (.newarray .int, 2) := by decide +kernel
theorem dX0_init_46 : decode cX0_init 46 = .ok (.putfield 28, 3) := by decide +kernel
theorem dX0_init_49 : decode cX0_init 49 = .ok (.aload_n 0, 1) := by decide +kernel
theorem dX0_init_50 : decode cX0_init 50 = .ok (.bipush 30, 2) := by decide +kernel
theorem dX0_init_52 : decode cX0_init 52 = .ok (.newarray .int, 2) := by decide +kernel
theorem dX0_init_54 : decode cX0_init 54 = .ok (.putfield 31, 3) := by decide +kernel
theorem dX0_init_57 : decode cX0_init 57 = .ok (.aload_n 0, 1) := by decide +kernel
theorem dX0_init_58 : decode cX0_init 58 = .ok (.bipush 30, 2) := by decide +kernel
theorem dX0_init_60 : decode cX0_init 60 = .ok (.newarray .int, 2) := by decide +kernel
theorem dX0_init_62 : decode cX0_init 62 = .ok (.putfield 34, 3) := by decide +kernel
theorem dX0_init_65 : decode cX0_init 65 = .ok (.return_, 1) := by decide +kernel
theorem dX0_become_0 : decode cX0_become 0 = .ok (.aload_n 0, 1) := by decide +kernel
theorem dX0_become_1 : decode cX0_become 1 = .ok (.aload_n 1, 1) := by decide +kernel
theorem dX0_become_2 : decode cX0_become 2 = .ok (.getfield 9, 3) := by decide +kernel
theorem dX0_become_5 : decode cX0_become 5 = .ok (.putfield 9, 3) := by decide +kernel
theorem dX0_become_8 : decode cX0_become 8 = .ok (.aload_n 1, 1) := by decide +kernel
theorem dX0_become_9 : decode cX0_become 9 = .ok (.getfield 15, 3) := by decide +kernel
theorem dX0_become_12 : decode cX0_become 12 = .ok (.aload_n 0, 1) := by decide +kernel
theorem dX0_become_13 : decode cX0_become 13 = .ok (.getfield 15, 3) := by decide +kernel
theorem dX0_become_16 : decode cX0_become 16 = .ok (.invokestatic 37, 3) := by decide +kernel
theorem dX0_become_19 : decode cX0_become 19 = .ok (.aload_n 1, 1) := by decide +kernel
theorem dX0_become_20 : decode cX0_become 20 = .ok (.getfield 19, 3) := by decide +kernel
theorem dX0_become_23 : decode cX0_become 23 = .ok (.aload_n 0, 1) := by decide +kernel
theorem dX0_become_24 : decode cX0_become 24 = .ok (.getfield 19, 3) := by decide +kernel
theorem dX0_become_27 : decode cX0_become 27 = .ok (.invokestatic 37, 3) := by decide +kernel
theorem dX0_become_30 : decode cX0_become 30 = .ok (.aload_n 1, 1) := by decide +kernel
theorem dX0_become_31 : decode cX0_become 31 = .ok (.getfield 22, 3) := by decide +kernel
theorem dX0_become_34 : decode cX0_become 34 = .ok (.aload_n 0, 1) := by decide +kernel
theorem dX0_become_35 : decode cX0_become 35 = .ok (.getfield 22, 3) := by decide +kernel
theorem dX0_become_38 : decode cX0_become 38 = .ok (.invokestatic 37, 3) := by decide +kernel
theorem dX0_become_41 : decode cX0_become 41 = .ok (.aload_n 1, 1) := by decide +kernel
theorem dX0_become_42 : decode cX0_become 42 = .ok (.getfield 25, 3) := by decide +kernel
theorem dX0_become_45 : decode cX0_become 45 = .ok (.aload_n 0, 1) := by decide +kernel
theorem dX0_become_46 : decode cX0_become 46 = .ok (.getfield 25, 3) := by decide +kernel
theorem dX0_become_49 : decode cX0_become 49 = .ok (.invokestatic 37, 3) := by decide +kernel
theorem dX0_become_52 : decode cX0_become 52 = .ok (.aload_n 1, 1) := by decide +kernel
theorem dX0_become_53 : decode cX0_become 53 = .ok (.getfield 28, 3) := by decide +kernel
theorem dX0_become_56 : decode cX0_become 56 = .ok (.aload_n 0, 1) := by decide +kernel
theorem dX0_become_57 : decode cX0_become 57 = .ok (.getfield 28, 3) := by decide +kernel
theorem dX0_become_60 : decode cX0_become 60 = .ok (.invokestatic 37, 3) := by decide +kernel
theorem dX0_become_63 : decode cX0_become 63 = .ok (.aload_n 1, 1) := by decide +kernel
theorem dX0_become_64 : decode cX0_become 64 = .ok (.getfield 31, 3) := by decide +kernel
theorem dX0_become_67 : decode cX0_become 67 = .ok (.aload_n 0, 1) := by decide +kernel
theorem dX0_become_68 : decode cX0_become 68 = .ok (.getfield 31, 3) := by decide +kernel
theorem dX0_become_71 : decode cX0_become 71 = .ok (.invokestatic 37, 3) := by decide +kernel
theorem dX0_become_74 : decode cX0_become 74 = .ok (.aload_n 1, 1) := by decide +kernel
theorem dX0_become_75 : decode cX0_become 75 = .ok (.getfield 34, 3) := by decide +kernel
theorem dX0_become_78 : decode cX0_become 78 = .ok (.aload_n 0, 1) := by decide +kernel
theorem dX0_become_79 : decode cX0_become 79 = .ok (.getfield 34, 3) := by decide +kernel
theorem dX0_become_82 : decode cX0_become 82 = .ok (.invokestatic 37, 3) := by decide +kernel
theorem dX0_become_85 : decode cX0_become 85 = .ok (.return_, 1) := by decide +kernel
theorem dX0_exists_0 : decode cX0_exists 0 = .ok (.iload_n 1, 1) := by decide +kernel
theorem dX0_exists_1 : decode cX0_exists 1 = .ok (.ifCond .lt 15, 3) := by decide +kernel
theorem dX0_exists_4 : decode cX0_exists 4 = .ok (.iload_n 1, 1) := by decide +kernel
theorem dX0_exists_5 : decode cX0_exists 5 = .ok (.aload_n 0, 1) := by decide +kernel
theorem dX0_exists_6 : decode cX0_exists 6 = .ok (.getfield 9, 3) := by decide +kernel
theorem dX0_exists_9 : decode cX0_exists 9 = .ok (.if_icmp .ge 7, 3) := by decide +kernel
theorem dX0_exists_12 : decode cX0_exists 12 = .ok (.iconst 1, 1) := by decide +kernel
theorem dX0_exists_13 : decode cX0_exists 13 = .ok (.goto 4, 3) := by decide +kernel
theorem dX0_exists_16 : decode cX0_exists 16 = .ok (.iconst 0, 1) := by decide +kernel
theorem dX0_exists_17 : decode cX0_exists 17 = .ok (.ireturn, 1) := by decide +kernel
theorem dX0_isOpen_0 : decode cX0_isOpen 0 = .ok (.aload_n 0, 1) := by decide +kernel
theorem dX0_isOpen_1 : decode cX0_isOpen 1 = .ok (.getfield 28, 3) := by decide +kernel
theorem dX0_isOpen_4 : decode cX0_isOpen 4 = .ok (.iload_n 1, 1) := by decide +kernel
theorem dX0_isOpen_5 : decode cX0_isOpen 5 = .ok (.iaload, 1) := by decide +kernel
theorem dX0_isOpen_6 : decode cX0_isOpen 6 = .ok (.ifCond .ne 7, 3) := by decide +kernel
theorem dX0_isOpen_9 : decode cX0_isOpen 9 = .ok (.iconst 1, 1) := by decide +kernel
theorem dX0_isOpen_10 : decode cX0_isOpen 10 = .ok (.goto 4, 3) := by decide +kernel
theorem dX0_isOpen_13 : decode cX0_isOpen 13 = .ok (.iconst 0, 1) := by decide +kernel
theorem dX0_isOpen_14 : decode cX0_isOpen 14 = .ok (.ireturn, 1) := by decide +kernel
theorem dX0_stands_0 : decode cX0_stands 0 = .ok (.aload_n 0, 1) := by decide +kernel
theorem dX0_stands_1 : decode cX0_stands 1 = .ok (.getfield 28, 3) := by decide +kernel
theorem dX0_stands_4 : decode cX0_stands 4 = .ok (.iload_n 1, 1) := by decide +kernel
theorem dX0_stands_5 : decode cX0_stands 5 = .ok (.iaload, 1) := by decide +kernel
theorem dX0_stands_6 : decode cX0_stands 6 = .ok (.ifCond .eq 13, 3) := by decide +kernel
theorem dX0_stands_9 : decode cX0_stands 9 = .ok (.aload_n 0, 1) := by decide +kernel
theorem dX0_stands_10 : decode cX0_stands 10 = .ok (.getfield 28, 3) := by decide +kernel
theorem dX0_stands_13 : decode cX0_stands 13 = .ok (.iload_n 1, 1) := by decide +kernel
theorem dX0_stands_14 : decode cX0_stands 14 = .ok (.iaload, 1) := by decide +kernel
theorem dX0_stands_15 : decode cX0_stands 15 = .ok (.iconst 1, 1) := by decide +kernel
theorem dX0_stands_16 : decode cX0_stands 16 = .ok (.if_icmp .ne 7, 3) := by decide +kernel
theorem dX0_stands_19 : decode cX0_stands 19 = .ok (.iconst 1, 1) := by decide +kernel
theorem dX0_stands_20 : decode cX0_stands 20 = .ok (.goto 4, 3) := by decide +kernel
theorem dX0_stands_23 : decode cX0_stands 23 = .ok (.iconst 0, 1) := by decide +kernel
theorem dX0_stands_24 : decode cX0_stands 24 = .ok (.ireturn, 1) := by decide +kernel
theorem dX0_all_0 : decode cX0_all 0 = .ok (.aload_n 0, 1) := by decide +kernel
theorem dX0_all_1 : decode cX0_all 1 = .ok (.getfield 9, 3) := by decide +kernel
theorem dX0_all_4 : decode cX0_all 4 = .ok (.invokestatic 41, 3) := by decide +kernel
theorem dX0_all_7 : decode cX0_all 7 = .ok (.ireturn, 1) := by decide +kernel
theorem dX0_inState_0 : decode cX0_inState 0 = .ok (.aload_n 0, 1) := by decide +kernel
theorem dX0_inState_1 : decode cX0_inState 1 = .ok (.getfield 28, 3) := by decide +kernel
theorem dX0_inState_4 : decode cX0_inState 4 = .ok (.aload_n 0, 1) := by decide +kernel
theorem dX0_inState_5 : decode cX0_inState 5 = .ok (.getfield 9, 3) := by decide +kernel
theorem dX0_inState_8 : decode cX0_inState 8 = .ok (.iload_n 1, 1) := by decide +kernel
theorem dX0_inState_9 : decode cX0_inState 9 = .ok (.invokestatic 45, 3) := by decide +kernel
theorem dX0_inState_12 : decode cX0_inState 12 = .ok (.ireturn, 1) := by decide +kernel
theorem dX0_standing_0 : decode cX0_standing 0 = .ok (.aload_n 0, 1) := by decide +kernel
theorem dX0_standing_1 : decode cX0_standing 1 = .ok (.iconst 0, 1) := by decide +kernel
theorem dX0_standing_2 : decode cX0_standing 2 = .ok (.invokevirtual 49, 3) := by decide +kernel
theorem dX0_standing_5 : decode cX0_standing 5 = .ok (.aload_n 0, 1) := by decide +kernel
theorem dX0_standing_6 : decode cX0_standing 6 = .ok (.iconst 1, 1) := by decide +kernel
theorem dX0_standing_7 : decode cX0_standing 7 = .ok (.invokevirtual 49, 3) := by decide +kernel
theorem dX0_standing_10 : decode cX0_standing 10 = .ok (.ior, 1) := by decide +kernel
theorem dX0_standing_11 : decode cX0_standing 11 = .ok (.ireturn, 1) := by decide +kernel
theorem dX0_ofHeir_0 : decode cX0_ofHeir 0 = .ok (.aload_n 0, 1) := by decide +kernel
theorem dX0_ofHeir_1 : decode cX0_ofHeir 1 = .ok (.getfield 15, 3) := by decide +kernel
theorem dX0_ofHeir_4 : decode cX0_ofHeir 4 = .ok (.aload_n 0, 1) := by decide +kernel
theorem dX0_ofHeir_5 : decode cX0_ofHeir 5 = .ok (.getfield 9, 3) := by decide +kernel
theorem dX0_ofHeir_8 : decode cX0_ofHeir 8 = .ok (.iload_n 1, 1) := by decide +kernel
theorem dX0_ofHeir_9 : decode cX0_ofHeir 9 = .ok (.invokestatic 45, 3) := by decide +kernel
theorem dX0_ofHeir_12 : decode cX0_ofHeir 12 = .ok (.ireturn, 1) := by decide +kernel
theorem dX0_toLot_0 : decode cX0_toLot 0 = .ok (.aload_n 0, 1) := by decide +kernel
theorem dX0_toLot_1 : decode cX0_toLot 1 = .ok (.getfield 19, 3) := by decide +kernel
theorem dX0_toLot_4 : decode cX0_toLot 4 = .ok (.aload_n 0, 1) := by decide +kernel
theorem dX0_toLot_5 : decode cX0_toLot 5 = .ok (.getfield 9, 3) := by decide +kernel
theorem dX0_toLot_8 : decode cX0_toLot 8 = .ok (.iload_n 1, 1) := by decide +kernel
theorem dX0_toLot_9 : decode cX0_toLot 9 = .ok (.invokestatic 45, 3) := by decide +kernel
theorem dX0_toLot_12 : decode cX0_toLot 12 = .ok (.ireturn, 1) := by decide +kernel
theorem dX0_openTo_0 : decode cX0_openTo 0 = .ok (.aload_n 0, 1) := by decide +kernel
theorem dX0_openTo_1 : decode cX0_openTo 1 = .ok (.iload_n 1, 1) := by decide +kernel
theorem dX0_openTo_2 : decode cX0_openTo 2 = .ok (.invokevirtual 52, 3) := by decide +kernel
theorem dX0_openTo_5 : decode cX0_openTo 5 = .ok (.aload_n 0, 1) := by decide +kernel
theorem dX0_openTo_6 : decode cX0_openTo 6 = .ok (.iconst 0, 1) := by decide +kernel
theorem dX0_openTo_7 : decode cX0_openTo 7 = .ok (.invokevirtual 49, 3) := by decide +kernel
theorem dX0_openTo_10 : decode cX0_openTo 10 = .ok (.iand, 1) := by decide +kernel
theorem dX0_openTo_11 : decode cX0_openTo 11 = .ok (.ireturn, 1) := by decide +kernel
theorem dX0_upheldTo_0 : decode cX0_upheldTo 0 = .ok (.aload_n 0, 1) := by decide +kernel
theorem dX0_upheldTo_1 : decode cX0_upheldTo 1 = .ok (.iload_n 1, 1) := by decide +kernel
theorem dX0_upheldTo_2 : decode cX0_upheldTo 2 = .ok (.invokevirtual 52, 3) := by decide +kernel
theorem dX0_upheldTo_5 : decode cX0_upheldTo 5 = .ok (.aload_n 0, 1) := by decide +kernel
theorem dX0_upheldTo_6 : decode cX0_upheldTo 6 = .ok (.iconst 1, 1) := by decide +kernel
theorem dX0_upheldTo_7 : decode cX0_upheldTo 7 = .ok (.invokevirtual 49, 3) := by decide +kernel
theorem dX0_upheldTo_10 : decode cX0_upheldTo 10 = .ok (.iand, 1) := by decide +kernel
theorem dX0_upheldTo_11 : decode cX0_upheldTo 11 = .ok (.ireturn, 1) := by decide +kernel
theorem dX0_standingTo_0 : decode cX0_standingTo 0 = .ok (.aload_n 0, 1) := by decide +kernel
theorem dX0_standingTo_1 : decode cX0_standingTo 1 = .ok (.iload_n 1, 1) := by decide +kernel
theorem dX0_standingTo_2 : decode cX0_standingTo 2 = .ok (.invokevirtual 52, 3) := by decide +kernel
theorem dX0_standingTo_5 : decode cX0_standingTo 5 = .ok (.aload_n 0, 1) := by decide +kernel
theorem dX0_standingTo_6 : decode cX0_standingTo 6 = .ok (.invokevirtual 55, 3) := by decide +kernel
theorem dX0_standingTo_9 : decode cX0_standingTo 9 = .ok (.iand, 1) := by decide +kernel
theorem dX0_standingTo_10 : decode cX0_standingTo 10 = .ok (.ireturn, 1) := by decide +kernel
theorem dX0_thatBrought_0 : decode cX0_thatBrought 0 = .ok (.aload_n 0, 1) := by decide +kernel
theorem dX0_thatBrought_1 : decode cX0_thatBrought 1 = .ok (.invokevirtual 59, 3) := by decide +kernel
theorem dX0_thatBrought_4 : decode cX0_thatBrought 4 = .ok (.aload_n 0, 1) := by decide +kernel
theorem dX0_thatBrought_5 : decode cX0_thatBrought 5 = .ok (.getfield 34, 3) := by decide +kernel
theorem dX0_thatBrought_8 : decode cX0_thatBrought 8 = .ok (.aload_n 0, 1) := by decide +kernel
theorem dX0_thatBrought_9 : decode cX0_thatBrought 9 = .ok (.getfield 9, 3) := by decide +kernel
theorem dX0_thatBrought_12 : decode cX0_thatBrought 12 = .ok (.iconst 0, 1) := by decide +kernel
theorem dX0_thatBrought_13 : decode cX0_thatBrought 13 = .ok (.invokestatic 45, 3) := by decide +kernel
theorem dX0_thatBrought_16 : decode cX0_thatBrought 16 = .ok (.iconst (-1), 1) := by decide +kernel
theorem dX0_thatBrought_17 : decode cX0_thatBrought 17 = .ok (.ixor, 1) := by decide +kernel
theorem dX0_thatBrought_18 : decode cX0_thatBrought 18 = .ok (.iand, 1) := by decide +kernel
theorem dX0_thatBrought_19 : decode cX0_thatBrought 19 = .ok (.ireturn, 1) := by decide +kernel
theorem dX0_nearestLine_0 : decode cX0_nearestLine 0 = .ok (.bipush (-6), 2) := by decide +kernel
theorem dX0_nearestLine_2 : decode cX0_nearestLine 2 = .ok (.istore_n 2, 1) := by decide +kernel
theorem dX0_nearestLine_3 : decode cX0_nearestLine 3 = .ok (.iconst 0, 1) := by decide +kernel
theorem dX0_nearestLine_4 : decode cX0_nearestLine 4 = .ok (.istore_n 3, 1) := by decide +kernel
theorem dX0_nearestLine_5 : decode cX0_nearestLine 5 = .ok (.iload_n 3, 1) := by decide +kernel
theorem dX0_nearestLine_6 : decode cX0_nearestLine 6 = .ok (.aload_n 0, 1) := by decide +kernel
theorem dX0_nearestLine_7 : decode cX0_nearestLine 7 = .ok (.getfield 9, 3) := by decide +kernel
theorem dX0_nearestLine_10 : decode cX0_nearestLine 10 = .ok (.if_icmp .ge 40, 3) := by decide +kernel
theorem dX0_nearestLine_13 : decode cX0_nearestLine 13 = .ok (.iload_n 1, 1) := by decide +kernel
theorem dX0_nearestLine_14 : decode cX0_nearestLine 14 = .ok (.iload_n 3, 1) := by decide +kernel
theorem dX0_nearestLine_15 : decode cX0_nearestLine 15 = .ok (.invokestatic 62, 3) := by decide +kernel
theorem dX0_nearestLine_18 : decode cX0_nearestLine 18 = .ok (.ifCond .eq 26, 3) := by decide +kernel
theorem dX0_nearestLine_21 : decode cX0_nearestLine 21 = .ok (.iload_n 2, 1) := by decide +kernel
theorem dX0_nearestLine_22 : decode cX0_nearestLine 22 = .ok (.bipush (-6), 2) := by decide +kernel
theorem dX0_nearestLine_24 : decode cX0_nearestLine 24 = .ok (.if_icmp .eq 13, 3) := by decide +kernel
theorem dX0_nearestLine_27 : decode cX0_nearestLine 27 = .ok (.aload_n 0, 1) := by decide +kernel
theorem dX0_nearestLine_28 : decode cX0_nearestLine 28 = .ok (.getfield 22, 3) := by decide +kernel
theorem dX0_nearestLine_31 : decode cX0_nearestLine 31 = .ok (.iload_n 3, 1) := by decide +kernel
theorem dX0_nearestLine_32 : decode cX0_nearestLine 32 = .ok (.iaload, 1) := by decide +kernel
theorem dX0_nearestLine_33 : decode cX0_nearestLine 33 = .ok (.iload_n 2, 1) := by decide +kernel
theorem dX0_nearestLine_34 : decode cX0_nearestLine 34 = .ok (.if_icmp .ge 10, 3) := by decide +kernel
theorem dX0_nearestLine_37 : decode cX0_nearestLine 37 = .ok (.aload_n 0, 1) := by decide +kernel
theorem dX0_nearestLine_38 : decode cX0_nearestLine 38 = .ok (.getfield 22, 3) := by decide +kernel
theorem dX0_nearestLine_41 : decode cX0_nearestLine 41 = .ok (.iload_n 3, 1) := by decide +kernel
theorem dX0_nearestLine_42 : decode cX0_nearestLine 42 = .ok (.iaload, 1) := by decide +kernel
theorem dX0_nearestLine_43 : decode cX0_nearestLine 43 = .ok (.istore_n 2, 1) := by decide +kernel
theorem dX0_nearestLine_44 : decode cX0_nearestLine 44 = .ok (.iinc 3 1, 3) := by decide +kernel
theorem dX0_nearestLine_47 : decode cX0_nearestLine 47 = .ok (.goto (-42), 3) := by decide +kernel
theorem dX0_nearestLine_50 : decode cX0_nearestLine 50 = .ok (.iload_n 2, 1) := by decide +kernel
theorem dX0_nearestLine_51 : decode cX0_nearestLine 51 = .ok (.ireturn, 1) := by decide +kernel
theorem dX0_nearest_0 : decode cX0_nearest 0 = .ok (.iload_n 1, 1) := by decide +kernel
theorem dX0_nearest_1 : decode cX0_nearest 1 = .ok (.aload_n 0, 1) := by decide +kernel
theorem dX0_nearest_2 : decode cX0_nearest 2 = .ok (.getfield 22, 3) := by decide +kernel
theorem dX0_nearest_5 : decode cX0_nearest 5 = .ok (.aload_n 0, 1) := by decide +kernel
theorem dX0_nearest_6 : decode cX0_nearest 6 = .ok (.getfield 9, 3) := by decide +kernel
theorem dX0_nearest_9 : decode cX0_nearest 9 = .ok (.aload_n 0, 1) := by decide +kernel
theorem dX0_nearest_10 : decode cX0_nearest 10 = .ok (.iload_n 1, 1) := by decide +kernel
theorem dX0_nearest_11 : decode cX0_nearest 11 = .ok (.invokevirtual 66, 3) := by decide +kernel
theorem dX0_nearest_14 : decode cX0_nearest 14 = .ok (.invokestatic 45, 3) := by decide +kernel
theorem dX0_nearest_17 : decode cX0_nearest 17 = .ok (.iand, 1) := by decide +kernel
theorem dX0_nearest_18 : decode cX0_nearest 18 = .ok (.ireturn, 1) := by decide +kernel
theorem dX0_waitOneDay_0 : decode cX0_waitOneDay 0 = .ok (.iconst 0, 1) := by decide +kernel
theorem dX0_waitOneDay_1 : decode cX0_waitOneDay 1 = .ok (.istore_n 2, 1) := by decide +kernel
theorem dX0_waitOneDay_2 : decode cX0_waitOneDay 2 = .ok (.iconst 0, 1) := by decide +kernel
theorem dX0_waitOneDay_3 : decode cX0_waitOneDay 3 = .ok (.istore_n 3, 1) := by decide +kernel
theorem dX0_waitOneDay_4 : decode cX0_waitOneDay 4 = .ok (.iload_n 3, 1) := by decide +kernel
theorem dX0_waitOneDay_5 : decode cX0_waitOneDay 5 = .ok (.aload_n 0, 1) := by decide +kernel
theorem dX0_waitOneDay_6 : decode cX0_waitOneDay 6 = .ok (.getfield 9, 3) := by decide +kernel
theorem dX0_waitOneDay_9 : decode cX0_waitOneDay 9 = .ok (.if_icmp .ge 42, 3) := by decide +kernel
theorem dX0_waitOneDay_12 : decode cX0_waitOneDay 12 = .ok (.aload_n 0, 1) := by decide +kernel
theorem dX0_waitOneDay_13 : decode cX0_waitOneDay 13 = .ok (.iload_n 3, 1) := by decide +kernel
theorem dX0_waitOneDay_14 : decode cX0_waitOneDay 14 = .ok (.invokevirtual 69, 3) := by decide +kernel
theorem dX0_waitOneDay_17 : decode cX0_waitOneDay 17 = .ok (.ifCond .eq 9, 3) := by decide +kernel
theorem dX0_waitOneDay_20 : decode cX0_waitOneDay 20 = .ok (.aload_n 0, 1) := by decide +kernel
theorem dX0_waitOneDay_21 : decode cX0_waitOneDay 21 = .ok (.iload_n 3, 1) := by decide +kernel
theorem dX0_waitOneDay_22 : decode cX0_waitOneDay 22 = .ok (.iload_n 1, 1) := by decide +kernel
theorem dX0_waitOneDay_23 : decode cX0_waitOneDay 23 = .ok (.invokevirtual 73, 3) := by decide +kernel
theorem dX0_waitOneDay_26 : decode cX0_waitOneDay 26 = .ok (.aload_n 0, 1) := by decide +kernel
theorem dX0_waitOneDay_27 : decode cX0_waitOneDay 27 = .ok (.iload_n 3, 1) := by decide +kernel
theorem dX0_waitOneDay_28 : decode cX0_waitOneDay 28 = .ok (.invokevirtual 77, 3) := by decide +kernel
theorem dX0_waitOneDay_31 : decode cX0_waitOneDay 31 = .ok (.ifCond .eq 14, 3) := by decide +kernel
theorem dX0_waitOneDay_34 : decode cX0_waitOneDay 34 = .ok (.iload_n 2, 1) := by decide +kernel
theorem dX0_waitOneDay_35 : decode cX0_waitOneDay 35 = .ok (.iconst 1, 1) := by decide +kernel
theorem dX0_waitOneDay_36 : decode cX0_waitOneDay 36 = .ok (.aload_n 0, 1) := by decide +kernel
theorem dX0_waitOneDay_37 : decode cX0_waitOneDay 37 = .ok (.getfield 19, 3) := by decide +kernel
theorem dX0_waitOneDay_40 : decode cX0_waitOneDay 40 = .ok (.iload_n 3, 1) := by decide +kernel
theorem dX0_waitOneDay_41 : decode cX0_waitOneDay 41 = .ok (.iaload, 1) := by decide +kernel
theorem dX0_waitOneDay_42 : decode cX0_waitOneDay 42 = .ok (.ishl, 1) := by decide +kernel
theorem dX0_waitOneDay_43 : decode cX0_waitOneDay 43 = .ok (.ior, 1) := by decide +kernel
theorem dX0_waitOneDay_44 : decode cX0_waitOneDay 44 = .ok (.istore_n 2, 1) := by decide +kernel
theorem dX0_waitOneDay_45 : decode cX0_waitOneDay 45 = .ok (.iinc 3 1, 3) := by decide +kernel
theorem dX0_waitOneDay_48 : decode cX0_waitOneDay 48 = .ok (.goto (-44), 3) := by decide +kernel
theorem dX0_waitOneDay_51 : decode cX0_waitOneDay 51 = .ok (.iload_n 2, 1) := by decide +kernel
theorem dX0_waitOneDay_52 : decode cX0_waitOneDay 52 = .ok (.ireturn, 1) := by decide +kernel
theorem dX0_waitLonger_0 : decode cX0_waitLonger 0 = .ok (.aload_n 0, 1) := by decide +kernel
theorem dX0_waitLonger_1 : decode cX0_waitLonger 1 = .ok (.getfield 31, 3) := by decide +kernel
theorem dX0_waitLonger_4 : decode cX0_waitLonger 4 = .ok (.iload_n 1, 1) := by decide +kernel
theorem dX0_waitLonger_5 : decode cX0_waitLonger 5 = .ok (.dup2, 1) := by decide +kernel
theorem dX0_waitLonger_6 : decode cX0_waitLonger 6 = .ok (.iaload, 1) := by decide +kernel
theorem dX0_waitLonger_7 : decode cX0_waitLonger 7 = .ok (.iconst 1, 1) := by decide +kernel
theorem dX0_waitLonger_8 : decode cX0_waitLonger 8 = .ok (.iadd, 1) := by decide +kernel
theorem dX0_waitLonger_9 : decode cX0_waitLonger 9 = .ok (.iastore, 1) := by decide +kernel
theorem dX0_waitLonger_10 : decode cX0_waitLonger 10 = .ok (.aload_n 0, 1) := by decide +kernel
theorem dX0_waitLonger_11 : decode cX0_waitLonger 11 = .ok (.getfield 31, 3) := by decide +kernel
theorem dX0_waitLonger_14 : decode cX0_waitLonger 14 = .ok (.iload_n 1, 1) := by decide +kernel
theorem dX0_waitLonger_15 : decode cX0_waitLonger 15 = .ok (.iaload, 1) := by decide +kernel
theorem dX0_waitLonger_16 : decode cX0_waitLonger 16 = .ok (.iload_n 2, 1) := by decide +kernel
theorem dX0_waitLonger_17 : decode cX0_waitLonger 17 = .ok (.if_icmp .lt 10, 3) := by decide +kernel
theorem dX0_waitLonger_20 : decode cX0_waitLonger 20 = .ok (.aload_n 0, 1) := by decide +kernel
theorem dX0_waitLonger_21 : decode cX0_waitLonger 21 = .ok (.getfield 28, 3) := by decide +kernel
theorem dX0_waitLonger_24 : decode cX0_waitLonger 24 = .ok (.iload_n 1, 1) := by decide +kernel
theorem dX0_waitLonger_25 : decode cX0_waitLonger 25 = .ok (.iconst 4, 1) := by decide +kernel
theorem dX0_waitLonger_26 : decode cX0_waitLonger 26 = .ok (.iastore, 1) := by decide +kernel
theorem dX0_waitLonger_27 : decode cX0_waitLonger 27 = .ok (.return_, 1) := by decide +kernel
theorem dX1_init_0 : decode cX1_init 0 = .ok (.aload_n 0, 1) := by decide +kernel
theorem dX1_init_1 : decode cX1_init 1 = .ok (.invokespecial 3, 3) := by decide +kernel
theorem dX1_init_4 : decode cX1_init 4 = .ok (.aload_n 0, 1) := by decide +kernel
theorem dX1_init_5 : decode cX1_init 5 = .ok (.iconst 0, 1) := by decide +kernel
theorem dX1_init_6 : decode cX1_init 6 = .ok (.putfield 9, 3) := by decide +kernel
theorem dX1_init_9 : decode cX1_init 9 = .ok (.aload_n 0, 1) := by decide +kernel
theorem dX1_init_10 : decode cX1_init 10 = .ok (.bipush 12, 2) := by decide +kernel
theorem dX1_init_12 : decode cX1_init 12 = .ok (.newarray .int, 2) := by decide +kernel
theorem dX1_init_14 : decode cX1_init 14 = .ok (.putfield 15, 3) := by decide +kernel
theorem dX1_init_17 : decode cX1_init 17 = .ok (.aload_n 0, 1) := by decide +kernel
theorem dX1_init_18 : decode cX1_init 18 = .ok (.bipush 12, 2) := by decide +kernel
theorem dX1_init_20 : decode cX1_init 20 = .ok (.newarray .int, 2) := by decide +kernel
theorem dX1_init_22 : decode cX1_init 22 = .ok (.putfield 19, 3) := by decide +kernel
theorem dX1_init_25 : decode cX1_init 25 = .ok (.aload_n 0, 1) := by decide +kernel
theorem dX1_init_26 : decode cX1_init 26 = .ok (.bipush 12, 2) := by decide +kernel
theorem dX1_init_28 : decode cX1_init 28 = .ok (.newarray .int, 2) := by decide +kernel
theorem dX1_init_30 : decode cX1_init 30 = .ok (.putfield 22, 3) := by decide +kernel
theorem dX1_init_33 : decode cX1_init 33 = .ok (.aload_n 0, 1) := by decide +kernel
theorem dX1_init_34 : decode cX1_init 34 = .ok (.bipush 12, 2) := by decide +kernel
theorem dX1_init_36 : decode cX1_init 36 = .ok (.newarray .int, 2) := by decide +kernel
theorem dX1_init_38 : decode cX1_init 38 = .ok (.putfield 25, 3) := by decide +kernel
theorem dX1_init_41 : decode cX1_init 41 = .ok (.return_, 1) := by decide +kernel
theorem dX1_become_0 : decode cX1_become 0 = .ok (.aload_n 0, 1) := by decide +kernel
theorem dX1_become_1 : decode cX1_become 1 = .ok (.aload_n 1, 1) := by decide +kernel
theorem dX1_become_2 : decode cX1_become 2 = .ok (.getfield 9, 3) := by decide +kernel
theorem dX1_become_5 : decode cX1_become 5 = .ok (.putfield 9, 3) := by decide +kernel
theorem dX1_become_8 : decode cX1_become 8 = .ok (.aload_n 1, 1) := by decide +kernel
theorem dX1_become_9 : decode cX1_become 9 = .ok (.getfield 15, 3) := by decide +kernel
theorem dX1_become_12 : decode cX1_become 12 = .ok (.aload_n 0, 1) := by decide +kernel
theorem dX1_become_13 : decode cX1_become 13 = .ok (.getfield 15, 3) := by decide +kernel
theorem dX1_become_16 : decode cX1_become 16 = .ok (.invokestatic 28, 3) := by decide +kernel
theorem dX1_become_19 : decode cX1_become 19 = .ok (.aload_n 1, 1) := by decide +kernel
theorem dX1_become_20 : decode cX1_become 20 = .ok (.getfield 19, 3) := by decide +kernel
theorem dX1_become_23 : decode cX1_become 23 = .ok (.aload_n 0, 1) := by decide +kernel
theorem dX1_become_24 : decode cX1_become 24 = .ok (.getfield 19, 3) := by decide +kernel
theorem dX1_become_27 : decode cX1_become 27 = .ok (.invokestatic 28, 3) := by decide +kernel
theorem dX1_become_30 : decode cX1_become 30 = .ok (.aload_n 1, 1) := by decide +kernel
theorem dX1_become_31 : decode cX1_become 31 = .ok (.getfield 22, 3) := by decide +kernel
theorem dX1_become_34 : decode cX1_become 34 = .ok (.aload_n 0, 1) := by decide +kernel
theorem dX1_become_35 : decode cX1_become 35 = .ok (.getfield 22, 3) := by decide +kernel
theorem dX1_become_38 : decode cX1_become 38 = .ok (.invokestatic 28, 3) := by decide +kernel
theorem dX1_become_41 : decode cX1_become 41 = .ok (.aload_n 1, 1) := by decide +kernel
theorem dX1_become_42 : decode cX1_become 42 = .ok (.getfield 25, 3) := by decide +kernel
theorem dX1_become_45 : decode cX1_become 45 = .ok (.aload_n 0, 1) := by decide +kernel
theorem dX1_become_46 : decode cX1_become 46 = .ok (.getfield 25, 3) := by decide +kernel
theorem dX1_become_49 : decode cX1_become 49 = .ok (.invokestatic 28, 3) := by decide +kernel
theorem dX1_become_52 : decode cX1_become 52 = .ok (.return_, 1) := by decide +kernel
theorem dX1_exists_0 : decode cX1_exists 0 = .ok (.iload_n 1, 1) := by decide +kernel
theorem dX1_exists_1 : decode cX1_exists 1 = .ok (.ifCond .lt 15, 3) := by decide +kernel
theorem dX1_exists_4 : decode cX1_exists 4 = .ok (.iload_n 1, 1) := by decide +kernel
theorem dX1_exists_5 : decode cX1_exists 5 = .ok (.aload_n 0, 1) := by decide +kernel
theorem dX1_exists_6 : decode cX1_exists 6 = .ok (.getfield 9, 3) := by decide +kernel
theorem dX1_exists_9 : decode cX1_exists 9 = .ok (.if_icmp .ge 7, 3) := by decide +kernel
theorem dX1_exists_12 : decode cX1_exists 12 = .ok (.iconst 1, 1) := by decide +kernel
theorem dX1_exists_13 : decode cX1_exists 13 = .ok (.goto 4, 3) := by decide +kernel
theorem dX1_exists_16 : decode cX1_exists 16 = .ok (.iconst 0, 1) := by decide +kernel
theorem dX1_exists_17 : decode cX1_exists 17 = .ok (.ireturn, 1) := by decide +kernel
theorem dX1_all_0 : decode cX1_all 0 = .ok (.aload_n 0, 1) := by decide +kernel
theorem dX1_all_1 : decode cX1_all 1 = .ok (.getfield 9, 3) := by decide +kernel
theorem dX1_all_4 : decode cX1_all 4 = .ok (.invokestatic 32, 3) := by decide +kernel
theorem dX1_all_7 : decode cX1_all 7 = .ok (.ireturn, 1) := by decide +kernel
theorem dX1_inState_0 : decode cX1_inState 0 = .ok (.aload_n 0, 1) := by decide +kernel
theorem dX1_inState_1 : decode cX1_inState 1 = .ok (.getfield 19, 3) := by decide +kernel
theorem dX1_inState_4 : decode cX1_inState 4 = .ok (.aload_n 0, 1) := by decide +kernel
theorem dX1_inState_5 : decode cX1_inState 5 = .ok (.getfield 9, 3) := by decide +kernel
theorem dX1_inState_8 : decode cX1_inState 8 = .ok (.iload_n 1, 1) := by decide +kernel
theorem dX1_inState_9 : decode cX1_inState 9 = .ok (.invokestatic 36, 3) := by decide +kernel
theorem dX1_inState_12 : decode cX1_inState 12 = .ok (.ireturn, 1) := by decide +kernel
theorem dX1_isOver_0 : decode cX1_isOver 0 = .ok (.aload_n 0, 1) := by decide +kernel
theorem dX1_isOver_1 : decode cX1_isOver 1 = .ok (.getfield 19, 3) := by decide +kernel
theorem dX1_isOver_4 : decode cX1_isOver 4 = .ok (.iload_n 1, 1) := by decide +kernel
theorem dX1_isOver_5 : decode cX1_isOver 5 = .ok (.iaload, 1) := by decide +kernel
theorem dX1_isOver_6 : decode cX1_isOver 6 = .ok (.iconst 2, 1) := by decide +kernel
theorem dX1_isOver_7 : decode cX1_isOver 7 = .ok (.if_icmp .eq 13, 3) := by decide +kernel
theorem dX1_isOver_10 : decode cX1_isOver 10 = .ok (.aload_n 0, 1) := by decide +kernel
theorem dX1_isOver_11 : decode cX1_isOver 11 = .ok (.getfield 19, 3) := by decide +kernel
theorem dX1_isOver_14 : decode cX1_isOver 14 = .ok (.iload_n 1, 1) := by decide +kernel
theorem dX1_isOver_15 : decode cX1_isOver 15 = .ok (.iaload, 1) := by decide +kernel
theorem dX1_isOver_16 : decode cX1_isOver 16 = .ok (.iconst 4, 1) := by decide +kernel
theorem dX1_isOver_17 : decode cX1_isOver 17 = .ok (.if_icmp .ne 7, 3) := by decide +kernel
theorem dX1_isOver_20 : decode cX1_isOver 20 = .ok (.iconst 1, 1) := by decide +kernel
theorem dX1_isOver_21 : decode cX1_isOver 21 = .ok (.goto 4, 3) := by decide +kernel
theorem dX1_isOver_24 : decode cX1_isOver 24 = .ok (.iconst 0, 1) := by decide +kernel
theorem dX1_isOver_25 : decode cX1_isOver 25 = .ok (.ireturn, 1) := by decide +kernel
theorem dX2_init_0 : decode cX2_init 0 = .ok (.aload_n 0, 1) := by decide +kernel
theorem dX2_init_1 : decode cX2_init 1 = .ok (.invokespecial 3, 3) := by decide +kernel
theorem dX2_init_4 : decode cX2_init 4 = .ok (.aload_n 0, 1) := by decide +kernel
theorem dX2_init_5 : decode cX2_init 5 = .ok (.iconst 5, 1) := by decide +kernel
theorem dX2_init_6 : decode cX2_init 6 = .ok (.newarray .int, 2) := by decide +kernel
theorem dX2_init_8 : decode cX2_init 8 = .ok (.putfield 9, 3) := by decide +kernel
theorem dX2_init_11 : decode cX2_init 11 = .ok (.aload_n 0, 1) := by decide +kernel
theorem dX2_init_12 : decode cX2_init 12 = .ok (.new 15, 3) := by decide +kernel
theorem dX2_init_15 : decode cX2_init 15 = .ok (.dup, 1) := by decide +kernel
theorem dX2_init_16 : decode cX2_init 16 = .ok (.invokespecial 17, 3) := by decide +kernel
theorem dX2_init_19 : decode cX2_init 19 = .ok (.putfield 18, 3) := by decide +kernel
theorem dX2_init_22 : decode cX2_init 22 = .ok (.aload_n 0, 1) := by decide +kernel
theorem dX2_init_23 : decode cX2_init 23 = .ok (.new 22, 3) := by decide +kernel
theorem dX2_init_26 : decode cX2_init 26 = .ok (.dup, 1) := by decide +kernel
theorem dX2_init_27 : decode cX2_init 27 = .ok (.invokespecial 24, 3) := by decide +kernel
theorem dX2_init_30 : decode cX2_init 30 = .ok (.putfield 25, 3) := by decide +kernel
theorem dX2_init_33 : decode cX2_init 33 = .ok (.aload_n 0, 1) := by decide +kernel
theorem dX2_init_34 : decode cX2_init 34 = .ok (.bipush 16, 2) := by decide +kernel
theorem dX2_init_36 : decode cX2_init 36 = .ok (.newarray .int, 2) := by decide +kernel
theorem dX2_init_38 : decode cX2_init 38 = .ok (.putfield 29, 3) := by decide +kernel
theorem dX2_init_41 : decode cX2_init 41 = .ok (.aload_n 0, 1) := by decide +kernel
theorem dX2_init_42 : decode cX2_init 42 = .ok (.iconst 0, 1) := by decide +kernel
theorem dX2_init_43 : decode cX2_init 43 = .ok (.putfield 32, 3) := by decide +kernel
theorem dX2_init_46 : decode cX2_init 46 = .ok (.aload_n 0, 1) := by decide +kernel
theorem dX2_init_47 : decode cX2_init 47 = .ok (.iconst 0, 1) := by decide +kernel
theorem dX2_init_48 : decode cX2_init 48 = .ok (.putfield 36, 3) := by decide +kernel
theorem dX2_init_51 : decode cX2_init 51 = .ok (.aload_n 0, 1) := by decide +kernel
theorem dX2_init_52 : decode cX2_init 52 = .ok (.iconst 0, 1) := by decide +kernel
theorem dX2_init_53 : decode cX2_init 53 = .ok (.putfield 39, 3) := by decide +kernel
theorem dX2_init_56 : decode cX2_init 56 = .ok (.getstatic 42, 3) := by decide +kernel
theorem dX2_init_59 : decode cX2_init 59 = .ok (.aload_n 0, 1) := by decide +kernel
theorem dX2_init_60 : decode cX2_init 60 = .ok (.getfield 9, 3) := by decide +kernel
theorem dX2_init_63 : decode cX2_init 63 = .ok (.invokestatic 45, 3) := by decide +kernel
theorem dX2_init_66 : decode cX2_init 66 = .ok (.return_, 1) := by decide +kernel
theorem dX2_become_0 : decode cX2_become 0 = .ok (.aload_n 1, 1) := by decide +kernel
theorem dX2_become_1 : decode cX2_become 1 = .ok (.getfield 9, 3) := by decide +kernel
theorem dX2_become_4 : decode cX2_become 4 = .ok (.aload_n 0, 1) := by decide +kernel
theorem dX2_become_5 : decode cX2_become 5 = .ok (.getfield 9, 3) := by decide +kernel
theorem dX2_become_8 : decode cX2_become 8 = .ok (.invokestatic 45, 3) := by decide +kernel
theorem dX2_become_11 : decode cX2_become 11 = .ok (.aload_n 0, 1) := by decide +kernel
theorem dX2_become_12 : decode cX2_become 12 = .ok (.getfield 18, 3) := by decide +kernel
theorem dX2_become_15 : decode cX2_become 15 = .ok (.aload_n 1, 1) := by decide +kernel
theorem dX2_become_16 : decode cX2_become 16 = .ok (.getfield 18, 3) := by decide +kernel
theorem dX2_become_19 : decode cX2_become 19 = .ok (.invokevirtual 49, 3) := by decide +kernel
theorem dX2_become_22 : decode cX2_become 22 = .ok (.aload_n 0, 1) := by decide +kernel
theorem dX2_become_23 : decode cX2_become 23 = .ok (.getfield 25, 3) := by decide +kernel
theorem dX2_become_26 : decode cX2_become 26 = .ok (.aload_n 1, 1) := by decide +kernel
theorem dX2_become_27 : decode cX2_become 27 = .ok (.getfield 25, 3) := by decide +kernel
theorem dX2_become_30 : decode cX2_become 30 = .ok (.invokevirtual 53, 3) := by decide +kernel
theorem dX2_become_33 : decode cX2_become 33 = .ok (.aload_n 1, 1) := by decide +kernel
theorem dX2_become_34 : decode cX2_become 34 = .ok (.getfield 29, 3) := by decide +kernel
theorem dX2_become_37 : decode cX2_become 37 = .ok (.aload_n 0, 1) := by decide +kernel
theorem dX2_become_38 : decode cX2_become 38 = .ok (.getfield 29, 3) := by decide +kernel
theorem dX2_become_41 : decode cX2_become 41 = .ok (.invokestatic 45, 3) := by decide +kernel
theorem dX2_become_44 : decode cX2_become 44 = .ok (.aload_n 0, 1) := by decide +kernel
theorem dX2_become_45 : decode cX2_become 45 = .ok (.aload_n 1, 1) := by decide +kernel
theorem dX2_become_46 : decode cX2_become 46 = .ok (.getfield 32, 3) := by decide +kernel
theorem dX2_become_49 : decode cX2_become 49 = .ok (.putfield 32, 3) := by decide +kernel
theorem dX2_become_52 : decode cX2_become 52 = .ok (.aload_n 0, 1) := by decide +kernel
theorem dX2_become_53 : decode cX2_become 53 = .ok (.aload_n 1, 1) := by decide +kernel
theorem dX2_become_54 : decode cX2_become 54 = .ok (.getfield 36, 3) := by decide +kernel
theorem dX2_become_57 : decode cX2_become 57 = .ok (.putfield 36, 3) := by decide +kernel
theorem dX2_become_60 : decode cX2_become 60 = .ok (.aload_n 0, 1) := by decide +kernel
theorem dX2_become_61 : decode cX2_become 61 = .ok (.aload_n 1, 1) := by decide +kernel
theorem dX2_become_62 : decode cX2_become 62 = .ok (.getfield 39, 3) := by decide +kernel
theorem dX2_become_65 : decode cX2_become 65 = .ok (.putfield 39, 3) := by decide +kernel
theorem dX2_become_68 : decode cX2_become 68 = .ok (.return_, 1) := by decide +kernel
theorem dX2_isHeir_0 : decode cX2_isHeir 0 = .ok (.iload_n 0, 1) := by decide +kernel
theorem dX2_isHeir_1 : decode cX2_isHeir 1 = .ok (.ifCond .lt 13, 3) := by decide +kernel
theorem dX2_isHeir_4 : decode cX2_isHeir 4 = .ok (.iload_n 0, 1) := by decide +kernel
theorem dX2_isHeir_5 : decode cX2_isHeir 5 = .ok (.bipush 16, 2) := by decide +kernel
theorem dX2_isHeir_7 : decode cX2_isHeir 7 = .ok (.if_icmp .ge 7, 3) := by decide +kernel
theorem dX2_isHeir_10 : decode cX2_isHeir 10 = .ok (.iconst 1, 1) := by decide +kernel
theorem dX2_isHeir_11 : decode cX2_isHeir 11 = .ok (.goto 4, 3) := by decide +kernel
theorem dX2_isHeir_14 : decode cX2_isHeir 14 = .ok (.iconst 0, 1) := by decide +kernel
theorem dX2_isHeir_15 : decode cX2_isHeir 15 = .ok (.ireturn, 1) := by decide +kernel
theorem dX2_changeSetting_0 : decode cX2_changeSetting 0 = .ok (.iload_n 1, 1) := by decide +kernel
theorem dX2_changeSetting_1 : decode cX2_changeSetting 1 = .ok (.ifCond .lt 8, 3) := by decide +kernel
theorem dX2_changeSetting_4 : decode cX2_changeSetting 4 = .ok (.iload_n 1, 1) := by decide +kernel
theorem dX2_changeSetting_5 : decode cX2_changeSetting 5 = .ok (.iconst 5, 1) := by decide +kernel
theorem dX2_changeSetting_6 : decode cX2_changeSetting 6 = .ok (.if_icmp .lt 6, 3) := by decide +kernel
theorem dX2_changeSetting_9 : decode cX2_changeSetting 9 = .ok (.bipush (-2), 2) := by decide +kernel
theorem dX2_changeSetting_11 : decode cX2_changeSetting 11 = .ok (.ireturn, 1) := by decide +kernel
theorem dX2_changeSetting_12 : decode cX2_changeSetting 12 = .ok (.iload_n 2, 1) := by decide +kernel
theorem dX2_changeSetting_13 : decode cX2_changeSetting 13 = .ok (.getstatic 56, 3) := by decide +kernel
theorem dX2_changeSetting_16 : decode cX2_changeSetting 16 = .ok (.iload_n 1, 1) := by decide +kernel
theorem dX2_changeSetting_17 : decode cX2_changeSetting 17 = .ok (.iaload, 1) := by decide +kernel
theorem dX2_changeSetting_18 : decode cX2_changeSetting 18 = .ok (.if_icmp .lt 12, 3) := by decide +kernel
theorem dX2_changeSetting_21 : decode cX2_changeSetting 21 = .ok (.iload_n 2, 1) := by decide +kernel
theorem dX2_changeSetting_22 : decode cX2_changeSetting 22 = .ok (.getstatic 59, 3) := by decide +kernel
theorem dX2_changeSetting_25 : decode cX2_changeSetting 25 = .ok (.iload_n 1, 1) := by decide +kernel
theorem dX2_changeSetting_26 : decode cX2_changeSetting 26 = .ok (.iaload, 1) := by decide +kernel
theorem dX2_changeSetting_27 : decode cX2_changeSetting 27 = .ok (.if_icmp .le 6, 3) := by decide +kernel
theorem dX2_changeSetting_30 : decode cX2_changeSetting 30 = .ok (.bipush (-2), 2) := by decide +kernel
theorem dX2_changeSetting_32 : decode cX2_changeSetting 32 = .ok (.ireturn, 1) := by decide +kernel
theorem dX2_changeSetting_33 : decode cX2_changeSetting 33 = .ok (.aload_n 0, 1) := by decide +kernel
theorem dX2_changeSetting_34 : decode cX2_changeSetting 34 = .ok (.getfield 9, 3) := by decide +kernel
theorem dX2_changeSetting_37 : decode cX2_changeSetting 37 = .ok (.iload_n 1, 1) := by decide +kernel
theorem dX2_changeSetting_38 : decode cX2_changeSetting 38 = .ok (.iaload, 1) := by decide +kernel
theorem dX2_changeSetting_39 : decode cX2_changeSetting 39 = .ok (.istore_n 3, 1) := by decide +kernel
theorem dX2_changeSetting_40 : decode cX2_changeSetting 40 = .ok (.aload_n 0, 1) := by decide +kernel
theorem dX2_changeSetting_41 : decode cX2_changeSetting 41 = .ok (.getfield 9, 3) := by decide +kernel
theorem dX2_changeSetting_44 : decode cX2_changeSetting 44 = .ok (.iload_n 1, 1) := by decide +kernel
theorem dX2_changeSetting_45 : decode cX2_changeSetting 45 = .ok (.iload_n 2, 1) := by decide +kernel
theorem dX2_changeSetting_46 : decode cX2_changeSetting 46 = .ok (.iastore, 1) := by decide +kernel
theorem dX2_changeSetting_47 : decode cX2_changeSetting 47 = .ok (.iload_n 3, 1) := by decide +kernel
theorem dX2_changeSetting_48 : decode cX2_changeSetting 48 = .ok (.ireturn, 1) := by decide +kernel
theorem dX2_addLot_0 : decode cX2_addLot 0 = .ok (.iload_n 1, 1) := by decide +kernel
theorem dX2_addLot_1 : decode cX2_addLot 1 = .ok (.iconst 1, 1) := by decide +kernel
theorem dX2_addLot_2 : decode cX2_addLot 2 = .ok (.if_icmp .lt 10, 3) := by decide +kernel
theorem dX2_addLot_5 : decode cX2_addLot 5 = .ok (.iload_n 1, 1) := by decide +kernel
theorem dX2_addLot_6 : decode cX2_addLot 6 = .ok (.sipush 9999, 3) := by decide +kernel
theorem dX2_addLot_9 : decode cX2_addLot 9 = .ok (.if_icmp .le 6, 3) := by decide +kernel
theorem dX2_addLot_12 : decode cX2_addLot 12 = .ok (.bipush (-2), 2) := by decide +kernel
theorem dX2_addLot_14 : decode cX2_addLot 14 = .ok (.ireturn, 1) := by decide +kernel
theorem dX2_addLot_15 : decode cX2_addLot 15 = .ok (.aload_n 0, 1) := by decide +kernel
theorem dX2_addLot_16 : decode cX2_addLot 16 = .ok (.getfield 18, 3) := by decide +kernel
theorem dX2_addLot_19 : decode cX2_addLot 19 = .ok (.getfield 62, 3) := by decide +kernel
theorem dX2_addLot_22 : decode cX2_addLot 22 = .ok (.bipush 12, 2) := by decide +kernel
theorem dX2_addLot_24 : decode cX2_addLot 24 = .ok (.if_icmp .lt 6, 3) := by decide +kernel
theorem dX2_addLot_27 : decode cX2_addLot 27 = .ok (.bipush (-4), 2) := by decide +kernel
theorem dX2_addLot_29 : decode cX2_addLot 29 = .ok (.ireturn, 1) := by decide +kernel
theorem dX2_addLot_30 : decode cX2_addLot 30 = .ok (.aload_n 0, 1) := by decide +kernel
theorem dX2_addLot_31 : decode cX2_addLot 31 = .ok (.getfield 18, 3) := by decide +kernel
theorem dX2_addLot_34 : decode cX2_addLot 34 = .ok (.getfield 62, 3) := by decide +kernel
theorem dX2_addLot_37 : decode cX2_addLot 37 = .ok (.istore_n 2, 1) := by decide +kernel
theorem dX2_addLot_38 : decode cX2_addLot 38 = .ok (.aload_n 0, 1) := by decide +kernel
theorem dX2_addLot_39 : decode cX2_addLot 39 = .ok (.getfield 18, 3) := by decide +kernel
theorem dX2_addLot_42 : decode cX2_addLot 42 = .ok (.getfield 65, 3) := by decide +kernel
theorem dX2_addLot_45 : decode cX2_addLot 45 = .ok (.iload_n 2, 1) := by decide +kernel
theorem dX2_addLot_46 : decode cX2_addLot 46 = .ok (.iload_n 1, 1) := by decide +kernel
theorem dX2_addLot_47 : decode cX2_addLot 47 = .ok (.iastore, 1) := by decide +kernel
theorem dX2_addLot_48 : decode cX2_addLot 48 = .ok (.aload_n 0, 1) := by decide +kernel
theorem dX2_addLot_49 : decode cX2_addLot 49 = .ok (.getfield 18, 3) := by decide +kernel
theorem dX2_addLot_52 : decode cX2_addLot 52 = .ok (.dup, 1) := by decide +kernel
theorem dX2_addLot_53 : decode cX2_addLot 53 = .ok (.getfield 62, 3) := by decide +kernel
theorem dX2_addLot_56 : decode cX2_addLot 56 = .ok (.iconst 1, 1) := by decide +kernel
theorem dX2_addLot_57 : decode cX2_addLot 57 = .ok (.iadd, 1) := by decide +kernel
theorem dX2_addLot_58 : decode cX2_addLot 58 = .ok (.putfield 62, 3) := by decide +kernel
theorem dX2_addLot_61 : decode cX2_addLot 61 = .ok (.iload_n 2, 1) := by decide +kernel
theorem dX2_addLot_62 : decode cX2_addLot 62 = .ok (.ireturn, 1) := by decide +kernel
theorem dX2_giveNotice_0 : decode cX2_giveNotice 0 = .ok (.aload_n 0, 1) := by decide +kernel
theorem dX2_giveNotice_1 : decode cX2_giveNotice 1 = .ok (.getfield 18, 3) := by decide +kernel
theorem dX2_giveNotice_4 : decode cX2_giveNotice 4 = .ok (.iload_n 1, 1) := by decide +kernel
theorem dX2_giveNotice_5 : decode cX2_giveNotice 5 = .ok (.invokevirtual 68, 3) := by decide +kernel
theorem dX2_giveNotice_8 : decode cX2_giveNotice 8 = .ok (.ifCond .ne 5, 3) := by decide +kernel
theorem dX2_giveNotice_11 : decode cX2_giveNotice 11 = .ok (.iconst (-1), 1) := by decide +kernel
theorem dX2_giveNotice_12 : decode cX2_giveNotice 12 = .ok (.ireturn, 1) := by decide +kernel
theorem dX2_giveNotice_13 : decode cX2_giveNotice 13 = .ok (.aload_n 0, 1) := by decide +kernel
theorem dX2_giveNotice_14 : decode cX2_giveNotice 14 = .ok (.getfield 18, 3) := by decide +kernel
theorem dX2_giveNotice_17 : decode cX2_giveNotice 17 = .ok (.getfield 72, 3) := by decide +kernel
theorem dX2_giveNotice_20 : decode cX2_giveNotice 20 = .ok (.iload_n 1, 1) := by decide +kernel
theorem dX2_giveNotice_21 : decode cX2_giveNotice 21 = .ok (.iaload, 1) := by decide +kernel
theorem dX2_giveNotice_22 : decode cX2_giveNotice 22 = .ok (.ifCond .eq 6, 3) := by decide +kernel
theorem dX2_giveNotice_25 : decode cX2_giveNotice 25 = .ok (.bipush (-5), 2) := by decide +kernel
theorem dX2_giveNotice_27 : decode cX2_giveNotice 27 = .ok (.ireturn, 1) := by decide +kernel
theorem dX2_giveNotice_28 : decode cX2_giveNotice 28 = .ok (.aload_n 0, 1) := by decide +kernel
theorem dX2_giveNotice_29 : decode cX2_giveNotice 29 = .ok (.getfield 18, 3) := by decide +kernel
theorem dX2_giveNotice_32 : decode cX2_giveNotice 32 = .ok (.getfield 72, 3) := by decide +kernel
theorem dX2_giveNotice_35 : decode cX2_giveNotice 35 = .ok (.iload_n 1, 1) := by decide +kernel
theorem dX2_giveNotice_36 : decode cX2_giveNotice 36 = .ok (.iconst 1, 1) := by decide +kernel
theorem dX2_giveNotice_37 : decode cX2_giveNotice 37 = .ok (.iastore, 1) := by decide +kernel
theorem dX2_giveNotice_38 : decode cX2_giveNotice 38 = .ok (.aload_n 0, 1) := by decide +kernel
theorem dX2_giveNotice_39 : decode cX2_giveNotice 39 = .ok (.getfield 18, 3) := by decide +kernel
theorem dX2_giveNotice_42 : decode cX2_giveNotice 42 = .ok (.iconst 1, 1) := by decide +kernel
theorem dX2_giveNotice_43 : decode cX2_giveNotice 43 = .ok (.invokevirtual 75, 3) := by decide +kernel
theorem dX2_giveNotice_46 : decode cX2_giveNotice 46 = .ok (.invokestatic 79, 3) := by decide +kernel
theorem dX2_giveNotice_49 : decode cX2_giveNotice 49 = .ok (.ireturn, 1) := by decide +kernel
theorem dX2_addClaim_0 : decode cX2_addClaim 0 = .ok (.iload_n 1, 1) := by decide +kernel
theorem dX2_addClaim_1 : decode cX2_addClaim 1 = .ok (.invokestatic 84, 3) := by decide +kernel
theorem dX2_addClaim_4 : decode cX2_addClaim 4 = .ok (.ifCond .eq 14, 3) := by decide +kernel
theorem dX2_addClaim_7 : decode cX2_addClaim 7 = .ok (.aload_n 0, 1) := by decide +kernel
theorem dX2_addClaim_8 : decode cX2_addClaim 8 = .ok (.getfield 18, 3) := by decide +kernel
theorem dX2_addClaim_11 : decode cX2_addClaim 11 = .ok (.iload_n 2, 1) := by decide +kernel
theorem dX2_addClaim_12 : decode cX2_addClaim 12 = .ok (.invokevirtual 68, 3) := by decide +kernel
theorem dX2_addClaim_15 : decode cX2_addClaim 15 = .ok (.ifCond .ne 5, 3) := by decide +kernel
theorem dX2_addClaim_18 : decode cX2_addClaim 18 = .ok (.iconst (-1), 1) := by decide +kernel
theorem dX2_addClaim_19 : decode cX2_addClaim 19 = .ok (.ireturn, 1) := by decide +kernel
theorem dX2_addClaim_20 : decode cX2_addClaim 20 = .ok (.iload_n 3, 1) := by decide +kernel
theorem dX2_addClaim_21 : decode cX2_addClaim 21 = .ok (.iconst 1, 1) := by decide +kernel
theorem dX2_addClaim_22 : decode cX2_addClaim 22 = .ok (.if_icmp .lt 8, 3) := by decide +kernel
theorem dX2_addClaim_25 : decode cX2_addClaim 25 = .ok (.iload_n 3, 1) := by decide +kernel
theorem dX2_addClaim_26 : decode cX2_addClaim 26 = .ok (.iconst 5, 1) := by decide +kernel
theorem dX2_addClaim_27 : decode cX2_addClaim 27 = .ok (.if_icmp .le 6, 3) := by decide +kernel
theorem dX2_addClaim_30 : decode cX2_addClaim 30 = .ok (.bipush (-2), 2) := by decide +kernel
theorem dX2_addClaim_32 : decode cX2_addClaim 32 = .ok (.ireturn, 1) := by decide +kernel
theorem dX2_addClaim_33 : decode cX2_addClaim 33 = .ok (.aload_n 0, 1) := by decide +kernel
theorem dX2_addClaim_34 : decode cX2_addClaim 34 = .ok (.iload_n 2, 1) := by decide +kernel
theorem dX2_addClaim_35 : decode cX2_addClaim 35 = .ok (.invokevirtual 87, 3) := by decide +kernel
theorem dX2_addClaim_38 : decode cX2_addClaim 38 = .ok (.ifCond .eq 23, 3) := by decide +kernel
theorem dX2_addClaim_41 : decode cX2_addClaim 41 = .ok (.aload_n 0, 1) := by decide +kernel
theorem dX2_addClaim_42 : decode cX2_addClaim 42 = .ok (.getfield 25, 3) := by decide +kernel
theorem dX2_addClaim_45 : decode cX2_addClaim 45 = .ok (.iload_n 1, 1) := by decide +kernel
theorem dX2_addClaim_46 : decode cX2_addClaim 46 = .ok (.invokevirtual 90, 3) := by decide +kernel
theorem dX2_addClaim_49 : decode cX2_addClaim 49 = .ok (.aload_n 0, 1) := by decide +kernel
theorem dX2_addClaim_50 : decode cX2_addClaim 50 = .ok (.getfield 25, 3) := by decide +kernel
theorem dX2_addClaim_53 : decode cX2_addClaim 53 = .ok (.iload_n 2, 1) := by decide +kernel
theorem dX2_addClaim_54 : decode cX2_addClaim 54 = .ok (.invokevirtual 93, 3) := by decide +kernel
theorem dX2_addClaim_57 : decode cX2_addClaim 57 = .ok (.iand, 1) := by decide +kernel
theorem dX2_addClaim_58 : decode cX2_addClaim 58 = .ok (.ifCond .eq 6, 3) := by decide +kernel
theorem dX2_addClaim_61 : decode cX2_addClaim 61 = .ok (.bipush (-5), 2) := by decide +kernel
theorem dX2_addClaim_63 : decode cX2_addClaim 63 = .ok (.ireturn, 1) := by decide +kernel
theorem dX2_addClaim_64 : decode cX2_addClaim 64 = .ok (.aload_n 0, 1) := by decide +kernel
theorem dX2_addClaim_65 : decode cX2_addClaim 65 = .ok (.getfield 25, 3) := by decide +kernel
theorem dX2_addClaim_68 : decode cX2_addClaim 68 = .ok (.getfield 96, 3) := by decide +kernel
theorem dX2_addClaim_71 : decode cX2_addClaim 71 = .ok (.bipush 30, 2) := by decide +kernel
theorem dX2_addClaim_73 : decode cX2_addClaim 73 = .ok (.if_icmp .lt 6, 3) := by decide +kernel
theorem dX2_addClaim_76 : decode cX2_addClaim 76 = .ok (.bipush (-4), 2) := by decide +kernel
theorem dX2_addClaim_78 : decode cX2_addClaim 78 = .ok (.ireturn, 1) := by decide +kernel
theorem dX2_addClaim_79 : decode cX2_addClaim 79 = .ok (.aload_n 0, 1) := by decide +kernel
theorem dX2_addClaim_80 : decode cX2_addClaim 80 = .ok (.getfield 25, 3) := by decide +kernel
theorem dX2_addClaim_83 : decode cX2_addClaim 83 = .ok (.getfield 96, 3) := by decide +kernel
theorem dX2_addClaim_86 : decode cX2_addClaim 86 = .ok (.istore 4, 2) := by decide +kernel
theorem dX2_addClaim_88 : decode cX2_addClaim 88 = .ok (.aload_n 0, 1) := by decide +kernel
theorem dX2_addClaim_89 : decode cX2_addClaim 89 = .ok (.getfield 25, 3) := by decide +kernel
theorem dX2_addClaim_92 : decode cX2_addClaim 92 = .ok (.getfield 97, 3) := by decide +kernel
theorem dX2_addClaim_95 : decode cX2_addClaim 95 = .ok (.iload 4, 2) := by decide +kernel
theorem dX2_addClaim_97 : decode cX2_addClaim 97 = .ok (.iload_n 1, 1) := by decide +kernel
theorem dX2_addClaim_98 : decode cX2_addClaim 98 = .ok (.iastore, 1) := by decide +kernel
theorem dX2_addClaim_99 : decode cX2_addClaim 99 = .ok (.aload_n 0, 1) := by decide +kernel
theorem dX2_addClaim_100 : decode cX2_addClaim 100 = .ok (.getfield 25, 3) := by decide +kernel
theorem dX2_addClaim_103 : decode cX2_addClaim 103 = .ok (.getfield 100, 3) := by decide +kernel
theorem dX2_addClaim_106 : decode cX2_addClaim 106 = .ok (.iload 4, 2) := by decide +kernel
theorem dX2_addClaim_108 : decode cX2_addClaim 108 = .ok (.iload_n 2, 1) := by decide +kernel
theorem dX2_addClaim_109 : decode cX2_addClaim 109 = .ok (.iastore, 1) := by decide +kernel
theorem dX2_addClaim_110 : decode cX2_addClaim 110 = .ok (.aload_n 0, 1) := by decide +kernel
theorem dX2_addClaim_111 : decode cX2_addClaim 111 = .ok (.getfield 25, 3) := by decide +kernel
theorem dX2_addClaim_114 : decode cX2_addClaim 114 = .ok (.getfield 103, 3) := by decide +kernel
theorem dX2_addClaim_117 : decode cX2_addClaim 117 = .ok (.iload 4, 2) := by decide +kernel
theorem dX2_addClaim_119 : decode cX2_addClaim 119 = .ok (.iload_n 3, 1) := by decide +kernel
theorem dX2_addClaim_120 : decode cX2_addClaim 120 = .ok (.iastore, 1) := by decide +kernel
theorem dX2_addClaim_121 : decode cX2_addClaim 121 = .ok (.aload_n 0, 1) := by decide +kernel
theorem dX2_addClaim_122 : decode cX2_addClaim 122 = .ok (.getfield 25, 3) := by decide +kernel
theorem dX2_addClaim_125 : decode cX2_addClaim 125 = .ok (.dup, 1) := by decide +kernel
theorem dX2_addClaim_126 : decode cX2_addClaim 126 = .ok (.getfield 96, 3) := by decide +kernel
theorem dX2_addClaim_129 : decode cX2_addClaim 129 = .ok (.iconst 1, 1) := by decide +kernel
theorem dX2_addClaim_130 : decode cX2_addClaim 130 = .ok (.iadd, 1) := by decide +kernel
theorem dX2_addClaim_131 : decode cX2_addClaim 131 = .ok (.putfield 96, 3) := by decide +kernel
theorem dX2_addClaim_134 : decode cX2_addClaim 134 = .ok (.iload 4, 2) := by decide +kernel
theorem dX2_addClaim_136 : decode cX2_addClaim 136 = .ok (.ireturn, 1) := by decide +kernel
theorem dX2_canBeClaimed_0 : decode cX2_canBeClaimed 0 = .ok (.aload_n 0, 1) := by decide +kernel
theorem dX2_canBeClaimed_1 : decode cX2_canBeClaimed 1 = .ok (.getfield 18, 3) := by decide +kernel
theorem dX2_canBeClaimed_4 : decode cX2_canBeClaimed 4 = .ok (.getfield 72, 3) := by decide +kernel
theorem dX2_canBeClaimed_7 : decode cX2_canBeClaimed 7 = .ok (.iload_n 1, 1) := by decide +kernel
theorem dX2_canBeClaimed_8 : decode cX2_canBeClaimed 8 = .ok (.iaload, 1) := by decide +kernel
theorem dX2_canBeClaimed_9 : decode cX2_canBeClaimed 9 = .ok (.iconst 3, 1) := by decide +kernel
theorem dX2_canBeClaimed_10 : decode cX2_canBeClaimed 10 = .ok (.if_icmp .ne 27, 3) := by decide +kernel
theorem dX2_canBeClaimed_13 : decode cX2_canBeClaimed 13 = .ok (.aload_n 0, 1) := by decide +kernel
theorem dX2_canBeClaimed_14 : decode cX2_canBeClaimed 14 = .ok (.getfield 18, 3) := by decide +kernel
theorem dX2_canBeClaimed_17 : decode cX2_canBeClaimed 17 = .ok (.getfield 106, 3) := by decide +kernel
theorem dX2_canBeClaimed_20 : decode cX2_canBeClaimed 20 = .ok (.iload_n 1, 1) := by decide +kernel
theorem dX2_canBeClaimed_21 : decode cX2_canBeClaimed 21 = .ok (.iaload, 1) := by decide +kernel
theorem dX2_canBeClaimed_22 : decode cX2_canBeClaimed 22 = .ok (.aload_n 0, 1) := by decide +kernel
theorem dX2_canBeClaimed_23 : decode cX2_canBeClaimed 23 = .ok (.getfield 9, 3) := by decide +kernel
theorem dX2_canBeClaimed_26 : decode cX2_canBeClaimed 26 = .ok (.iconst 3, 1) := by decide +kernel
theorem dX2_canBeClaimed_27 : decode cX2_canBeClaimed 27 = .ok (.iaload, 1) := by decide +kernel
theorem dX2_canBeClaimed_28 : decode cX2_canBeClaimed 28 = .ok (.if_icmp .gt 7, 3) := by decide +kernel
theorem dX2_canBeClaimed_31 : decode cX2_canBeClaimed 31 = .ok (.iconst 1, 1) := by decide +kernel
theorem dX2_canBeClaimed_32 : decode cX2_canBeClaimed 32 = .ok (.goto 4, 3) := by decide +kernel
theorem dX2_canBeClaimed_35 : decode cX2_canBeClaimed 35 = .ok (.iconst 0, 1) := by decide +kernel
theorem dX2_canBeClaimed_36 : decode cX2_canBeClaimed 36 = .ok (.ireturn, 1) := by decide +kernel
theorem dX2_canBeClaimed_37 : decode cX2_canBeClaimed 37 = .ok (.aload_n 0, 1) := by decide +kernel
theorem dX2_canBeClaimed_38 : decode cX2_canBeClaimed 38 = .ok (.getfield 18, 3) := by decide +kernel
theorem dX2_canBeClaimed_41 : decode cX2_canBeClaimed 41 = .ok (.iload_n 1, 1) := by decide +kernel
theorem dX2_canBeClaimed_42 : decode cX2_canBeClaimed 42 = .ok (.invokevirtual 109, 3) := by decide +kernel
theorem dX2_canBeClaimed_45 : decode cX2_canBeClaimed 45 = .ok (.ifCond .ne 7, 3) := by decide +kernel
theorem dX2_canBeClaimed_48 : decode cX2_canBeClaimed 48 = .ok (.iconst 1, 1) := by decide +kernel
theorem dX2_canBeClaimed_49 : decode cX2_canBeClaimed 49 = .ok (.goto 4, 3) := by decide +kernel
theorem dX2_canBeClaimed_52 : decode cX2_canBeClaimed 52 = .ok (.iconst 0, 1) := by decide +kernel
theorem dX2_canBeClaimed_53 : decode cX2_canBeClaimed 53 = .ok (.ireturn, 1) := by decide +kernel
theorem dX2_addProof_0 : decode cX2_addProof 0 = .ok (.aload_n 0, 1) := by decide +kernel
theorem dX2_addProof_1 : decode cX2_addProof 1 = .ok (.getfield 25, 3) := by decide +kernel
theorem dX2_addProof_4 : decode cX2_addProof 4 = .ok (.iload_n 1, 1) := by decide +kernel
theorem dX2_addProof_5 : decode cX2_addProof 5 = .ok (.invokevirtual 112, 3) := by decide +kernel
theorem dX2_addProof_8 : decode cX2_addProof 8 = .ok (.ifCond .ne 5, 3) := by decide +kernel
theorem dX2_addProof_11 : decode cX2_addProof 11 = .ok (.iconst (-1), 1) := by decide +kernel
theorem dX2_addProof_12 : decode cX2_addProof 12 = .ok (.ireturn, 1) := by decide +kernel
theorem dX2_addProof_13 : decode cX2_addProof 13 = .ok (.iload_n 2, 1) := by decide +kernel
theorem dX2_addProof_14 : decode cX2_addProof 14 = .ok (.iconst 1, 1) := by decide +kernel
theorem dX2_addProof_15 : decode cX2_addProof 15 = .ok (.if_icmp .lt 9, 3) := by decide +kernel
theorem dX2_addProof_18 : decode cX2_addProof 18 = .ok (.iload_n 2, 1) := by decide +kernel
theorem dX2_addProof_19 : decode cX2_addProof 19 = .ok (.bipush 100, 2) := by decide +kernel
theorem dX2_addProof_21 : decode cX2_addProof 21 = .ok (.if_icmp .le 6, 3) := by decide +kernel
theorem dX2_addProof_24 : decode cX2_addProof 24 = .ok (.bipush (-2), 2) := by decide +kernel
theorem dX2_addProof_26 : decode cX2_addProof 26 = .ok (.ireturn, 1) := by decide +kernel
theorem dX2_addProof_27 : decode cX2_addProof 27 = .ok (.aload_n 0, 1) := by decide +kernel
theorem dX2_addProof_28 : decode cX2_addProof 28 = .ok (.getfield 25, 3) := by decide +kernel
theorem dX2_addProof_31 : decode cX2_addProof 31 = .ok (.iload_n 1, 1) := by decide +kernel
theorem dX2_addProof_32 : decode cX2_addProof 32 = .ok (.invokevirtual 113, 3) := by decide +kernel
theorem dX2_addProof_35 : decode cX2_addProof 35 = .ok (.ifCond .ne 6, 3) := by decide +kernel
theorem dX2_addProof_38 : decode cX2_addProof 38 = .ok (.bipush (-5), 2) := by decide +kernel
theorem dX2_addProof_40 : decode cX2_addProof 40 = .ok (.ireturn, 1) := by decide +kernel
theorem dX2_addProof_41 : decode cX2_addProof 41 = .ok (.aload_n 0, 1) := by decide +kernel
theorem dX2_addProof_42 : decode cX2_addProof 42 = .ok (.getfield 25, 3) := by decide +kernel
theorem dX2_addProof_45 : decode cX2_addProof 45 = .ok (.getfield 116, 3) := by decide +kernel
theorem dX2_addProof_48 : decode cX2_addProof 48 = .ok (.iload_n 1, 1) := by decide +kernel
theorem dX2_addProof_49 : decode cX2_addProof 49 = .ok (.bipush 100, 2) := by decide +kernel
theorem dX2_addProof_51 : decode cX2_addProof 51 = .ok (.aload_n 0, 1) := by decide +kernel
theorem dX2_addProof_52 : decode cX2_addProof 52 = .ok (.getfield 25, 3) := by decide +kernel
theorem dX2_addProof_55 : decode cX2_addProof 55 = .ok (.getfield 116, 3) := by decide +kernel
theorem dX2_addProof_58 : decode cX2_addProof 58 = .ok (.iload_n 1, 1) := by decide +kernel
theorem dX2_addProof_59 : decode cX2_addProof 59 = .ok (.iaload, 1) := by decide +kernel
theorem dX2_addProof_60 : decode cX2_addProof 60 = .ok (.iload_n 2, 1) := by decide +kernel
theorem dX2_addProof_61 : decode cX2_addProof 61 = .ok (.iadd, 1) := by decide +kernel
theorem dX2_addProof_62 : decode cX2_addProof 62 = .ok (.invokestatic 119, 3) := by decide +kernel
theorem dX2_addProof_65 : decode cX2_addProof 65 = .ok (.iastore, 1) := by decide +kernel
theorem dX2_addProof_66 : decode cX2_addProof 66 = .ok (.aload_n 0, 1) := by decide +kernel
theorem dX2_addProof_67 : decode cX2_addProof 67 = .ok (.getfield 25, 3) := by decide +kernel
theorem dX2_addProof_70 : decode cX2_addProof 70 = .ok (.getfield 125, 3) := by decide +kernel
theorem dX2_addProof_73 : decode cX2_addProof 73 = .ok (.iload_n 1, 1) := by decide +kernel
theorem dX2_addProof_74 : decode cX2_addProof 74 = .ok (.iconst 0, 1) := by decide +kernel
theorem dX2_addProof_75 : decode cX2_addProof 75 = .ok (.iastore, 1) := by decide +kernel
theorem dX2_addProof_76 : decode cX2_addProof 76 = .ok (.aload_n 0, 1) := by decide +kernel
theorem dX2_addProof_77 : decode cX2_addProof 77 = .ok (.getfield 25, 3) := by decide +kernel
theorem dX2_addProof_80 : decode cX2_addProof 80 = .ok (.getfield 116, 3) := by decide +kernel
theorem dX2_addProof_83 : decode cX2_addProof 83 = .ok (.iload_n 1, 1) := by decide +kernel
theorem dX2_addProof_84 : decode cX2_addProof 84 = .ok (.iaload, 1) := by decide +kernel
theorem dX2_addProof_85 : decode cX2_addProof 85 = .ok (.ireturn, 1) := by decide +kernel
theorem dX2_judge_0 : decode cX2_judge 0 = .ok (.aload_n 0, 1) := by decide +kernel
theorem dX2_judge_1 : decode cX2_judge 1 = .ok (.getfield 25, 3) := by decide +kernel
theorem dX2_judge_4 : decode cX2_judge 4 = .ok (.iload_n 1, 1) := by decide +kernel
theorem dX2_judge_5 : decode cX2_judge 5 = .ok (.invokevirtual 112, 3) := by decide +kernel
theorem dX2_judge_8 : decode cX2_judge 8 = .ok (.ifCond .ne 5, 3) := by decide +kernel
theorem dX2_judge_11 : decode cX2_judge 11 = .ok (.iconst (-1), 1) := by decide +kernel
theorem dX2_judge_12 : decode cX2_judge 12 = .ok (.ireturn, 1) := by decide +kernel
theorem dX2_judge_13 : decode cX2_judge 13 = .ok (.aload_n 0, 1) := by decide +kernel
theorem dX2_judge_14 : decode cX2_judge 14 = .ok (.getfield 25, 3) := by decide +kernel
theorem dX2_judge_17 : decode cX2_judge 17 = .ok (.iload_n 1, 1) := by decide +kernel
theorem dX2_judge_18 : decode cX2_judge 18 = .ok (.invokevirtual 113, 3) := by decide +kernel
theorem dX2_judge_21 : decode cX2_judge 21 = .ok (.ifCond .ne 6, 3) := by decide +kernel
theorem dX2_judge_24 : decode cX2_judge 24 = .ok (.bipush (-5), 2) := by decide +kernel
theorem dX2_judge_26 : decode cX2_judge 26 = .ok (.ireturn, 1) := by decide +kernel
theorem dX2_judge_27 : decode cX2_judge 27 = .ok (.aload_n 0, 1) := by decide +kernel
theorem dX2_judge_28 : decode cX2_judge 28 = .ok (.getfield 25, 3) := by decide +kernel
theorem dX2_judge_31 : decode cX2_judge 31 = .ok (.getfield 128, 3) := by decide +kernel
theorem dX2_judge_34 : decode cX2_judge 34 = .ok (.iload_n 1, 1) := by decide +kernel
theorem dX2_judge_35 : decode cX2_judge 35 = .ok (.aload_n 0, 1) := by decide +kernel
theorem dX2_judge_36 : decode cX2_judge 36 = .ok (.getfield 25, 3) := by decide +kernel
theorem dX2_judge_39 : decode cX2_judge 39 = .ok (.getfield 116, 3) := by decide +kernel
theorem dX2_judge_42 : decode cX2_judge 42 = .ok (.iload_n 1, 1) := by decide +kernel
theorem dX2_judge_43 : decode cX2_judge 43 = .ok (.iaload, 1) := by decide +kernel
theorem dX2_judge_44 : decode cX2_judge 44 = .ok (.aload_n 0, 1) := by decide +kernel
theorem dX2_judge_45 : decode cX2_judge 45 = .ok (.getfield 9, 3) := by decide +kernel
theorem dX2_judge_48 : decode cX2_judge 48 = .ok (.iconst 1, 1) := by decide +kernel
theorem dX2_judge_49 : decode cX2_judge 49 = .ok (.iaload, 1) := by decide +kernel
theorem dX2_judge_50 : decode cX2_judge 50 = .ok (.if_icmp .lt 7, 3) := by decide +kernel
theorem dX2_judge_53 : decode cX2_judge 53 = .ok (.iconst 1, 1) := by decide +kernel
theorem dX2_judge_54 : decode cX2_judge 54 = .ok (.goto 4, 3) := by decide +kernel
theorem dX2_judge_57 : decode cX2_judge 57 = .ok (.iconst 2, 1) := by decide +kernel
theorem dX2_judge_58 : decode cX2_judge 58 = .ok (.iastore, 1) := by decide +kernel
theorem dX2_judge_59 : decode cX2_judge 59 = .ok (.aload_n 0, 1) := by decide +kernel
theorem dX2_judge_60 : decode cX2_judge 60 = .ok (.getfield 25, 3) := by decide +kernel
theorem dX2_judge_63 : decode cX2_judge 63 = .ok (.getfield 128, 3) := by decide +kernel
theorem dX2_judge_66 : decode cX2_judge 66 = .ok (.iload_n 1, 1) := by decide +kernel
theorem dX2_judge_67 : decode cX2_judge 67 = .ok (.iaload, 1) := by decide +kernel
theorem dX2_judge_68 : decode cX2_judge 68 = .ok (.ireturn, 1) := by decide +kernel
theorem dX2_takeBack_0 : decode cX2_takeBack 0 = .ok (.aload_n 0, 1) := by decide +kernel
theorem dX2_takeBack_1 : decode cX2_takeBack 1 = .ok (.getfield 25, 3) := by decide +kernel
theorem dX2_takeBack_4 : decode cX2_takeBack 4 = .ok (.iload_n 1, 1) := by decide +kernel
theorem dX2_takeBack_5 : decode cX2_takeBack 5 = .ok (.invokevirtual 112, 3) := by decide +kernel
theorem dX2_takeBack_8 : decode cX2_takeBack 8 = .ok (.ifCond .ne 5, 3) := by decide +kernel
theorem dX2_takeBack_11 : decode cX2_takeBack 11 = .ok (.iconst (-1), 1) := by decide +kernel
theorem dX2_takeBack_12 : decode cX2_takeBack 12 = .ok (.ireturn, 1) := by decide +kernel
theorem dX2_takeBack_13 : decode cX2_takeBack 13 = .ok (.aload_n 0, 1) := by decide +kernel
theorem dX2_takeBack_14 : decode cX2_takeBack 14 = .ok (.getfield 25, 3) := by decide +kernel
theorem dX2_takeBack_17 : decode cX2_takeBack 17 = .ok (.iload_n 1, 1) := by decide +kernel
theorem dX2_takeBack_18 : decode cX2_takeBack 18 = .ok (.invokevirtual 129, 3) := by decide +kernel
theorem dX2_takeBack_21 : decode cX2_takeBack 21 = .ok (.ifCond .ne 6, 3) := by decide +kernel
theorem dX2_takeBack_24 : decode cX2_takeBack 24 = .ok (.bipush (-5), 2) := by decide +kernel
theorem dX2_takeBack_26 : decode cX2_takeBack 26 = .ok (.ireturn, 1) := by decide +kernel
theorem dX2_takeBack_27 : decode cX2_takeBack 27 = .ok (.aload_n 0, 1) := by decide +kernel
theorem dX2_takeBack_28 : decode cX2_takeBack 28 = .ok (.getfield 25, 3) := by decide +kernel
theorem dX2_takeBack_31 : decode cX2_takeBack 31 = .ok (.getfield 128, 3) := by decide +kernel
theorem dX2_takeBack_34 : decode cX2_takeBack 34 = .ok (.iload_n 1, 1) := by decide +kernel
theorem dX2_takeBack_35 : decode cX2_takeBack 35 = .ok (.iconst 3, 1) := by decide +kernel
theorem dX2_takeBack_36 : decode cX2_takeBack 36 = .ok (.iastore, 1) := by decide +kernel
theorem dX2_takeBack_37 : decode cX2_takeBack 37 = .ok (.aload_n 0, 1) := by decide +kernel
theorem dX2_takeBack_38 : decode cX2_takeBack 38 = .ok (.getfield 25, 3) := by decide +kernel
theorem dX2_takeBack_41 : decode cX2_takeBack 41 = .ok (.aload_n 0, 1) := by decide +kernel
theorem dX2_takeBack_42 : decode cX2_takeBack 42 = .ok (.getfield 25, 3) := by decide +kernel
theorem dX2_takeBack_45 : decode cX2_takeBack 45 = .ok (.getfield 100, 3) := by decide +kernel
theorem dX2_takeBack_48 : decode cX2_takeBack 48 = .ok (.iload_n 1, 1) := by decide +kernel
theorem dX2_takeBack_49 : decode cX2_takeBack 49 = .ok (.iaload, 1) := by decide +kernel
theorem dX2_takeBack_50 : decode cX2_takeBack 50 = .ok (.invokevirtual 93, 3) := by decide +kernel
theorem dX2_takeBack_53 : decode cX2_takeBack 53 = .ok (.invokestatic 79, 3) := by decide +kernel
theorem dX2_takeBack_56 : decode cX2_takeBack 56 = .ok (.ireturn, 1) := by decide +kernel
theorem dX2_shareOut_0 : decode cX2_shareOut 0 = .ok (.aload_n 0, 1) := by decide +kernel
theorem dX2_shareOut_1 : decode cX2_shareOut 1 = .ok (.getfield 18, 3) := by decide +kernel
theorem dX2_shareOut_4 : decode cX2_shareOut 4 = .ok (.iload_n 1, 1) := by decide +kernel
theorem dX2_shareOut_5 : decode cX2_shareOut 5 = .ok (.invokevirtual 68, 3) := by decide +kernel
theorem dX2_shareOut_8 : decode cX2_shareOut 8 = .ok (.ifCond .ne 5, 3) := by decide +kernel
theorem dX2_shareOut_11 : decode cX2_shareOut 11 = .ok (.iconst (-1), 1) := by decide +kernel
theorem dX2_shareOut_12 : decode cX2_shareOut 12 = .ok (.ireturn, 1) := by decide +kernel
theorem dX2_shareOut_13 : decode cX2_shareOut 13 = .ok (.aload_n 0, 1) := by decide +kernel
theorem dX2_shareOut_14 : decode cX2_shareOut 14 = .ok (.getfield 25, 3) := by decide +kernel
theorem dX2_shareOut_17 : decode cX2_shareOut 17 = .ok (.iload_n 1, 1) := by decide +kernel
theorem dX2_shareOut_18 : decode cX2_shareOut 18 = .ok (.invokevirtual 132, 3) := by decide +kernel
theorem dX2_shareOut_21 : decode cX2_shareOut 21 = .ok (.istore_n 2, 1) := by decide +kernel
theorem dX2_shareOut_22 : decode cX2_shareOut 22 = .ok (.aload_n 0, 1) := by decide +kernel
theorem dX2_shareOut_23 : decode cX2_shareOut 23 = .ok (.getfield 18, 3) := by decide +kernel
theorem dX2_shareOut_26 : decode cX2_shareOut 26 = .ok (.iload_n 1, 1) := by decide +kernel
theorem dX2_shareOut_27 : decode cX2_shareOut 27 = .ok (.invokevirtual 109, 3) := by decide +kernel
theorem dX2_shareOut_30 : decode cX2_shareOut 30 = .ok (.ifCond .ne 18, 3) := by decide +kernel
theorem dX2_shareOut_33 : decode cX2_shareOut 33 = .ok (.aload_n 0, 1) := by decide +kernel
theorem dX2_shareOut_34 : decode cX2_shareOut 34 = .ok (.getfield 25, 3) := by decide +kernel
theorem dX2_shareOut_37 : decode cX2_shareOut 37 = .ok (.iload_n 1, 1) := by decide +kernel
theorem dX2_shareOut_38 : decode cX2_shareOut 38 = .ok (.invokevirtual 135, 3) := by decide +kernel
theorem dX2_shareOut_41 : decode cX2_shareOut 41 = .ok (.ifCond .ne 7, 3) := by decide +kernel
theorem dX2_shareOut_44 : decode cX2_shareOut 44 = .ok (.iload_n 2, 1) := by decide +kernel
theorem dX2_shareOut_45 : decode cX2_shareOut 45 = .ok (.ifCond .ne 6, 3) := by decide +kernel
theorem dX2_shareOut_48 : decode cX2_shareOut 48 = .ok (.bipush (-5), 2) := by decide +kernel
theorem dX2_shareOut_50 : decode cX2_shareOut 50 = .ok (.ireturn, 1) := by decide +kernel
theorem dX2_shareOut_51 : decode cX2_shareOut 51 = .ok (.aload_n 0, 1) := by decide +kernel
theorem dX2_shareOut_52 : decode cX2_shareOut 52 = .ok (.iload_n 1, 1) := by decide +kernel
theorem dX2_shareOut_53 : decode cX2_shareOut 53 = .ok (.invokevirtual 138, 3) := by decide +kernel
theorem dX2_shareOut_56 : decode cX2_shareOut 56 = .ok (.istore_n 3, 1) := by decide +kernel
theorem dX2_shareOut_57 : decode cX2_shareOut 57 = .ok (.aload_n 0, 1) := by decide +kernel
theorem dX2_shareOut_58 : decode cX2_shareOut 58 = .ok (.getfield 25, 3) := by decide +kernel
theorem dX2_shareOut_61 : decode cX2_shareOut 61 = .ok (.iload_n 2, 1) := by decide +kernel
theorem dX2_shareOut_62 : decode cX2_shareOut 62 = .ok (.invokevirtual 141, 3) := by decide +kernel
theorem dX2_shareOut_65 : decode cX2_shareOut 65 = .ok (.istore 4, 2) := by decide +kernel
theorem dX2_shareOut_67 : decode cX2_shareOut 67 = .ok (.iconst 0, 1) := by decide +kernel
theorem dX2_shareOut_68 : decode cX2_shareOut 68 = .ok (.istore 5, 2) := by decide +kernel
theorem dX2_shareOut_70 : decode cX2_shareOut 70 = .ok (.iload 5, 2) := by decide +kernel
theorem dX2_shareOut_72 : decode cX2_shareOut 72 = .ok (.aload_n 0, 1) := by decide +kernel
theorem dX2_shareOut_73 : decode cX2_shareOut 73 = .ok (.getfield 25, 3) := by decide +kernel
theorem dX2_shareOut_76 : decode cX2_shareOut 76 = .ok (.getfield 96, 3) := by decide +kernel
theorem dX2_shareOut_79 : decode cX2_shareOut 79 = .ok (.if_icmp .ge 34, 3) := by decide +kernel
theorem dX2_shareOut_82 : decode cX2_shareOut 82 = .ok (.iload_n 2, 1) := by decide +kernel
theorem dX2_shareOut_83 : decode cX2_shareOut 83 = .ok (.iload 5, 2) := by decide +kernel
theorem dX2_shareOut_85 : decode cX2_shareOut 85 = .ok (.invokestatic 144, 3) := by decide +kernel
theorem dX2_shareOut_88 : decode cX2_shareOut 88 = .ok (.ifCond .eq 19, 3) := by decide +kernel
theorem dX2_shareOut_91 : decode cX2_shareOut 91 = .ok (.aload_n 0, 1) := by decide +kernel
theorem dX2_shareOut_92 : decode cX2_shareOut 92 = .ok (.iload 5, 2) := by decide +kernel
theorem dX2_shareOut_94 : decode cX2_shareOut 94 = .ok (.iload_n 3, 1) := by decide +kernel
theorem dX2_shareOut_95 : decode cX2_shareOut 95 = .ok (.iload 4, 2) := by decide +kernel
theorem dX2_shareOut_97 : decode cX2_shareOut 97 = .ok (.iconst 1, 1) := by decide +kernel
theorem dX2_shareOut_98 : decode cX2_shareOut 98 = .ok (.iload 5, 2) := by decide +kernel
theorem dX2_shareOut_100 : decode cX2_shareOut 100 = .ok (.ishl, 1) := by decide +kernel
theorem dX2_shareOut_101 : decode cX2_shareOut 101 = .ok (.invokestatic 148, 3) := by decide +kernel
theorem dX2_shareOut_104 : decode cX2_shareOut 104 = .ok (.invokevirtual 152, 3) := by decide +kernel
theorem dX2_shareOut_107 : decode cX2_shareOut 107 = .ok (.iinc 5 1, 3) := by decide +kernel
theorem dX2_shareOut_110 : decode cX2_shareOut 110 = .ok (.goto (-40), 3) := by decide +kernel
theorem dX2_shareOut_113 : decode cX2_shareOut 113 = .ok (.aload_n 0, 1) := by decide +kernel
theorem dX2_shareOut_114 : decode cX2_shareOut 114 = .ok (.iload_n 1, 1) := by decide +kernel
theorem dX2_shareOut_115 : decode cX2_shareOut 115 = .ok (.iload_n 3, 1) := by decide +kernel
theorem dX2_shareOut_116 : decode cX2_shareOut 116 = .ok (.invokevirtual 156, 3) := by decide +kernel
theorem dX2_shareOut_119 : decode cX2_shareOut 119 = .ok (.iload 4, 2) := by decide +kernel
theorem dX2_shareOut_121 : decode cX2_shareOut 121 = .ok (.invokestatic 79, 3) := by decide +kernel
theorem dX2_shareOut_124 : decode cX2_shareOut 124 = .ok (.ireturn, 1) := by decide +kernel
theorem dX2_coinsToShare_0 : decode cX2_coinsToShare 0 = .ok (.aload_n 0, 1) := by decide +kernel
theorem dX2_coinsToShare_1 : decode cX2_coinsToShare 1 = .ok (.getfield 18, 3) := by decide +kernel
theorem dX2_coinsToShare_4 : decode cX2_coinsToShare 4 = .ok (.getfield 65, 3) := by decide +kernel
theorem dX2_coinsToShare_7 : decode cX2_coinsToShare 7 = .ok (.iload_n 1, 1) := by decide +kernel
theorem dX2_coinsToShare_8 : decode cX2_coinsToShare 8 = .ok (.iaload, 1) := by decide +kernel
theorem dX2_coinsToShare_9 : decode cX2_coinsToShare 9 = .ok (.istore_n 2, 1) := by decide +kernel
theorem dX2_coinsToShare_10 : decode cX2_coinsToShare 10 = .ok (.aload_n 0, 1) := by decide +kernel
theorem dX2_coinsToShare_11 : decode cX2_coinsToShare 11 = .ok (.getfield 18, 3) := by decide +kernel
theorem dX2_coinsToShare_14 : decode cX2_coinsToShare 14 = .ok (.getfield 72, 3) := by decide +kernel
theorem dX2_coinsToShare_17 : decode cX2_coinsToShare 17 = .ok (.iload_n 1, 1) := by decide +kernel
theorem dX2_coinsToShare_18 : decode cX2_coinsToShare 18 = .ok (.iaload, 1) := by decide +kernel
theorem dX2_coinsToShare_19 : decode cX2_coinsToShare 19 = .ok (.iconst 3, 1) := by decide +kernel
theorem dX2_coinsToShare_20 : decode cX2_coinsToShare 20 = .ok (.if_icmp .ne 19, 3) := by decide +kernel
theorem dX2_coinsToShare_23 : decode cX2_coinsToShare 23 = .ok (.iload_n 2, 1) := by decide +kernel
theorem dX2_coinsToShare_24 : decode cX2_coinsToShare 24 = .ok (.iload_n 2, 1) := by decide +kernel
theorem dX2_coinsToShare_25 : decode cX2_coinsToShare 25 = .ok (.aload_n 0, 1) := by decide +kernel
theorem dX2_coinsToShare_26 : decode cX2_coinsToShare 26 = .ok (.getfield 9, 3) := by decide +kernel
theorem dX2_coinsToShare_29 : decode cX2_coinsToShare 29 = .ok (.iconst 4, 1) := by decide +kernel
theorem dX2_coinsToShare_30 : decode cX2_coinsToShare 30 = .ok (.iaload, 1) := by decide +kernel
theorem dX2_coinsToShare_31 : decode cX2_coinsToShare 31 = .ok (.imul, 1) := by decide +kernel
theorem dX2_coinsToShare_32 : decode cX2_coinsToShare 32 = .ok (.bipush 100, 2) := by decide +kernel
theorem dX2_coinsToShare_34 : decode cX2_coinsToShare 34 = .ok (.idiv, 1) := by decide +kernel
theorem dX2_coinsToShare_35 : decode cX2_coinsToShare 35 = .ok (.isub, 1) := by decide +kernel
theorem dX2_coinsToShare_36 : decode cX2_coinsToShare 36 = .ok (.goto 4, 3) := by decide +kernel
theorem dX2_coinsToShare_39 : decode cX2_coinsToShare 39 = .ok (.iload_n 2, 1) := by decide +kernel
theorem dX2_coinsToShare_40 : decode cX2_coinsToShare 40 = .ok (.ireturn, 1) := by decide +kernel
theorem dX2_part_0 : decode cX2_part 0 = .ok (.iload_n 1, 1) := by decide +kernel
theorem dX2_part_1 : decode cX2_part 1 = .ok (.invokestatic 79, 3) := by decide +kernel
theorem dX2_part_4 : decode cX2_part 4 = .ok (.istore_n 3, 1) := by decide +kernel
theorem dX2_part_5 : decode cX2_part 5 = .ok (.iload_n 3, 1) := by decide +kernel
theorem dX2_part_6 : decode cX2_part 6 = .ok (.ifCond .eq 9, 3) := by decide +kernel
theorem dX2_part_9 : decode cX2_part 9 = .ok (.iload_n 1, 1) := by decide +kernel
theorem dX2_part_10 : decode cX2_part 10 = .ok (.iload_n 2, 1) := by decide +kernel
theorem dX2_part_11 : decode cX2_part 11 = .ok (.iand, 1) := by decide +kernel
theorem dX2_part_12 : decode cX2_part 12 = .ok (.ifCond .ne 5, 3) := by decide +kernel
theorem dX2_part_15 : decode cX2_part 15 = .ok (.iconst 0, 1) := by decide +kernel
theorem dX2_part_16 : decode cX2_part 16 = .ok (.ireturn, 1) := by decide +kernel
theorem dX2_part_17 : decode cX2_part 17 = .ok (.iload_n 1, 1) := by decide +kernel
theorem dX2_part_18 : decode cX2_part 18 = .ok (.iload_n 2, 1) := by decide +kernel
theorem dX2_part_19 : decode cX2_part 19 = .ok (.iconst 1, 1) := by decide +kernel
theorem dX2_part_20 : decode cX2_part 20 = .ok (.isub, 1) := by decide +kernel
theorem dX2_part_21 : decode cX2_part 21 = .ok (.iand, 1) := by decide +kernel
theorem dX2_part_22 : decode cX2_part 22 = .ok (.invokestatic 79, 3) := by decide +kernel
theorem dX2_part_25 : decode cX2_part 25 = .ok (.istore 4, 2) := by decide +kernel
theorem dX2_part_27 : decode cX2_part 27 = .ok (.iload_n 0, 1) := by decide +kernel
theorem dX2_part_28 : decode cX2_part 28 = .ok (.iload_n 3, 1) := by decide +kernel
theorem dX2_part_29 : decode cX2_part 29 = .ok (.idiv, 1) := by decide +kernel
theorem dX2_part_30 : decode cX2_part 30 = .ok (.iload 4, 2) := by decide +kernel
theorem dX2_part_32 : decode cX2_part 32 = .ok (.iload_n 0, 1) := by decide +kernel
theorem dX2_part_33 : decode cX2_part 33 = .ok (.iload_n 3, 1) := by decide +kernel
theorem dX2_part_34 : decode cX2_part 34 = .ok (.irem, 1) := by decide +kernel
theorem dX2_part_35 : decode cX2_part 35 = .ok (.if_icmp .ge 7, 3) := by decide +kernel
theorem dX2_part_38 : decode cX2_part 38 = .ok (.iconst 1, 1) := by decide +kernel
theorem dX2_part_39 : decode cX2_part 39 = .ok (.goto 4, 3) := by decide +kernel
theorem dX2_part_42 : decode cX2_part 42 = .ok (.iconst 0, 1) := by decide +kernel
theorem dX2_part_43 : decode cX2_part 43 = .ok (.iadd, 1) := by decide +kernel
theorem dX2_part_44 : decode cX2_part 44 = .ok (.ireturn, 1) := by decide +kernel
theorem dX2_settleClaim_0 : decode cX2_settleClaim 0 = .ok (.aload_n 0, 1) := by decide +kernel
theorem dX2_settleClaim_1 : decode cX2_settleClaim 1 = .ok (.getfield 25, 3) := by decide +kernel
theorem dX2_settleClaim_4 : decode cX2_settleClaim 4 = .ok (.getfield 97, 3) := by decide +kernel
theorem dX2_settleClaim_7 : decode cX2_settleClaim 7 = .ok (.iload_n 1, 1) := by decide +kernel
theorem dX2_settleClaim_8 : decode cX2_settleClaim 8 = .ok (.iaload, 1) := by decide +kernel
theorem dX2_settleClaim_9 : decode cX2_settleClaim 9 = .ok (.istore_n 3, 1) := by decide +kernel
theorem dX2_settleClaim_10 : decode cX2_settleClaim 10 = .ok (.iload_n 2, 1) := by decide +kernel
theorem dX2_settleClaim_11 : decode cX2_settleClaim 11 = .ok (.ifCond .le 40, 3) := by decide +kernel
theorem dX2_settleClaim_14 : decode cX2_settleClaim 14 = .ok (.aload_n 0, 1) := by decide +kernel
theorem dX2_settleClaim_15 : decode cX2_settleClaim 15 = .ok (.iload_n 3, 1) := by decide +kernel
theorem dX2_settleClaim_16 : decode cX2_settleClaim 16 = .ok (.invokevirtual 159, 3) := by decide +kernel
theorem dX2_settleClaim_19 : decode cX2_settleClaim 19 = .ok (.ifCond .ne 32, 3) := by decide +kernel
theorem dX2_settleClaim_22 : decode cX2_settleClaim 22 = .ok (.aload_n 0, 1) := by decide +kernel
theorem dX2_settleClaim_23 : decode cX2_settleClaim 23 = .ok (.getfield 32, 3) := by decide +kernel
theorem dX2_settleClaim_26 : decode cX2_settleClaim 26 = .ok (.bipush 16, 2) := by decide +kernel
theorem dX2_settleClaim_28 : decode cX2_settleClaim 28 = .ok (.if_icmp .ge 23, 3) := by decide +kernel
theorem dX2_settleClaim_31 : decode cX2_settleClaim 31 = .ok (.aload_n 0, 1) := by decide +kernel
theorem dX2_settleClaim_32 : decode cX2_settleClaim 32 = .ok (.getfield 29, 3) := by decide +kernel
theorem dX2_settleClaim_35 : decode cX2_settleClaim 35 = .ok (.aload_n 0, 1) := by decide +kernel
theorem dX2_settleClaim_36 : decode cX2_settleClaim 36 = .ok (.getfield 32, 3) := by decide +kernel
theorem dX2_settleClaim_39 : decode cX2_settleClaim 39 = .ok (.iload_n 3, 1) := by decide +kernel
theorem dX2_settleClaim_40 : decode cX2_settleClaim 40 = .ok (.iastore, 1) := by decide +kernel
theorem dX2_settleClaim_41 : decode cX2_settleClaim 41 = .ok (.aload_n 0, 1) := by decide +kernel
theorem dX2_settleClaim_42 : decode cX2_settleClaim 42 = .ok (.dup, 1) := by decide +kernel
theorem dX2_settleClaim_43 : decode cX2_settleClaim 43 = .ok (.getfield 32, 3) := by decide +kernel
theorem dX2_settleClaim_46 : decode cX2_settleClaim 46 = .ok (.iconst 1, 1) := by decide +kernel
theorem dX2_settleClaim_47 : decode cX2_settleClaim 47 = .ok (.iadd, 1) := by decide +kernel
theorem dX2_settleClaim_48 : decode cX2_settleClaim 48 = .ok (.putfield 32, 3) := by decide +kernel
theorem dX2_settleClaim_51 : decode cX2_settleClaim 51 = .ok (.aload_n 0, 1) := by decide +kernel
theorem dX2_settleClaim_52 : decode cX2_settleClaim 52 = .ok (.getfield 25, 3) := by decide +kernel
theorem dX2_settleClaim_55 : decode cX2_settleClaim 55 = .ok (.getfield 162, 3) := by decide +kernel
theorem dX2_settleClaim_58 : decode cX2_settleClaim 58 = .ok (.iload_n 1, 1) := by decide +kernel
theorem dX2_settleClaim_59 : decode cX2_settleClaim 59 = .ok (.iload_n 2, 1) := by decide +kernel
theorem dX2_settleClaim_60 : decode cX2_settleClaim 60 = .ok (.iastore, 1) := by decide +kernel
theorem dX2_settleClaim_61 : decode cX2_settleClaim 61 = .ok (.aload_n 0, 1) := by decide +kernel
theorem dX2_settleClaim_62 : decode cX2_settleClaim 62 = .ok (.getfield 25, 3) := by decide +kernel
theorem dX2_settleClaim_65 : decode cX2_settleClaim 65 = .ok (.getfield 128, 3) := by decide +kernel
theorem dX2_settleClaim_68 : decode cX2_settleClaim 68 = .ok (.iload_n 1, 1) := by decide +kernel
theorem dX2_settleClaim_69 : decode cX2_settleClaim 69 = .ok (.iconst 5, 1) := by decide +kernel
theorem dX2_settleClaim_70 : decode cX2_settleClaim 70 = .ok (.iastore, 1) := by decide +kernel
theorem dX2_settleClaim_71 : decode cX2_settleClaim 71 = .ok (.return_, 1) := by decide +kernel
theorem dX2_leaveOffice_0 : decode cX2_leaveOffice 0 = .ok (.aload_n 0, 1) := by decide +kernel
theorem dX2_leaveOffice_1 : decode cX2_leaveOffice 1 = .ok (.getfield 18, 3) := by decide +kernel
theorem dX2_leaveOffice_4 : decode cX2_leaveOffice 4 = .ok (.getfield 72, 3) := by decide +kernel
theorem dX2_leaveOffice_7 : decode cX2_leaveOffice 7 = .ok (.iload_n 1, 1) := by decide +kernel
theorem dX2_leaveOffice_8 : decode cX2_leaveOffice 8 = .ok (.iaload, 1) := by decide +kernel
theorem dX2_leaveOffice_9 : decode cX2_leaveOffice 9 = .ok (.iconst 3, 1) := by decide +kernel
theorem dX2_leaveOffice_10 : decode cX2_leaveOffice 10 = .ok (.if_icmp .ne 26, 3) := by decide +kernel
theorem dX2_leaveOffice_13 : decode cX2_leaveOffice 13 = .ok (.aload_n 0, 1) := by decide +kernel
theorem dX2_leaveOffice_14 : decode cX2_leaveOffice 14 = .ok (.dup, 1) := by decide +kernel
theorem dX2_leaveOffice_15 : decode cX2_leaveOffice 15 = .ok (.getfield 36, 3) := by decide +kernel
theorem dX2_leaveOffice_18 : decode cX2_leaveOffice 18 = .ok (.iload_n 2, 1) := by decide +kernel
theorem dX2_leaveOffice_19 : decode cX2_leaveOffice 19 = .ok (.isub, 1) := by decide +kernel
theorem dX2_leaveOffice_20 : decode cX2_leaveOffice 20 = .ok (.putfield 36, 3) := by decide +kernel
theorem dX2_leaveOffice_23 : decode cX2_leaveOffice 23 = .ok (.aload_n 0, 1) := by decide +kernel
theorem dX2_leaveOffice_24 : decode cX2_leaveOffice 24 = .ok (.getfield 18, 3) := by decide +kernel
theorem dX2_leaveOffice_27 : decode cX2_leaveOffice 27 = .ok (.getfield 72, 3) := by decide +kernel
theorem dX2_leaveOffice_30 : decode cX2_leaveOffice 30 = .ok (.iload_n 1, 1) := by decide +kernel
theorem dX2_leaveOffice_31 : decode cX2_leaveOffice 31 = .ok (.iconst 4, 1) := by decide +kernel
theorem dX2_leaveOffice_32 : decode cX2_leaveOffice 32 = .ok (.iastore, 1) := by decide +kernel
theorem dX2_leaveOffice_33 : decode cX2_leaveOffice 33 = .ok (.goto 13, 3) := by decide +kernel
theorem dX2_leaveOffice_36 : decode cX2_leaveOffice 36 = .ok (.aload_n 0, 1) := by decide +kernel
theorem dX2_leaveOffice_37 : decode cX2_leaveOffice 37 = .ok (.getfield 18, 3) := by decide +kernel
theorem dX2_leaveOffice_40 : decode cX2_leaveOffice 40 = .ok (.getfield 72, 3) := by decide +kernel
theorem dX2_leaveOffice_43 : decode cX2_leaveOffice 43 = .ok (.iload_n 1, 1) := by decide +kernel
theorem dX2_leaveOffice_44 : decode cX2_leaveOffice 44 = .ok (.iconst 2, 1) := by decide +kernel
theorem dX2_leaveOffice_45 : decode cX2_leaveOffice 45 = .ok (.iastore, 1) := by decide +kernel
theorem dX2_leaveOffice_46 : decode cX2_leaveOffice 46 = .ok (.return_, 1) := by decide +kernel
theorem dX2_passDays_0 : decode cX2_passDays 0 = .ok (.iload_n 1, 1) := by decide +kernel
theorem dX2_passDays_1 : decode cX2_passDays 1 = .ok (.iconst 1, 1) := by decide +kernel
theorem dX2_passDays_2 : decode cX2_passDays 2 = .ok (.if_icmp .lt 10, 3) := by decide +kernel
theorem dX2_passDays_5 : decode cX2_passDays 5 = .ok (.iload_n 1, 1) := by decide +kernel
theorem dX2_passDays_6 : decode cX2_passDays 6 = .ok (.sipush 400, 3) := by decide +kernel
theorem dX2_passDays_9 : decode cX2_passDays 9 = .ok (.if_icmp .le 6, 3) := by decide +kernel
theorem dX2_passDays_12 : decode cX2_passDays 12 = .ok (.bipush (-2), 2) := by decide +kernel
theorem dX2_passDays_14 : decode cX2_passDays 14 = .ok (.ireturn, 1) := by decide +kernel
theorem dX2_passDays_15 : decode cX2_passDays 15 = .ok (.aload_n 0, 1) := by decide +kernel
theorem dX2_passDays_16 : decode cX2_passDays 16 = .ok (.getfield 39, 3) := by decide +kernel
theorem dX2_passDays_19 : decode cX2_passDays 19 = .ok (.iload_n 1, 1) := by decide +kernel
theorem dX2_passDays_20 : decode cX2_passDays 20 = .ok (.iadd, 1) := by decide +kernel
theorem dX2_passDays_21 : decode cX2_passDays 21 = .ok (.sipush 9999, 3) := by decide +kernel
theorem dX2_passDays_24 : decode cX2_passDays 24 = .ok (.if_icmp .le 6, 3) := by decide +kernel
theorem dX2_passDays_27 : decode cX2_passDays 27 = .ok (.bipush (-5), 2) := by decide +kernel
theorem dX2_passDays_29 : decode cX2_passDays 29 = .ok (.ireturn, 1) := by decide +kernel
theorem dX2_passDays_30 : decode cX2_passDays 30 = .ok (.iconst 0, 1) := by decide +kernel
theorem dX2_passDays_31 : decode cX2_passDays 31 = .ok (.istore_n 2, 1) := by decide +kernel
theorem dX2_passDays_32 : decode cX2_passDays 32 = .ok (.iconst 0, 1) := by decide +kernel
theorem dX2_passDays_33 : decode cX2_passDays 33 = .ok (.istore_n 3, 1) := by decide +kernel
theorem dX2_passDays_34 : decode cX2_passDays 34 = .ok (.iload_n 3, 1) := by decide +kernel
theorem dX2_passDays_35 : decode cX2_passDays 35 = .ok (.iload_n 1, 1) := by decide +kernel
theorem dX2_passDays_36 : decode cX2_passDays 36 = .ok (.if_icmp .ge 16, 3) := by decide +kernel
theorem dX2_passDays_39 : decode cX2_passDays 39 = .ok (.iload_n 2, 1) := by decide +kernel
theorem dX2_passDays_40 : decode cX2_passDays 40 = .ok (.aload_n 0, 1) := by decide +kernel
theorem dX2_passDays_41 : decode cX2_passDays 41 = .ok (.invokevirtual 165, 3) := by decide +kernel
theorem dX2_passDays_44 : decode cX2_passDays 44 = .ok (.iadd, 1) := by decide +kernel
theorem dX2_passDays_45 : decode cX2_passDays 45 = .ok (.istore_n 2, 1) := by decide +kernel
theorem dX2_passDays_46 : decode cX2_passDays 46 = .ok (.iinc 3 1, 3) := by decide +kernel
theorem dX2_passDays_49 : decode cX2_passDays 49 = .ok (.goto (-15), 3) := by decide +kernel
theorem dX2_passDays_52 : decode cX2_passDays 52 = .ok (.iload_n 2, 1) := by decide +kernel
theorem dX2_passDays_53 : decode cX2_passDays 53 = .ok (.ireturn, 1) := by decide +kernel
theorem dX2_passDay_0 : decode cX2_passDay 0 = .ok (.aload_n 0, 1) := by decide +kernel
theorem dX2_passDay_1 : decode cX2_passDay 1 = .ok (.getfield 25, 3) := by decide +kernel
theorem dX2_passDay_4 : decode cX2_passDay 4 = .ok (.aload_n 0, 1) := by decide +kernel
theorem dX2_passDay_5 : decode cX2_passDay 5 = .ok (.getfield 9, 3) := by decide +kernel
theorem dX2_passDay_8 : decode cX2_passDay 8 = .ok (.iconst 2, 1) := by decide +kernel
theorem dX2_passDay_9 : decode cX2_passDay 9 = .ok (.iaload, 1) := by decide +kernel
theorem dX2_passDay_10 : decode cX2_passDay 10 = .ok (.invokevirtual 169, 3) := by decide +kernel
theorem dX2_passDay_13 : decode cX2_passDay 13 = .ok (.istore_n 1, 1) := by decide +kernel
theorem dX2_passDay_14 : decode cX2_passDay 14 = .ok (.iconst 0, 1) := by decide +kernel
theorem dX2_passDay_15 : decode cX2_passDay 15 = .ok (.istore_n 2, 1) := by decide +kernel
theorem dX2_passDay_16 : decode cX2_passDay 16 = .ok (.iconst 0, 1) := by decide +kernel
theorem dX2_passDay_17 : decode cX2_passDay 17 = .ok (.istore_n 3, 1) := by decide +kernel
theorem dX2_passDay_18 : decode cX2_passDay 18 = .ok (.iload_n 3, 1) := by decide +kernel
theorem dX2_passDay_19 : decode cX2_passDay 19 = .ok (.aload_n 0, 1) := by decide +kernel
theorem dX2_passDay_20 : decode cX2_passDay 20 = .ok (.getfield 18, 3) := by decide +kernel
theorem dX2_passDay_23 : decode cX2_passDay 23 = .ok (.getfield 62, 3) := by decide +kernel
theorem dX2_passDay_26 : decode cX2_passDay 26 = .ok (.if_icmp .ge 67, 3) := by decide +kernel
theorem dX2_passDay_29 : decode cX2_passDay 29 = .ok (.aload_n 0, 1) := by decide +kernel
theorem dX2_passDay_30 : decode cX2_passDay 30 = .ok (.getfield 18, 3) := by decide +kernel
theorem dX2_passDay_33 : decode cX2_passDay 33 = .ok (.getfield 72, 3) := by decide +kernel
theorem dX2_passDay_36 : decode cX2_passDay 36 = .ok (.iload_n 3, 1) := by decide +kernel
theorem dX2_passDay_37 : decode cX2_passDay 37 = .ok (.iaload, 1) := by decide +kernel
theorem dX2_passDay_38 : decode cX2_passDay 38 = .ok (.iconst 3, 1) := by decide +kernel
theorem dX2_passDay_39 : decode cX2_passDay 39 = .ok (.if_icmp .ne 19, 3) := by decide +kernel
theorem dX2_passDay_42 : decode cX2_passDay 42 = .ok (.aload_n 0, 1) := by decide +kernel
theorem dX2_passDay_43 : decode cX2_passDay 43 = .ok (.getfield 18, 3) := by decide +kernel
theorem dX2_passDay_46 : decode cX2_passDay 46 = .ok (.getfield 106, 3) := by decide +kernel
theorem dX2_passDay_49 : decode cX2_passDay 49 = .ok (.iload_n 3, 1) := by decide +kernel
theorem dX2_passDay_50 : decode cX2_passDay 50 = .ok (.dup2, 1) := by decide +kernel
theorem dX2_passDay_51 : decode cX2_passDay 51 = .ok (.iaload, 1) := by decide +kernel
theorem dX2_passDay_52 : decode cX2_passDay 52 = .ok (.iconst 1, 1) := by decide +kernel
theorem dX2_passDay_53 : decode cX2_passDay 53 = .ok (.iadd, 1) := by decide +kernel
theorem dX2_passDay_54 : decode cX2_passDay 54 = .ok (.iastore, 1) := by decide +kernel
theorem dX2_passDay_55 : decode cX2_passDay 55 = .ok (.goto 32, 3) := by decide +kernel
theorem dX2_passDay_58 : decode cX2_passDay 58 = .ok (.aload_n 0, 1) := by decide +kernel
theorem dX2_passDay_59 : decode cX2_passDay 59 = .ok (.getfield 18, 3) := by decide +kernel
theorem dX2_passDay_62 : decode cX2_passDay 62 = .ok (.getfield 72, 3) := by decide +kernel
theorem dX2_passDay_65 : decode cX2_passDay 65 = .ok (.iload_n 3, 1) := by decide +kernel
theorem dX2_passDay_66 : decode cX2_passDay 66 = .ok (.iaload, 1) := by decide +kernel
theorem dX2_passDay_67 : decode cX2_passDay 67 = .ok (.iconst 1, 1) := by decide +kernel
theorem dX2_passDay_68 : decode cX2_passDay 68 = .ok (.if_icmp .ne 19, 3) := by decide +kernel
theorem dX2_passDay_71 : decode cX2_passDay 71 = .ok (.iload_n 1, 1) := by decide +kernel
theorem dX2_passDay_72 : decode cX2_passDay 72 = .ok (.iload_n 3, 1) := by decide +kernel
theorem dX2_passDay_73 : decode cX2_passDay 73 = .ok (.invokestatic 144, 3) := by decide +kernel
theorem dX2_passDay_76 : decode cX2_passDay 76 = .ok (.ifCond .ne 11, 3) := by decide +kernel
theorem dX2_passDay_79 : decode cX2_passDay 79 = .ok (.iload_n 2, 1) := by decide +kernel
theorem dX2_passDay_80 : decode cX2_passDay 80 = .ok (.aload_n 0, 1) := by decide +kernel
theorem dX2_passDay_81 : decode cX2_passDay 81 = .ok (.iload_n 3, 1) := by decide +kernel
theorem dX2_passDay_82 : decode cX2_passDay 82 = .ok (.invokevirtual 172, 3) := by decide +kernel
theorem dX2_passDay_85 : decode cX2_passDay 85 = .ok (.iadd, 1) := by decide +kernel
theorem dX2_passDay_86 : decode cX2_passDay 86 = .ok (.istore_n 2, 1) := by decide +kernel
theorem dX2_passDay_87 : decode cX2_passDay 87 = .ok (.iinc 3 1, 3) := by decide +kernel
theorem dX2_passDay_90 : decode cX2_passDay 90 = .ok (.goto (-72), 3) := by decide +kernel
theorem dX2_passDay_93 : decode cX2_passDay 93 = .ok (.aload_n 0, 1) := by decide +kernel
theorem dX2_passDay_94 : decode cX2_passDay 94 = .ok (.dup, 1) := by decide +kernel
theorem dX2_passDay_95 : decode cX2_passDay 95 = .ok (.getfield 39, 3) := by decide +kernel
theorem dX2_passDay_98 : decode cX2_passDay 98 = .ok (.iconst 1, 1) := by decide +kernel
theorem dX2_passDay_99 : decode cX2_passDay 99 = .ok (.iadd, 1) := by decide +kernel
theorem dX2_passDay_100 : decode cX2_passDay 100 = .ok (.putfield 39, 3) := by decide +kernel
theorem dX2_passDay_103 : decode cX2_passDay 103 = .ok (.iload_n 2, 1) := by decide +kernel
theorem dX2_passDay_104 : decode cX2_passDay 104 = .ok (.ireturn, 1) := by decide +kernel
theorem dX2_countDay_0 : decode cX2_countDay 0 = .ok (.aload_n 0, 1) := by decide +kernel
theorem dX2_countDay_1 : decode cX2_countDay 1 = .ok (.getfield 18, 3) := by decide +kernel
theorem dX2_countDay_4 : decode cX2_countDay 4 = .ok (.getfield 175, 3) := by decide +kernel
theorem dX2_countDay_7 : decode cX2_countDay 7 = .ok (.iload_n 1, 1) := by decide +kernel
theorem dX2_countDay_8 : decode cX2_countDay 8 = .ok (.dup2, 1) := by decide +kernel
theorem dX2_countDay_9 : decode cX2_countDay 9 = .ok (.iaload, 1) := by decide +kernel
theorem dX2_countDay_10 : decode cX2_countDay 10 = .ok (.iconst 1, 1) := by decide +kernel
theorem dX2_countDay_11 : decode cX2_countDay 11 = .ok (.iadd, 1) := by decide +kernel
theorem dX2_countDay_12 : decode cX2_countDay 12 = .ok (.iastore, 1) := by decide +kernel
theorem dX2_countDay_13 : decode cX2_countDay 13 = .ok (.aload_n 0, 1) := by decide +kernel
theorem dX2_countDay_14 : decode cX2_countDay 14 = .ok (.getfield 18, 3) := by decide +kernel
theorem dX2_countDay_17 : decode cX2_countDay 17 = .ok (.getfield 175, 3) := by decide +kernel
theorem dX2_countDay_20 : decode cX2_countDay 20 = .ok (.iload_n 1, 1) := by decide +kernel
theorem dX2_countDay_21 : decode cX2_countDay 21 = .ok (.iaload, 1) := by decide +kernel
theorem dX2_countDay_22 : decode cX2_countDay 22 = .ok (.aload_n 0, 1) := by decide +kernel
theorem dX2_countDay_23 : decode cX2_countDay 23 = .ok (.getfield 9, 3) := by decide +kernel
theorem dX2_countDay_26 : decode cX2_countDay 26 = .ok (.iconst 0, 1) := by decide +kernel
theorem dX2_countDay_27 : decode cX2_countDay 27 = .ok (.iaload, 1) := by decide +kernel
theorem dX2_countDay_28 : decode cX2_countDay 28 = .ok (.if_icmp .ge 5, 3) := by decide +kernel
theorem dX2_countDay_31 : decode cX2_countDay 31 = .ok (.iconst 0, 1) := by decide +kernel
theorem dX2_countDay_32 : decode cX2_countDay 32 = .ok (.ireturn, 1) := by decide +kernel
theorem dX2_countDay_33 : decode cX2_countDay 33 = .ok (.aload_n 0, 1) := by decide +kernel
theorem dX2_countDay_34 : decode cX2_countDay 34 = .ok (.getfield 18, 3) := by decide +kernel
theorem dX2_countDay_37 : decode cX2_countDay 37 = .ok (.getfield 72, 3) := by decide +kernel
theorem dX2_countDay_40 : decode cX2_countDay 40 = .ok (.iload_n 1, 1) := by decide +kernel
theorem dX2_countDay_41 : decode cX2_countDay 41 = .ok (.iconst 3, 1) := by decide +kernel
theorem dX2_countDay_42 : decode cX2_countDay 42 = .ok (.iastore, 1) := by decide +kernel
theorem dX2_countDay_43 : decode cX2_countDay 43 = .ok (.aload_n 0, 1) := by decide +kernel
theorem dX2_countDay_44 : decode cX2_countDay 44 = .ok (.dup, 1) := by decide +kernel
theorem dX2_countDay_45 : decode cX2_countDay 45 = .ok (.getfield 36, 3) := by decide +kernel
theorem dX2_countDay_48 : decode cX2_countDay 48 = .ok (.aload_n 0, 1) := by decide +kernel
theorem dX2_countDay_49 : decode cX2_countDay 49 = .ok (.getfield 18, 3) := by decide +kernel
theorem dX2_countDay_52 : decode cX2_countDay 52 = .ok (.getfield 65, 3) := by decide +kernel
theorem dX2_countDay_55 : decode cX2_countDay 55 = .ok (.iload_n 1, 1) := by decide +kernel
theorem dX2_countDay_56 : decode cX2_countDay 56 = .ok (.iaload, 1) := by decide +kernel
theorem dX2_countDay_57 : decode cX2_countDay 57 = .ok (.iadd, 1) := by decide +kernel
theorem dX2_countDay_58 : decode cX2_countDay 58 = .ok (.putfield 36, 3) := by decide +kernel
theorem dX2_countDay_61 : decode cX2_countDay 61 = .ok (.iconst 1, 1) := by decide +kernel
theorem dX2_countDay_62 : decode cX2_countDay 62 = .ok (.ireturn, 1) := by decide +kernel
theorem dX2_aboutLot_0 : decode cX2_aboutLot 0 = .ok (.aload_n 0, 1) := by decide +kernel
theorem dX2_aboutLot_1 : decode cX2_aboutLot 1 = .ok (.getfield 18, 3) := by decide +kernel
theorem dX2_aboutLot_4 : decode cX2_aboutLot 4 = .ok (.iload_n 1, 1) := by decide +kernel
theorem dX2_aboutLot_5 : decode cX2_aboutLot 5 = .ok (.invokevirtual 68, 3) := by decide +kernel
theorem dX2_aboutLot_8 : decode cX2_aboutLot 8 = .ok (.ifCond .ne 5, 3) := by decide +kernel
theorem dX2_aboutLot_11 : decode cX2_aboutLot 11 = .ok (.iconst (-1), 1) := by decide +kernel
theorem dX2_aboutLot_12 : decode cX2_aboutLot 12 = .ok (.ireturn, 1) := by decide +kernel
theorem dX2_aboutLot_13 : decode cX2_aboutLot 13 = .ok (.iload_n 2, 1) := by decide +kernel
theorem dX2_aboutLot_14 : decode cX2_aboutLot 14 = .ok (.tableswitch 116 0 6 #[42, 52, 62, 72, 82, 91, 100], 42) := by decide +kernel
theorem dX2_aboutLot_56 : decode cX2_aboutLot 56 = .ok (.aload_n 0, 1) := by decide +kernel
theorem dX2_aboutLot_57 : decode cX2_aboutLot 57 = .ok (.getfield 18, 3) := by decide +kernel
theorem dX2_aboutLot_60 : decode cX2_aboutLot 60 = .ok (.getfield 65, 3) := by decide +kernel
theorem dX2_aboutLot_63 : decode cX2_aboutLot 63 = .ok (.iload_n 1, 1) := by decide +kernel
theorem dX2_aboutLot_64 : decode cX2_aboutLot 64 = .ok (.iaload, 1) := by decide +kernel
theorem dX2_aboutLot_65 : decode cX2_aboutLot 65 = .ok (.ireturn, 1) := by decide +kernel
theorem dX2_aboutLot_66 : decode cX2_aboutLot 66 = .ok (.aload_n 0, 1) := by decide +kernel
theorem dX2_aboutLot_67 : decode cX2_aboutLot 67 = .ok (.getfield 18, 3) := by decide +kernel
theorem dX2_aboutLot_70 : decode cX2_aboutLot 70 = .ok (.getfield 72, 3) := by decide +kernel
theorem dX2_aboutLot_73 : decode cX2_aboutLot 73 = .ok (.iload_n 1, 1) := by decide +kernel
theorem dX2_aboutLot_74 : decode cX2_aboutLot 74 = .ok (.iaload, 1) := by decide +kernel
theorem dX2_aboutLot_75 : decode cX2_aboutLot 75 = .ok (.ireturn, 1) := by decide +kernel
theorem dX2_aboutLot_76 : decode cX2_aboutLot 76 = .ok (.aload_n 0, 1) := by decide +kernel
theorem dX2_aboutLot_77 : decode cX2_aboutLot 77 = .ok (.getfield 18, 3) := by decide +kernel
theorem dX2_aboutLot_80 : decode cX2_aboutLot 80 = .ok (.getfield 175, 3) := by decide +kernel
theorem dX2_aboutLot_83 : decode cX2_aboutLot 83 = .ok (.iload_n 1, 1) := by decide +kernel
theorem dX2_aboutLot_84 : decode cX2_aboutLot 84 = .ok (.iaload, 1) := by decide +kernel
theorem dX2_aboutLot_85 : decode cX2_aboutLot 85 = .ok (.ireturn, 1) := by decide +kernel
theorem dX2_aboutLot_86 : decode cX2_aboutLot 86 = .ok (.aload_n 0, 1) := by decide +kernel
theorem dX2_aboutLot_87 : decode cX2_aboutLot 87 = .ok (.getfield 18, 3) := by decide +kernel
theorem dX2_aboutLot_90 : decode cX2_aboutLot 90 = .ok (.getfield 106, 3) := by decide +kernel
theorem dX2_aboutLot_93 : decode cX2_aboutLot 93 = .ok (.iload_n 1, 1) := by decide +kernel
theorem dX2_aboutLot_94 : decode cX2_aboutLot 94 = .ok (.iaload, 1) := by decide +kernel
theorem dX2_aboutLot_95 : decode cX2_aboutLot 95 = .ok (.ireturn, 1) := by decide +kernel
theorem dX2_aboutLot_96 : decode cX2_aboutLot 96 = .ok (.aload_n 0, 1) := by decide +kernel
theorem dX2_aboutLot_97 : decode cX2_aboutLot 97 = .ok (.getfield 25, 3) := by decide +kernel
theorem dX2_aboutLot_100 : decode cX2_aboutLot 100 = .ok (.iload_n 1, 1) := by decide +kernel
theorem dX2_aboutLot_101 : decode cX2_aboutLot 101 = .ok (.invokevirtual 93, 3) := by decide +kernel
theorem dX2_aboutLot_104 : decode cX2_aboutLot 104 = .ok (.ireturn, 1) := by decide +kernel
theorem dX2_aboutLot_105 : decode cX2_aboutLot 105 = .ok (.aload_n 0, 1) := by decide +kernel
theorem dX2_aboutLot_106 : decode cX2_aboutLot 106 = .ok (.getfield 25, 3) := by decide +kernel
theorem dX2_aboutLot_109 : decode cX2_aboutLot 109 = .ok (.iload_n 1, 1) := by decide +kernel
theorem dX2_aboutLot_110 : decode cX2_aboutLot 110 = .ok (.invokevirtual 178, 3) := by decide +kernel
theorem dX2_aboutLot_113 : decode cX2_aboutLot 113 = .ok (.ireturn, 1) := by decide +kernel
theorem dX2_aboutLot_114 : decode cX2_aboutLot 114 = .ok (.aload_n 0, 1) := by decide +kernel
theorem dX2_aboutLot_115 : decode cX2_aboutLot 115 = .ok (.getfield 25, 3) := by decide +kernel
theorem dX2_aboutLot_118 : decode cX2_aboutLot 118 = .ok (.aload_n 0, 1) := by decide +kernel
theorem dX2_aboutLot_119 : decode cX2_aboutLot 119 = .ok (.getfield 25, 3) := by decide +kernel
theorem dX2_aboutLot_122 : decode cX2_aboutLot 122 = .ok (.iload_n 1, 1) := by decide +kernel
theorem dX2_aboutLot_123 : decode cX2_aboutLot 123 = .ok (.invokevirtual 132, 3) := by decide +kernel
theorem dX2_aboutLot_126 : decode cX2_aboutLot 126 = .ok (.invokevirtual 181, 3) := by decide +kernel
theorem dX2_aboutLot_129 : decode cX2_aboutLot 129 = .ok (.ireturn, 1) := by decide +kernel
theorem dX2_aboutLot_130 : decode cX2_aboutLot 130 = .ok (.bipush (-2), 2) := by decide +kernel
theorem dX2_aboutLot_132 : decode cX2_aboutLot 132 = .ok (.ireturn, 1) := by decide +kernel
theorem dX2_aboutClaim_0 : decode cX2_aboutClaim 0 = .ok (.aload_n 0, 1) := by decide +kernel
theorem dX2_aboutClaim_1 : decode cX2_aboutClaim 1 = .ok (.getfield 25, 3) := by decide +kernel
theorem dX2_aboutClaim_4 : decode cX2_aboutClaim 4 = .ok (.iload_n 1, 1) := by decide +kernel
theorem dX2_aboutClaim_5 : decode cX2_aboutClaim 5 = .ok (.invokevirtual 112, 3) := by decide +kernel
theorem dX2_aboutClaim_8 : decode cX2_aboutClaim 8 = .ok (.ifCond .ne 5, 3) := by decide +kernel
theorem dX2_aboutClaim_11 : decode cX2_aboutClaim 11 = .ok (.iconst (-1), 1) := by decide +kernel
theorem dX2_aboutClaim_12 : decode cX2_aboutClaim 12 = .ok (.ireturn, 1) := by decide +kernel
theorem dX2_aboutClaim_13 : decode cX2_aboutClaim 13 = .ok (.iload_n 2, 1) := by decide +kernel
theorem dX2_aboutClaim_14 : decode cX2_aboutClaim 14 = .ok (.tableswitch 112 0 6 #[42, 52, 62, 72, 82, 92, 102], 42) := by decide +kernel
theorem dX2_aboutClaim_56 : decode cX2_aboutClaim 56 = .ok (.aload_n 0, 1) := by decide +kernel
theorem dX2_aboutClaim_57 : decode cX2_aboutClaim 57 = .ok (.getfield 25, 3) := by decide +kernel
theorem dX2_aboutClaim_60 : decode cX2_aboutClaim 60 = .ok (.getfield 97, 3) := by decide +kernel
theorem dX2_aboutClaim_63 : decode cX2_aboutClaim 63 = .ok (.iload_n 1, 1) := by decide +kernel
theorem dX2_aboutClaim_64 : decode cX2_aboutClaim 64 = .ok (.iaload, 1) := by decide +kernel
theorem dX2_aboutClaim_65 : decode cX2_aboutClaim 65 = .ok (.ireturn, 1) := by decide +kernel
theorem dX2_aboutClaim_66 : decode cX2_aboutClaim 66 = .ok (.aload_n 0, 1) := by decide +kernel
theorem dX2_aboutClaim_67 : decode cX2_aboutClaim 67 = .ok (.getfield 25, 3) := by decide +kernel
theorem dX2_aboutClaim_70 : decode cX2_aboutClaim 70 = .ok (.getfield 100, 3) := by decide +kernel
theorem dX2_aboutClaim_73 : decode cX2_aboutClaim 73 = .ok (.iload_n 1, 1) := by decide +kernel
theorem dX2_aboutClaim_74 : decode cX2_aboutClaim 74 = .ok (.iaload, 1) := by decide +kernel
theorem dX2_aboutClaim_75 : decode cX2_aboutClaim 75 = .ok (.ireturn, 1) := by decide +kernel
theorem dX2_aboutClaim_76 : decode cX2_aboutClaim 76 = .ok (.aload_n 0, 1) := by decide +kernel
theorem dX2_aboutClaim_77 : decode cX2_aboutClaim 77 = .ok (.getfield 25, 3) := by decide +kernel
theorem dX2_aboutClaim_80 : decode cX2_aboutClaim 80 = .ok (.getfield 103, 3) := by decide +kernel
theorem dX2_aboutClaim_83 : decode cX2_aboutClaim 83 = .ok (.iload_n 1, 1) := by decide +kernel
theorem dX2_aboutClaim_84 : decode cX2_aboutClaim 84 = .ok (.iaload, 1) := by decide +kernel
theorem dX2_aboutClaim_85 : decode cX2_aboutClaim 85 = .ok (.ireturn, 1) := by decide +kernel
theorem dX2_aboutClaim_86 : decode cX2_aboutClaim 86 = .ok (.aload_n 0, 1) := by decide +kernel
theorem dX2_aboutClaim_87 : decode cX2_aboutClaim 87 = .ok (.getfield 25, 3) := by decide +kernel
theorem dX2_aboutClaim_90 : decode cX2_aboutClaim 90 = .ok (.getfield 116, 3) := by decide +kernel
theorem dX2_aboutClaim_93 : decode cX2_aboutClaim 93 = .ok (.iload_n 1, 1) := by decide +kernel
theorem dX2_aboutClaim_94 : decode cX2_aboutClaim 94 = .ok (.iaload, 1) := by decide +kernel
theorem dX2_aboutClaim_95 : decode cX2_aboutClaim 95 = .ok (.ireturn, 1) := by decide +kernel
theorem dX2_aboutClaim_96 : decode cX2_aboutClaim 96 = .ok (.aload_n 0, 1) := by decide +kernel
theorem dX2_aboutClaim_97 : decode cX2_aboutClaim 97 = .ok (.getfield 25, 3) := by decide +kernel
theorem dX2_aboutClaim_100 : decode cX2_aboutClaim 100 = .ok (.getfield 128, 3) := by decide +kernel
theorem dX2_aboutClaim_103 : decode cX2_aboutClaim 103 = .ok (.iload_n 1, 1) := by decide +kernel
theorem dX2_aboutClaim_104 : decode cX2_aboutClaim 104 = .ok (.iaload, 1) := by decide +kernel
theorem dX2_aboutClaim_105 : decode cX2_aboutClaim 105 = .ok (.ireturn, 1) := by decide +kernel
theorem dX2_aboutClaim_106 : decode cX2_aboutClaim 106 = .ok (.aload_n 0, 1) := by decide +kernel
theorem dX2_aboutClaim_107 : decode cX2_aboutClaim 107 = .ok (.getfield 25, 3) := by decide +kernel
theorem dX2_aboutClaim_110 : decode cX2_aboutClaim 110 = .ok (.getfield 125, 3) := by decide +kernel
theorem dX2_aboutClaim_113 : decode cX2_aboutClaim 113 = .ok (.iload_n 1, 1) := by decide +kernel
theorem dX2_aboutClaim_114 : decode cX2_aboutClaim 114 = .ok (.iaload, 1) := by decide +kernel
theorem dX2_aboutClaim_115 : decode cX2_aboutClaim 115 = .ok (.ireturn, 1) := by decide +kernel
theorem dX2_aboutClaim_116 : decode cX2_aboutClaim 116 = .ok (.aload_n 0, 1) := by decide +kernel
theorem dX2_aboutClaim_117 : decode cX2_aboutClaim 117 = .ok (.getfield 25, 3) := by decide +kernel
theorem dX2_aboutClaim_120 : decode cX2_aboutClaim 120 = .ok (.getfield 162, 3) := by decide +kernel
theorem dX2_aboutClaim_123 : decode cX2_aboutClaim 123 = .ok (.iload_n 1, 1) := by decide +kernel
theorem dX2_aboutClaim_124 : decode cX2_aboutClaim 124 = .ok (.iaload, 1) := by decide +kernel
theorem dX2_aboutClaim_125 : decode cX2_aboutClaim 125 = .ok (.ireturn, 1) := by decide +kernel
theorem dX2_aboutClaim_126 : decode cX2_aboutClaim 126 = .ok (.bipush (-2), 2) := by decide +kernel
theorem dX2_aboutClaim_128 : decode cX2_aboutClaim 128 = .ok (.ireturn, 1) := by decide +kernel
theorem dX2_aboutHeir_0 : decode cX2_aboutHeir 0 = .ok (.iload_n 1, 1) := by decide +kernel
theorem dX2_aboutHeir_1 : decode cX2_aboutHeir 1 = .ok (.invokestatic 84, 3) := by decide +kernel
theorem dX2_aboutHeir_4 : decode cX2_aboutHeir 4 = .ok (.ifCond .ne 5, 3) := by decide +kernel
theorem dX2_aboutHeir_7 : decode cX2_aboutHeir 7 = .ok (.iconst (-1), 1) := by decide +kernel
theorem dX2_aboutHeir_8 : decode cX2_aboutHeir 8 = .ok (.ireturn, 1) := by decide +kernel
theorem dX2_aboutHeir_9 : decode cX2_aboutHeir 9 = .ok (.iload_n 2, 1) := by decide +kernel
theorem dX2_aboutHeir_10 : decode cX2_aboutHeir 10 = .ok (.tableswitch 89 0 3 #[30, 36, 45, 62], 30) := by decide +kernel
theorem dX2_aboutHeir_40 : decode cX2_aboutHeir 40 = .ok (.aload_n 0, 1) := by decide +kernel
theorem dX2_aboutHeir_41 : decode cX2_aboutHeir 41 = .ok (.iload_n 1, 1) := by decide +kernel
theorem dX2_aboutHeir_42 : decode cX2_aboutHeir 42 = .ok (.invokevirtual 159, 3) := by decide +kernel
theorem dX2_aboutHeir_45 : decode cX2_aboutHeir 45 = .ok (.ireturn, 1) := by decide +kernel
theorem dX2_aboutHeir_46 : decode cX2_aboutHeir 46 = .ok (.aload_n 0, 1) := by decide +kernel
theorem dX2_aboutHeir_47 : decode cX2_aboutHeir 47 = .ok (.getfield 25, 3) := by decide +kernel
theorem dX2_aboutHeir_50 : decode cX2_aboutHeir 50 = .ok (.iload_n 1, 1) := by decide +kernel
theorem dX2_aboutHeir_51 : decode cX2_aboutHeir 51 = .ok (.invokevirtual 90, 3) := by decide +kernel
theorem dX2_aboutHeir_54 : decode cX2_aboutHeir 54 = .ok (.ireturn, 1) := by decide +kernel
theorem dX2_aboutHeir_55 : decode cX2_aboutHeir 55 = .ok (.aload_n 0, 1) := by decide +kernel
theorem dX2_aboutHeir_56 : decode cX2_aboutHeir 56 = .ok (.getfield 25, 3) := by decide +kernel
theorem dX2_aboutHeir_59 : decode cX2_aboutHeir 59 = .ok (.iload_n 1, 1) := by decide +kernel
theorem dX2_aboutHeir_60 : decode cX2_aboutHeir 60 = .ok (.invokevirtual 90, 3) := by decide +kernel
theorem dX2_aboutHeir_63 : decode cX2_aboutHeir 63 = .ok (.aload_n 0, 1) := by decide +kernel
theorem dX2_aboutHeir_64 : decode cX2_aboutHeir 64 = .ok (.getfield 25, 3) := by decide +kernel
theorem dX2_aboutHeir_67 : decode cX2_aboutHeir 67 = .ok (.invokevirtual 184, 3) := by decide +kernel
theorem dX2_aboutHeir_70 : decode cX2_aboutHeir 70 = .ok (.iand, 1) := by decide +kernel
theorem dX2_aboutHeir_71 : decode cX2_aboutHeir 71 = .ok (.ireturn, 1) := by decide +kernel
theorem dX2_aboutHeir_72 : decode cX2_aboutHeir 72 = .ok (.aload_n 0, 1) := by decide +kernel
theorem dX2_aboutHeir_73 : decode cX2_aboutHeir 73 = .ok (.getfield 25, 3) := by decide +kernel
theorem dX2_aboutHeir_76 : decode cX2_aboutHeir 76 = .ok (.getfield 100, 3) := by decide +kernel
theorem dX2_aboutHeir_79 : decode cX2_aboutHeir 79 = .ok (.aload_n 0, 1) := by decide +kernel
theorem dX2_aboutHeir_80 : decode cX2_aboutHeir 80 = .ok (.getfield 25, 3) := by decide +kernel
theorem dX2_aboutHeir_83 : decode cX2_aboutHeir 83 = .ok (.iload_n 1, 1) := by decide +kernel
theorem dX2_aboutHeir_84 : decode cX2_aboutHeir 84 = .ok (.invokevirtual 90, 3) := by decide +kernel
theorem dX2_aboutHeir_87 : decode cX2_aboutHeir 87 = .ok (.aload_n 0, 1) := by decide +kernel
theorem dX2_aboutHeir_88 : decode cX2_aboutHeir 88 = .ok (.getfield 25, 3) := by decide +kernel
theorem dX2_aboutHeir_91 : decode cX2_aboutHeir 91 = .ok (.invokevirtual 187, 3) := by decide +kernel
theorem dX2_aboutHeir_94 : decode cX2_aboutHeir 94 = .ok (.iand, 1) := by decide +kernel
theorem dX2_aboutHeir_95 : decode cX2_aboutHeir 95 = .ok (.invokestatic 190, 3) := by decide +kernel
theorem dX2_aboutHeir_98 : decode cX2_aboutHeir 98 = .ok (.ireturn, 1) := by decide +kernel
theorem dX2_aboutHeir_99 : decode cX2_aboutHeir 99 = .ok (.bipush (-2), 2) := by decide +kernel
theorem dX2_aboutHeir_101 : decode cX2_aboutHeir 101 = .ok (.ireturn, 1) := by decide +kernel
theorem dX2_purse_0 : decode cX2_purse 0 = .ok (.aload_n 0, 1) := by decide +kernel
theorem dX2_purse_1 : decode cX2_purse 1 = .ok (.getfield 25, 3) := by decide +kernel
theorem dX2_purse_4 : decode cX2_purse 4 = .ok (.getfield 162, 3) := by decide +kernel
theorem dX2_purse_7 : decode cX2_purse 7 = .ok (.aload_n 0, 1) := by decide +kernel
theorem dX2_purse_8 : decode cX2_purse 8 = .ok (.getfield 25, 3) := by decide +kernel
theorem dX2_purse_11 : decode cX2_purse 11 = .ok (.iload_n 1, 1) := by decide +kernel
theorem dX2_purse_12 : decode cX2_purse 12 = .ok (.invokevirtual 90, 3) := by decide +kernel
theorem dX2_purse_15 : decode cX2_purse 15 = .ok (.invokestatic 194, 3) := by decide +kernel
theorem dX2_purse_18 : decode cX2_purse 18 = .ok (.ireturn, 1) := by decide +kernel
theorem dX2_heirPaid_0 : decode cX2_heirPaid 0 = .ok (.iload_n 1, 1) := by decide +kernel
theorem dX2_heirPaid_1 : decode cX2_heirPaid 1 = .ok (.ifCond .lt 20, 3) := by decide +kernel
theorem dX2_heirPaid_4 : decode cX2_heirPaid 4 = .ok (.iload_n 1, 1) := by decide +kernel
theorem dX2_heirPaid_5 : decode cX2_heirPaid 5 = .ok (.aload_n 0, 1) := by decide +kernel
theorem dX2_heirPaid_6 : decode cX2_heirPaid 6 = .ok (.getfield 32, 3) := by decide +kernel
theorem dX2_heirPaid_9 : decode cX2_heirPaid 9 = .ok (.if_icmp .ge 12, 3) := by decide +kernel
theorem dX2_heirPaid_12 : decode cX2_heirPaid 12 = .ok (.aload_n 0, 1) := by decide +kernel
theorem dX2_heirPaid_13 : decode cX2_heirPaid 13 = .ok (.getfield 29, 3) := by decide +kernel
theorem dX2_heirPaid_16 : decode cX2_heirPaid 16 = .ok (.iload_n 1, 1) := by decide +kernel
theorem dX2_heirPaid_17 : decode cX2_heirPaid 17 = .ok (.iaload, 1) := by decide +kernel
theorem dX2_heirPaid_18 : decode cX2_heirPaid 18 = .ok (.goto 4, 3) := by decide +kernel
theorem dX2_heirPaid_21 : decode cX2_heirPaid 21 = .ok (.iconst (-1), 1) := by decide +kernel
theorem dX2_heirPaid_22 : decode cX2_heirPaid 22 = .ok (.ireturn, 1) := by decide +kernel
theorem dX2_number_0 : decode cX2_number 0 = .ok (.iload_n 1, 1) := by decide +kernel
theorem dX2_number_1 : decode cX2_number 1 = .ok (.iconst 3, 1) := by decide +kernel
theorem dX2_number_2 : decode cX2_number 2 = .ok (.if_icmp .lt 20, 3) := by decide +kernel
theorem dX2_number_5 : decode cX2_number 5 = .ok (.iload_n 1, 1) := by decide +kernel
theorem dX2_number_6 : decode cX2_number 6 = .ok (.bipush 7, 2) := by decide +kernel
theorem dX2_number_8 : decode cX2_number 8 = .ok (.if_icmp .gt 14, 3) := by decide +kernel
theorem dX2_number_11 : decode cX2_number 11 = .ok (.aload_n 0, 1) := by decide +kernel
theorem dX2_number_12 : decode cX2_number 12 = .ok (.getfield 18, 3) := by decide +kernel
theorem dX2_number_15 : decode cX2_number 15 = .ok (.iload_n 1, 1) := by decide +kernel
theorem dX2_number_16 : decode cX2_number 16 = .ok (.iconst 3, 1) := by decide +kernel
theorem dX2_number_17 : decode cX2_number 17 = .ok (.isub, 1) := by decide +kernel
theorem dX2_number_18 : decode cX2_number 18 = .ok (.invokevirtual 75, 3) := by decide +kernel
theorem dX2_number_21 : decode cX2_number 21 = .ok (.ireturn, 1) := by decide +kernel
theorem dX2_number_22 : decode cX2_number 22 = .ok (.iload_n 1, 1) := by decide +kernel
theorem dX2_number_23 : decode cX2_number 23 = .ok (.bipush 14, 2) := by decide +kernel
theorem dX2_number_25 : decode cX2_number 25 = .ok (.if_icmp .lt 19, 3) := by decide +kernel
theorem dX2_number_28 : decode cX2_number 28 = .ok (.iload_n 1, 1) := by decide +kernel
theorem dX2_number_29 : decode cX2_number 29 = .ok (.bipush 19, 2) := by decide +kernel
theorem dX2_number_31 : decode cX2_number 31 = .ok (.if_icmp .ge 13, 3) := by decide +kernel
theorem dX2_number_34 : decode cX2_number 34 = .ok (.aload_n 0, 1) := by decide +kernel
theorem dX2_number_35 : decode cX2_number 35 = .ok (.getfield 9, 3) := by decide +kernel
theorem dX2_number_38 : decode cX2_number 38 = .ok (.iload_n 1, 1) := by decide +kernel
theorem dX2_number_39 : decode cX2_number 39 = .ok (.bipush 14, 2) := by decide +kernel
theorem dX2_number_41 : decode cX2_number 41 = .ok (.isub, 1) := by decide +kernel
theorem dX2_number_42 : decode cX2_number 42 = .ok (.iaload, 1) := by decide +kernel
theorem dX2_number_43 : decode cX2_number 43 = .ok (.ireturn, 1) := by decide +kernel
theorem dX2_number_44 : decode cX2_number 44 = .ok (.iload_n 1, 1) := by decide +kernel
theorem dX2_number_45 : decode cX2_number 45 = .ok (.tableswitch 190 0 13 #[71, 76, 84, 190, 190, 190, 190, 190, 92, 110, 138, 143, 161, 169], 71) := by decide +kernel
theorem dX2_number_116 : decode cX2_number 116 = .ok (.aload_n 0, 1) := by decide +kernel
theorem dX2_number_117 : decode cX2_number 117 = .ok (.getfield 39, 3) := by decide +kernel
theorem dX2_number_120 : decode cX2_number 120 = .ok (.ireturn, 1) := by decide +kernel
theorem dX2_number_121 : decode cX2_number 121 = .ok (.aload_n 0, 1) := by decide +kernel
theorem dX2_number_122 : decode cX2_number 122 = .ok (.getfield 18, 3) := by decide +kernel
theorem dX2_number_125 : decode cX2_number 125 = .ok (.getfield 62, 3) := by decide +kernel
theorem dX2_number_128 : decode cX2_number 128 = .ok (.ireturn, 1) := by decide +kernel
theorem dX2_number_129 : decode cX2_number 129 = .ok (.aload_n 0, 1) := by decide +kernel
theorem dX2_number_130 : decode cX2_number 130 = .ok (.getfield 25, 3) := by decide +kernel
theorem dX2_number_133 : decode cX2_number 133 = .ok (.getfield 96, 3) := by decide +kernel
theorem dX2_number_136 : decode cX2_number 136 = .ok (.ireturn, 1) := by decide +kernel
theorem dX2_number_137 : decode cX2_number 137 = .ok (.aload_n 0, 1) := by decide +kernel
theorem dX2_number_138 : decode cX2_number 138 = .ok (.getfield 18, 3) := by decide +kernel
theorem dX2_number_141 : decode cX2_number 141 = .ok (.getfield 65, 3) := by decide +kernel
theorem dX2_number_144 : decode cX2_number 144 = .ok (.aload_n 0, 1) := by decide +kernel
theorem dX2_number_145 : decode cX2_number 145 = .ok (.getfield 18, 3) := by decide +kernel
theorem dX2_number_148 : decode cX2_number 148 = .ok (.invokevirtual 197, 3) := by decide +kernel
theorem dX2_number_151 : decode cX2_number 151 = .ok (.invokestatic 194, 3) := by decide +kernel
theorem dX2_number_154 : decode cX2_number 154 = .ok (.ireturn, 1) := by decide +kernel
theorem dX2_number_155 : decode cX2_number 155 = .ok (.aload_n 0, 1) := by decide +kernel
theorem dX2_number_156 : decode cX2_number 156 = .ok (.getfield 18, 3) := by decide +kernel
theorem dX2_number_159 : decode cX2_number 159 = .ok (.getfield 65, 3) := by decide +kernel
theorem dX2_number_162 : decode cX2_number 162 = .ok (.aload_n 0, 1) := by decide +kernel
theorem dX2_number_163 : decode cX2_number 163 = .ok (.getfield 18, 3) := by decide +kernel
theorem dX2_number_166 : decode cX2_number 166 = .ok (.iconst 0, 1) := by decide +kernel
theorem dX2_number_167 : decode cX2_number 167 = .ok (.invokevirtual 75, 3) := by decide +kernel
theorem dX2_number_170 : decode cX2_number 170 = .ok (.aload_n 0, 1) := by decide +kernel
theorem dX2_number_171 : decode cX2_number 171 = .ok (.getfield 18, 3) := by decide +kernel
theorem dX2_number_174 : decode cX2_number 174 = .ok (.iconst 1, 1) := by decide +kernel
theorem dX2_number_175 : decode cX2_number 175 = .ok (.invokevirtual 75, 3) := by decide +kernel
theorem dX2_number_178 : decode cX2_number 178 = .ok (.ior, 1) := by decide +kernel
theorem dX2_number_179 : decode cX2_number 179 = .ok (.invokestatic 194, 3) := by decide +kernel
theorem dX2_number_182 : decode cX2_number 182 = .ok (.ireturn, 1) := by decide +kernel
theorem dX2_number_183 : decode cX2_number 183 = .ok (.aload_n 0, 1) := by decide +kernel
theorem dX2_number_184 : decode cX2_number 184 = .ok (.getfield 36, 3) := by decide +kernel
theorem dX2_number_187 : decode cX2_number 187 = .ok (.ireturn, 1) := by decide +kernel
theorem dX2_number_188 : decode cX2_number 188 = .ok (.aload_n 0, 1) := by decide +kernel
theorem dX2_number_189 : decode cX2_number 189 = .ok (.getfield 25, 3) := by decide +kernel
theorem dX2_number_192 : decode cX2_number 192 = .ok (.getfield 162, 3) := by decide +kernel
theorem dX2_number_195 : decode cX2_number 195 = .ok (.aload_n 0, 1) := by decide +kernel
theorem dX2_number_196 : decode cX2_number 196 = .ok (.getfield 25, 3) := by decide +kernel
theorem dX2_number_199 : decode cX2_number 199 = .ok (.invokevirtual 200, 3) := by decide +kernel
theorem dX2_number_202 : decode cX2_number 202 = .ok (.invokestatic 194, 3) := by decide +kernel
theorem dX2_number_205 : decode cX2_number 205 = .ok (.ireturn, 1) := by decide +kernel
theorem dX2_number_206 : decode cX2_number 206 = .ok (.aload_n 0, 1) := by decide +kernel
theorem dX2_number_207 : decode cX2_number 207 = .ok (.getfield 25, 3) := by decide +kernel
theorem dX2_number_210 : decode cX2_number 210 = .ok (.invokevirtual 184, 3) := by decide +kernel
theorem dX2_number_213 : decode cX2_number 213 = .ok (.ireturn, 1) := by decide +kernel
theorem dX2_number_214 : decode cX2_number 214 = .ok (.aload_n 0, 1) := by decide +kernel
theorem dX2_number_215 : decode cX2_number 215 = .ok (.getfield 25, 3) := by decide +kernel
theorem dX2_number_218 : decode cX2_number 218 = .ok (.getfield 97, 3) := by decide +kernel
theorem dX2_number_221 : decode cX2_number 221 = .ok (.aload_n 0, 1) := by decide +kernel
theorem dX2_number_222 : decode cX2_number 222 = .ok (.getfield 25, 3) := by decide +kernel
theorem dX2_number_225 : decode cX2_number 225 = .ok (.invokevirtual 200, 3) := by decide +kernel
theorem dX2_number_228 : decode cX2_number 228 = .ok (.invokestatic 190, 3) := by decide +kernel
theorem dX2_number_231 : decode cX2_number 231 = .ok (.invokestatic 79, 3) := by decide +kernel
theorem dX2_number_234 : decode cX2_number 234 = .ok (.ireturn, 1) := by decide +kernel
theorem dX2_number_235 : decode cX2_number 235 = .ok (.bipush (-2), 2) := by decide +kernel
theorem dX2_number_237 : decode cX2_number 237 = .ok (.ireturn, 1) := by decide +kernel
theorem dX2_whyNot_0 : decode cX2_whyNot 0 = .ok (.aload_n 0, 1) := by decide +kernel
theorem dX2_whyNot_1 : decode cX2_whyNot 1 = .ok (.getfield 18, 3) := by decide +kernel
theorem dX2_whyNot_4 : decode cX2_whyNot 4 = .ok (.iload_n 1, 1) := by decide +kernel
theorem dX2_whyNot_5 : decode cX2_whyNot 5 = .ok (.invokevirtual 68, 3) := by decide +kernel
theorem dX2_whyNot_8 : decode cX2_whyNot 8 = .ok (.ifCond .ne 5, 3) := by decide +kernel
theorem dX2_whyNot_11 : decode cX2_whyNot 11 = .ok (.iconst (-1), 1) := by decide +kernel
theorem dX2_whyNot_12 : decode cX2_whyNot 12 = .ok (.ireturn, 1) := by decide +kernel
theorem dX2_whyNot_13 : decode cX2_whyNot 13 = .ok (.aload_n 0, 1) := by decide +kernel
theorem dX2_whyNot_14 : decode cX2_whyNot 14 = .ok (.getfield 18, 3) := by decide +kernel
theorem dX2_whyNot_17 : decode cX2_whyNot 17 = .ok (.getfield 72, 3) := by decide +kernel
theorem dX2_whyNot_20 : decode cX2_whyNot 20 = .ok (.iload_n 1, 1) := by decide +kernel
theorem dX2_whyNot_21 : decode cX2_whyNot 21 = .ok (.iaload, 1) := by decide +kernel
theorem dX2_whyNot_22 : decode cX2_whyNot 22 = .ok (.iconst 1, 1) := by decide +kernel
theorem dX2_whyNot_23 : decode cX2_whyNot 23 = .ok (.if_icmp .eq 5, 3) := by decide +kernel
theorem dX2_whyNot_26 : decode cX2_whyNot 26 = .ok (.iconst 1, 1) := by decide +kernel
theorem dX2_whyNot_27 : decode cX2_whyNot 27 = .ok (.ireturn, 1) := by decide +kernel
theorem dX2_whyNot_28 : decode cX2_whyNot 28 = .ok (.aload_n 0, 1) := by decide +kernel
theorem dX2_whyNot_29 : decode cX2_whyNot 29 = .ok (.getfield 25, 3) := by decide +kernel
theorem dX2_whyNot_32 : decode cX2_whyNot 32 = .ok (.iload_n 1, 1) := by decide +kernel
theorem dX2_whyNot_33 : decode cX2_whyNot 33 = .ok (.invokevirtual 135, 3) := by decide +kernel
theorem dX2_whyNot_36 : decode cX2_whyNot 36 = .ok (.ifCond .eq 5, 3) := by decide +kernel
theorem dX2_whyNot_39 : decode cX2_whyNot 39 = .ok (.iconst 2, 1) := by decide +kernel
theorem dX2_whyNot_40 : decode cX2_whyNot 40 = .ok (.ireturn, 1) := by decide +kernel
theorem dX2_whyNot_41 : decode cX2_whyNot 41 = .ok (.aload_n 0, 1) := by decide +kernel
theorem dX2_whyNot_42 : decode cX2_whyNot 42 = .ok (.getfield 25, 3) := by decide +kernel
theorem dX2_whyNot_45 : decode cX2_whyNot 45 = .ok (.iload_n 1, 1) := by decide +kernel
theorem dX2_whyNot_46 : decode cX2_whyNot 46 = .ok (.invokevirtual 132, 3) := by decide +kernel
theorem dX2_whyNot_49 : decode cX2_whyNot 49 = .ok (.ifCond .eq 7, 3) := by decide +kernel
theorem dX2_whyNot_52 : decode cX2_whyNot 52 = .ok (.iconst 3, 1) := by decide +kernel
theorem dX2_whyNot_53 : decode cX2_whyNot 53 = .ok (.goto 4, 3) := by decide +kernel
theorem dX2_whyNot_56 : decode cX2_whyNot 56 = .ok (.iconst 0, 1) := by decide +kernel
theorem dX2_whyNot_57 : decode cX2_whyNot 57 = .ok (.ireturn, 1) := by decide +kernel
theorem dX2_daysToFall_0 : decode cX2_daysToFall 0 = .ok (.aload_n 0, 1) := by decide +kernel
theorem dX2_daysToFall_1 : decode cX2_daysToFall 1 = .ok (.getfield 18, 3) := by decide +kernel
theorem dX2_daysToFall_4 : decode cX2_daysToFall 4 = .ok (.iload_n 1, 1) := by decide +kernel
theorem dX2_daysToFall_5 : decode cX2_daysToFall 5 = .ok (.invokevirtual 68, 3) := by decide +kernel
theorem dX2_daysToFall_8 : decode cX2_daysToFall 8 = .ok (.ifCond .ne 5, 3) := by decide +kernel
theorem dX2_daysToFall_11 : decode cX2_daysToFall 11 = .ok (.iconst (-1), 1) := by decide +kernel
theorem dX2_daysToFall_12 : decode cX2_daysToFall 12 = .ok (.ireturn, 1) := by decide +kernel
theorem dX2_daysToFall_13 : decode cX2_daysToFall 13 = .ok (.aload_n 0, 1) := by decide +kernel
theorem dX2_daysToFall_14 : decode cX2_daysToFall 14 = .ok (.getfield 18, 3) := by decide +kernel
theorem dX2_daysToFall_17 : decode cX2_daysToFall 17 = .ok (.getfield 72, 3) := by decide +kernel
theorem dX2_daysToFall_20 : decode cX2_daysToFall 20 = .ok (.iload_n 1, 1) := by decide +kernel
theorem dX2_daysToFall_21 : decode cX2_daysToFall 21 = .ok (.iaload, 1) := by decide +kernel
theorem dX2_daysToFall_22 : decode cX2_daysToFall 22 = .ok (.iconst 1, 1) := by decide +kernel
theorem dX2_daysToFall_23 : decode cX2_daysToFall 23 = .ok (.if_icmp .eq 6, 3) := by decide +kernel
theorem dX2_daysToFall_26 : decode cX2_daysToFall 26 = .ok (.bipush (-5), 2) := by decide +kernel
theorem dX2_daysToFall_28 : decode cX2_daysToFall 28 = .ok (.ireturn, 1) := by decide +kernel
theorem dX2_daysToFall_29 : decode cX2_daysToFall 29 = .ok (.aload_n 0, 1) := by decide +kernel
theorem dX2_daysToFall_30 : decode cX2_daysToFall 30 = .ok (.getfield 25, 3) := by decide +kernel
theorem dX2_daysToFall_33 : decode cX2_daysToFall 33 = .ok (.iload_n 1, 1) := by decide +kernel
theorem dX2_daysToFall_34 : decode cX2_daysToFall 34 = .ok (.invokevirtual 132, 3) := by decide +kernel
theorem dX2_daysToFall_37 : decode cX2_daysToFall 37 = .ok (.ifCond .eq 6, 3) := by decide +kernel
theorem dX2_daysToFall_40 : decode cX2_daysToFall 40 = .ok (.bipush (-6), 2) := by decide +kernel
theorem dX2_daysToFall_42 : decode cX2_daysToFall 42 = .ok (.ireturn, 1) := by decide +kernel
theorem dX2_daysToFall_43 : decode cX2_daysToFall 43 = .ok (.aload_n 0, 1) := by decide +kernel
theorem dX2_daysToFall_44 : decode cX2_daysToFall 44 = .ok (.iload_n 1, 1) := by decide +kernel
theorem dX2_daysToFall_45 : decode cX2_daysToFall 45 = .ok (.invokevirtual 201, 3) := by decide +kernel
theorem dX2_daysToFall_48 : decode cX2_daysToFall 48 = .ok (.iconst 1, 1) := by decide +kernel
theorem dX2_daysToFall_49 : decode cX2_daysToFall 49 = .ok (.aload_n 0, 1) := by decide +kernel
theorem dX2_daysToFall_50 : decode cX2_daysToFall 50 = .ok (.getfield 9, 3) := by decide +kernel
theorem dX2_daysToFall_53 : decode cX2_daysToFall 53 = .ok (.iconst 0, 1) := by decide +kernel
theorem dX2_daysToFall_54 : decode cX2_daysToFall 54 = .ok (.iaload, 1) := by decide +kernel
theorem dX2_daysToFall_55 : decode cX2_daysToFall 55 = .ok (.aload_n 0, 1) := by decide +kernel
theorem dX2_daysToFall_56 : decode cX2_daysToFall 56 = .ok (.getfield 18, 3) := by decide +kernel
theorem dX2_daysToFall_59 : decode cX2_daysToFall 59 = .ok (.getfield 175, 3) := by decide +kernel
theorem dX2_daysToFall_62 : decode cX2_daysToFall 62 = .ok (.iload_n 1, 1) := by decide +kernel
theorem dX2_daysToFall_63 : decode cX2_daysToFall 63 = .ok (.iaload, 1) := by decide +kernel
theorem dX2_daysToFall_64 : decode cX2_daysToFall 64 = .ok (.isub, 1) := by decide +kernel
theorem dX2_daysToFall_65 : decode cX2_daysToFall 65 = .ok (.invokestatic 204, 3) := by decide +kernel
theorem dX2_daysToFall_68 : decode cX2_daysToFall 68 = .ok (.iadd, 1) := by decide +kernel
theorem dX2_daysToFall_69 : decode cX2_daysToFall 69 = .ok (.ireturn, 1) := by decide +kernel
theorem dX2_idleDays_0 : decode cX2_idleDays 0 = .ok (.aload_n 0, 1) := by decide +kernel
theorem dX2_idleDays_1 : decode cX2_idleDays 1 = .ok (.getfield 25, 3) := by decide +kernel
theorem dX2_idleDays_4 : decode cX2_idleDays 4 = .ok (.iload_n 1, 1) := by decide +kernel
theorem dX2_idleDays_5 : decode cX2_idleDays 5 = .ok (.invokevirtual 135, 3) := by decide +kernel
theorem dX2_idleDays_8 : decode cX2_idleDays 8 = .ok (.istore_n 2, 1) := by decide +kernel
theorem dX2_idleDays_9 : decode cX2_idleDays 9 = .ok (.iconst 0, 1) := by decide +kernel
theorem dX2_idleDays_10 : decode cX2_idleDays 10 = .ok (.istore_n 3, 1) := by decide +kernel
theorem dX2_idleDays_11 : decode cX2_idleDays 11 = .ok (.iconst 0, 1) := by decide +kernel
theorem dX2_idleDays_12 : decode cX2_idleDays 12 = .ok (.istore 4, 2) := by decide +kernel
theorem dX2_idleDays_14 : decode cX2_idleDays 14 = .ok (.iload 4, 2) := by decide +kernel
theorem dX2_idleDays_16 : decode cX2_idleDays 16 = .ok (.aload_n 0, 1) := by decide +kernel
theorem dX2_idleDays_17 : decode cX2_idleDays 17 = .ok (.getfield 25, 3) := by decide +kernel
theorem dX2_idleDays_20 : decode cX2_idleDays 20 = .ok (.getfield 96, 3) := by decide +kernel
theorem dX2_idleDays_23 : decode cX2_idleDays 23 = .ok (.if_icmp .ge 31, 3) := by decide +kernel
theorem dX2_idleDays_26 : decode cX2_idleDays 26 = .ok (.iload_n 2, 1) := by decide +kernel
theorem dX2_idleDays_27 : decode cX2_idleDays 27 = .ok (.iload 4, 2) := by decide +kernel
theorem dX2_idleDays_29 : decode cX2_idleDays 29 = .ok (.invokestatic 144, 3) := by decide +kernel
theorem dX2_idleDays_32 : decode cX2_idleDays 32 = .ok (.ifCond .eq 16, 3) := by decide +kernel
theorem dX2_idleDays_35 : decode cX2_idleDays 35 = .ok (.iload_n 3, 1) := by decide +kernel
theorem dX2_idleDays_36 : decode cX2_idleDays 36 = .ok (.aload_n 0, 1) := by decide +kernel
theorem dX2_idleDays_37 : decode cX2_idleDays 37 = .ok (.iload 4, 2) := by decide +kernel
theorem dX2_idleDays_39 : decode cX2_idleDays 39 = .ok (.invokevirtual 207, 3) := by decide +kernel
theorem dX2_idleDays_42 : decode cX2_idleDays 42 = .ok (.iconst 1, 1) := by decide +kernel
theorem dX2_idleDays_43 : decode cX2_idleDays 43 = .ok (.isub, 1) := by decide +kernel
theorem dX2_idleDays_44 : decode cX2_idleDays 44 = .ok (.invokestatic 204, 3) := by decide +kernel
theorem dX2_idleDays_47 : decode cX2_idleDays 47 = .ok (.istore_n 3, 1) := by decide +kernel
theorem dX2_idleDays_48 : decode cX2_idleDays 48 = .ok (.iinc 4 1, 3) := by decide +kernel
theorem dX2_idleDays_51 : decode cX2_idleDays 51 = .ok (.goto (-37), 3) := by decide +kernel
theorem dX2_idleDays_54 : decode cX2_idleDays 54 = .ok (.iload_n 3, 1) := by decide +kernel
theorem dX2_idleDays_55 : decode cX2_idleDays 55 = .ok (.ireturn, 1) := by decide +kernel
theorem dX2_daysToLapse_0 : decode cX2_daysToLapse 0 = .ok (.iconst 1, 1) := by decide +kernel
theorem dX2_daysToLapse_1 : decode cX2_daysToLapse 1 = .ok (.aload_n 0, 1) := by decide +kernel
theorem dX2_daysToLapse_2 : decode cX2_daysToLapse 2 = .ok (.getfield 9, 3) := by decide +kernel
theorem dX2_daysToLapse_5 : decode cX2_daysToLapse 5 = .ok (.iconst 2, 1) := by decide +kernel
theorem dX2_daysToLapse_6 : decode cX2_daysToLapse 6 = .ok (.iaload, 1) := by decide +kernel
theorem dX2_daysToLapse_7 : decode cX2_daysToLapse 7 = .ok (.aload_n 0, 1) := by decide +kernel
theorem dX2_daysToLapse_8 : decode cX2_daysToLapse 8 = .ok (.getfield 25, 3) := by decide +kernel
theorem dX2_daysToLapse_11 : decode cX2_daysToLapse 11 = .ok (.getfield 125, 3) := by decide +kernel
theorem dX2_daysToLapse_14 : decode cX2_daysToLapse 14 = .ok (.iload_n 1, 1) := by decide +kernel
theorem dX2_daysToLapse_15 : decode cX2_daysToLapse 15 = .ok (.iaload, 1) := by decide +kernel
theorem dX2_daysToLapse_16 : decode cX2_daysToLapse 16 = .ok (.isub, 1) := by decide +kernel
theorem dX2_daysToLapse_17 : decode cX2_daysToLapse 17 = .ok (.invokestatic 204, 3) := by decide +kernel
theorem dX2_daysToLapse_20 : decode cX2_daysToLapse 20 = .ok (.ireturn, 1) := by decide +kernel
theorem dX2_wouldGet_0 : decode cX2_wouldGet 0 = .ok (.aload_n 0, 1) := by decide +kernel
theorem dX2_wouldGet_1 : decode cX2_wouldGet 1 = .ok (.getfield 18, 3) := by decide +kernel
theorem dX2_wouldGet_4 : decode cX2_wouldGet 4 = .ok (.iload_n 1, 1) := by decide +kernel
theorem dX2_wouldGet_5 : decode cX2_wouldGet 5 = .ok (.invokevirtual 68, 3) := by decide +kernel
theorem dX2_wouldGet_8 : decode cX2_wouldGet 8 = .ok (.ifCond .eq 10, 3) := by decide +kernel
theorem dX2_wouldGet_11 : decode cX2_wouldGet 11 = .ok (.iload_n 2, 1) := by decide +kernel
theorem dX2_wouldGet_12 : decode cX2_wouldGet 12 = .ok (.invokestatic 84, 3) := by decide +kernel
theorem dX2_wouldGet_15 : decode cX2_wouldGet 15 = .ok (.ifCond .ne 5, 3) := by decide +kernel
theorem dX2_wouldGet_18 : decode cX2_wouldGet 18 = .ok (.iconst (-1), 1) := by decide +kernel
theorem dX2_wouldGet_19 : decode cX2_wouldGet 19 = .ok (.ireturn, 1) := by decide +kernel
theorem dX2_wouldGet_20 : decode cX2_wouldGet 20 = .ok (.iload_n 3, 1) := by decide +kernel
theorem dX2_wouldGet_21 : decode cX2_wouldGet 21 = .ok (.ifCond .eq 11, 3) := by decide +kernel
theorem dX2_wouldGet_24 : decode cX2_wouldGet 24 = .ok (.iload_n 3, 1) := by decide +kernel
theorem dX2_wouldGet_25 : decode cX2_wouldGet 25 = .ok (.iconst 1, 1) := by decide +kernel
theorem dX2_wouldGet_26 : decode cX2_wouldGet 26 = .ok (.if_icmp .eq 6, 3) := by decide +kernel
theorem dX2_wouldGet_29 : decode cX2_wouldGet 29 = .ok (.bipush (-2), 2) := by decide +kernel
theorem dX2_wouldGet_31 : decode cX2_wouldGet 31 = .ok (.ireturn, 1) := by decide +kernel
theorem dX2_wouldGet_32 : decode cX2_wouldGet 32 = .ok (.aload_n 0, 1) := by decide +kernel
theorem dX2_wouldGet_33 : decode cX2_wouldGet 33 = .ok (.getfield 18, 3) := by decide +kernel
theorem dX2_wouldGet_36 : decode cX2_wouldGet 36 = .ok (.iload_n 1, 1) := by decide +kernel
theorem dX2_wouldGet_37 : decode cX2_wouldGet 37 = .ok (.invokevirtual 109, 3) := by decide +kernel
theorem dX2_wouldGet_40 : decode cX2_wouldGet 40 = .ok (.ifCond .eq 6, 3) := by decide +kernel
theorem dX2_wouldGet_43 : decode cX2_wouldGet 43 = .ok (.bipush (-5), 2) := by decide +kernel
theorem dX2_wouldGet_45 : decode cX2_wouldGet 45 = .ok (.ireturn, 1) := by decide +kernel
theorem dX2_wouldGet_46 : decode cX2_wouldGet 46 = .ok (.aload_n 0, 1) := by decide +kernel
theorem dX2_wouldGet_47 : decode cX2_wouldGet 47 = .ok (.getfield 25, 3) := by decide +kernel
theorem dX2_wouldGet_50 : decode cX2_wouldGet 50 = .ok (.iload_n 3, 1) := by decide +kernel
theorem dX2_wouldGet_51 : decode cX2_wouldGet 51 = .ok (.ifCond .ne 14, 3) := by decide +kernel
theorem dX2_wouldGet_54 : decode cX2_wouldGet 54 = .ok (.aload_n 0, 1) := by decide +kernel
theorem dX2_wouldGet_55 : decode cX2_wouldGet 55 = .ok (.getfield 25, 3) := by decide +kernel
theorem dX2_wouldGet_58 : decode cX2_wouldGet 58 = .ok (.iload_n 1, 1) := by decide +kernel
theorem dX2_wouldGet_59 : decode cX2_wouldGet 59 = .ok (.invokevirtual 132, 3) := by decide +kernel
theorem dX2_wouldGet_62 : decode cX2_wouldGet 62 = .ok (.goto 11, 3) := by decide +kernel
theorem dX2_wouldGet_65 : decode cX2_wouldGet 65 = .ok (.aload_n 0, 1) := by decide +kernel
theorem dX2_wouldGet_66 : decode cX2_wouldGet 66 = .ok (.getfield 25, 3) := by decide +kernel
theorem dX2_wouldGet_69 : decode cX2_wouldGet 69 = .ok (.iload_n 1, 1) := by decide +kernel
theorem dX2_wouldGet_70 : decode cX2_wouldGet 70 = .ok (.invokevirtual 93, 3) := by decide +kernel
theorem dX2_wouldGet_73 : decode cX2_wouldGet 73 = .ok (.invokevirtual 141, 3) := by decide +kernel
theorem dX2_wouldGet_76 : decode cX2_wouldGet 76 = .ok (.istore 4, 2) := by decide +kernel
theorem dX2_wouldGet_78 : decode cX2_wouldGet 78 = .ok (.aload_n 0, 1) := by decide +kernel
theorem dX2_wouldGet_79 : decode cX2_wouldGet 79 = .ok (.iload_n 1, 1) := by decide +kernel
theorem dX2_wouldGet_80 : decode cX2_wouldGet 80 = .ok (.invokevirtual 138, 3) := by decide +kernel
theorem dX2_wouldGet_83 : decode cX2_wouldGet 83 = .ok (.iload 4, 2) := by decide +kernel
theorem dX2_wouldGet_85 : decode cX2_wouldGet 85 = .ok (.iload 4, 2) := by decide +kernel
theorem dX2_wouldGet_87 : decode cX2_wouldGet 87 = .ok (.aload_n 0, 1) := by decide +kernel
theorem dX2_wouldGet_88 : decode cX2_wouldGet 88 = .ok (.getfield 25, 3) := by decide +kernel
theorem dX2_wouldGet_91 : decode cX2_wouldGet 91 = .ok (.iload_n 2, 1) := by decide +kernel
theorem dX2_wouldGet_92 : decode cX2_wouldGet 92 = .ok (.invokevirtual 90, 3) := by decide +kernel
theorem dX2_wouldGet_95 : decode cX2_wouldGet 95 = .ok (.iand, 1) := by decide +kernel
theorem dX2_wouldGet_96 : decode cX2_wouldGet 96 = .ok (.invokestatic 148, 3) := by decide +kernel
theorem dX2_wouldGet_99 : decode cX2_wouldGet 99 = .ok (.ireturn, 1) := by decide +kernel
theorem dX2_firstFall_0 : decode cX2_firstFall 0 = .ok (.iload_n 1, 1) := by decide +kernel
theorem dX2_firstFall_1 : decode cX2_firstFall 1 = .ok (.ifCond .eq 11, 3) := by decide +kernel
theorem dX2_firstFall_4 : decode cX2_firstFall 4 = .ok (.iload_n 1, 1) := by decide +kernel
theorem dX2_firstFall_5 : decode cX2_firstFall 5 = .ok (.iconst 1, 1) := by decide +kernel
theorem dX2_firstFall_6 : decode cX2_firstFall 6 = .ok (.if_icmp .eq 6, 3) := by decide +kernel
theorem dX2_firstFall_9 : decode cX2_firstFall 9 = .ok (.bipush (-2), 2) := by decide +kernel
theorem dX2_firstFall_11 : decode cX2_firstFall 11 = .ok (.ireturn, 1) := by decide +kernel
theorem dX2_firstFall_12 : decode cX2_firstFall 12 = .ok (.bipush (-6), 2) := by decide +kernel
theorem dX2_firstFall_14 : decode cX2_firstFall 14 = .ok (.istore_n 2, 1) := by decide +kernel
theorem dX2_firstFall_15 : decode cX2_firstFall 15 = .ok (.bipush (-6), 2) := by decide +kernel
theorem dX2_firstFall_17 : decode cX2_firstFall 17 = .ok (.istore_n 3, 1) := by decide +kernel
theorem dX2_firstFall_18 : decode cX2_firstFall 18 = .ok (.iconst 0, 1) := by decide +kernel
theorem dX2_firstFall_19 : decode cX2_firstFall 19 = .ok (.istore 4, 2) := by decide +kernel
theorem dX2_firstFall_21 : decode cX2_firstFall 21 = .ok (.iload 4, 2) := by decide +kernel
theorem dX2_firstFall_23 : decode cX2_firstFall 23 = .ok (.aload_n 0, 1) := by decide +kernel
theorem dX2_firstFall_24 : decode cX2_firstFall 24 = .ok (.getfield 18, 3) := by decide +kernel
theorem dX2_firstFall_27 : decode cX2_firstFall 27 = .ok (.getfield 62, 3) := by decide +kernel
theorem dX2_firstFall_30 : decode cX2_firstFall 30 = .ok (.if_icmp .ge 40, 3) := by decide +kernel
theorem dX2_firstFall_33 : decode cX2_firstFall 33 = .ok (.aload_n 0, 1) := by decide +kernel
theorem dX2_firstFall_34 : decode cX2_firstFall 34 = .ok (.iload 4, 2) := by decide +kernel
theorem dX2_firstFall_36 : decode cX2_firstFall 36 = .ok (.invokevirtual 210, 3) := by decide +kernel
theorem dX2_firstFall_39 : decode cX2_firstFall 39 = .ok (.istore 5, 2) := by decide +kernel
theorem dX2_firstFall_41 : decode cX2_firstFall 41 = .ok (.iload 5, 2) := by decide +kernel
theorem dX2_firstFall_43 : decode cX2_firstFall 43 = .ok (.ifCond .le 21, 3) := by decide +kernel
theorem dX2_firstFall_46 : decode cX2_firstFall 46 = .ok (.iload_n 3, 1) := by decide +kernel
theorem dX2_firstFall_47 : decode cX2_firstFall 47 = .ok (.bipush (-6), 2) := by decide +kernel
theorem dX2_firstFall_49 : decode cX2_firstFall 49 = .ok (.if_icmp .eq 9, 3) := by decide +kernel
theorem dX2_firstFall_52 : decode cX2_firstFall 52 = .ok (.iload 5, 2) := by decide +kernel
theorem dX2_firstFall_54 : decode cX2_firstFall 54 = .ok (.iload_n 3, 1) := by decide +kernel
theorem dX2_firstFall_55 : decode cX2_firstFall 55 = .ok (.if_icmp .ge 9, 3) := by decide +kernel
theorem dX2_firstFall_58 : decode cX2_firstFall 58 = .ok (.iload 4, 2) := by decide +kernel
theorem dX2_firstFall_60 : decode cX2_firstFall 60 = .ok (.istore_n 2, 1) := by decide +kernel
theorem dX2_firstFall_61 : decode cX2_firstFall 61 = .ok (.iload 5, 2) := by decide +kernel
theorem dX2_firstFall_63 : decode cX2_firstFall 63 = .ok (.istore_n 3, 1) := by decide +kernel
theorem dX2_firstFall_64 : decode cX2_firstFall 64 = .ok (.iinc 4 1, 3) := by decide +kernel
theorem dX2_firstFall_67 : decode cX2_firstFall 67 = .ok (.goto (-46), 3) := by decide +kernel
theorem dX2_firstFall_70 : decode cX2_firstFall 70 = .ok (.iload_n 1, 1) := by decide +kernel
theorem dX2_firstFall_71 : decode cX2_firstFall 71 = .ok (.ifCond .ne 7, 3) := by decide +kernel
theorem dX2_firstFall_74 : decode cX2_firstFall 74 = .ok (.iload_n 2, 1) := by decide +kernel
theorem dX2_firstFall_75 : decode cX2_firstFall 75 = .ok (.goto 4, 3) := by decide +kernel
theorem dX2_firstFall_78 : decode cX2_firstFall 78 = .ok (.iload_n 3, 1) := by decide +kernel
theorem dX2_firstFall_79 : decode cX2_firstFall 79 = .ok (.ireturn, 1) := by decide +kernel
theorem dX2_firstLapse_0 : decode cX2_firstLapse 0 = .ok (.iload_n 1, 1) := by decide +kernel
theorem dX2_firstLapse_1 : decode cX2_firstLapse 1 = .ok (.ifCond .eq 11, 3) := by decide +kernel
theorem dX2_firstLapse_4 : decode cX2_firstLapse 4 = .ok (.iload_n 1, 1) := by decide +kernel
theorem dX2_firstLapse_5 : decode cX2_firstLapse 5 = .ok (.iconst 1, 1) := by decide +kernel
theorem dX2_firstLapse_6 : decode cX2_firstLapse 6 = .ok (.if_icmp .eq 6, 3) := by decide +kernel
theorem dX2_firstLapse_9 : decode cX2_firstLapse 9 = .ok (.bipush (-2), 2) := by decide +kernel
theorem dX2_firstLapse_11 : decode cX2_firstLapse 11 = .ok (.ireturn, 1) := by decide +kernel
theorem dX2_firstLapse_12 : decode cX2_firstLapse 12 = .ok (.bipush (-6), 2) := by decide +kernel
theorem dX2_firstLapse_14 : decode cX2_firstLapse 14 = .ok (.istore_n 2, 1) := by decide +kernel
theorem dX2_firstLapse_15 : decode cX2_firstLapse 15 = .ok (.iconst 0, 1) := by decide +kernel
theorem dX2_firstLapse_16 : decode cX2_firstLapse 16 = .ok (.istore_n 3, 1) := by decide +kernel
theorem dX2_firstLapse_17 : decode cX2_firstLapse 17 = .ok (.iload_n 3, 1) := by decide +kernel
theorem dX2_firstLapse_18 : decode cX2_firstLapse 18 = .ok (.aload_n 0, 1) := by decide +kernel
theorem dX2_firstLapse_19 : decode cX2_firstLapse 19 = .ok (.getfield 25, 3) := by decide +kernel
theorem dX2_firstLapse_22 : decode cX2_firstLapse 22 = .ok (.getfield 96, 3) := by decide +kernel
theorem dX2_firstLapse_25 : decode cX2_firstLapse 25 = .ok (.if_icmp .ge 37, 3) := by decide +kernel
theorem dX2_firstLapse_28 : decode cX2_firstLapse 28 = .ok (.aload_n 0, 1) := by decide +kernel
theorem dX2_firstLapse_29 : decode cX2_firstLapse 29 = .ok (.getfield 25, 3) := by decide +kernel
theorem dX2_firstLapse_32 : decode cX2_firstLapse 32 = .ok (.iload_n 3, 1) := by decide +kernel
theorem dX2_firstLapse_33 : decode cX2_firstLapse 33 = .ok (.invokevirtual 113, 3) := by decide +kernel
theorem dX2_firstLapse_36 : decode cX2_firstLapse 36 = .ok (.ifCond .eq 20, 3) := by decide +kernel
theorem dX2_firstLapse_39 : decode cX2_firstLapse 39 = .ok (.iload_n 2, 1) := by decide +kernel
theorem dX2_firstLapse_40 : decode cX2_firstLapse 40 = .ok (.bipush (-6), 2) := by decide +kernel
theorem dX2_firstLapse_42 : decode cX2_firstLapse 42 = .ok (.if_icmp .eq 12, 3) := by decide +kernel
theorem dX2_firstLapse_45 : decode cX2_firstLapse 45 = .ok (.aload_n 0, 1) := by decide +kernel
theorem dX2_firstLapse_46 : decode cX2_firstLapse 46 = .ok (.iload_n 3, 1) := by decide +kernel
theorem dX2_firstLapse_47 : decode cX2_firstLapse 47 = .ok (.iload_n 2, 1) := by decide +kernel
theorem dX2_firstLapse_48 : decode cX2_firstLapse 48 = .ok (.invokevirtual 213, 3) := by decide +kernel
theorem dX2_firstLapse_51 : decode cX2_firstLapse 51 = .ok (.ifCond .eq 5, 3) := by decide +kernel
theorem dX2_firstLapse_54 : decode cX2_firstLapse 54 = .ok (.iload_n 3, 1) := by decide +kernel
theorem dX2_firstLapse_55 : decode cX2_firstLapse 55 = .ok (.istore_n 2, 1) := by decide +kernel
theorem dX2_firstLapse_56 : decode cX2_firstLapse 56 = .ok (.iinc 3 1, 3) := by decide +kernel
theorem dX2_firstLapse_59 : decode cX2_firstLapse 59 = .ok (.goto (-42), 3) := by decide +kernel
theorem dX2_firstLapse_62 : decode cX2_firstLapse 62 = .ok (.iload_n 1, 1) := by decide +kernel
theorem dX2_firstLapse_63 : decode cX2_firstLapse 63 = .ok (.iconst 1, 1) := by decide +kernel
theorem dX2_firstLapse_64 : decode cX2_firstLapse 64 = .ok (.if_icmp .eq 9, 3) := by decide +kernel
theorem dX2_firstLapse_67 : decode cX2_firstLapse 67 = .ok (.iload_n 2, 1) := by decide +kernel
theorem dX2_firstLapse_68 : decode cX2_firstLapse 68 = .ok (.bipush (-6), 2) := by decide +kernel
theorem dX2_firstLapse_70 : decode cX2_firstLapse 70 = .ok (.if_icmp .ne 7, 3) := by decide +kernel
theorem dX2_firstLapse_73 : decode cX2_firstLapse 73 = .ok (.iload_n 2, 1) := by decide +kernel
theorem dX2_firstLapse_74 : decode cX2_firstLapse 74 = .ok (.goto 8, 3) := by decide +kernel
theorem dX2_firstLapse_77 : decode cX2_firstLapse 77 = .ok (.aload_n 0, 1) := by decide +kernel
theorem dX2_firstLapse_78 : decode cX2_firstLapse 78 = .ok (.iload_n 2, 1) := by decide +kernel
theorem dX2_firstLapse_79 : decode cX2_firstLapse 79 = .ok (.invokevirtual 207, 3) := by decide +kernel
theorem dX2_firstLapse_82 : decode cX2_firstLapse 82 = .ok (.ireturn, 1) := by decide +kernel
theorem dX2_lapsesAhead_0 : decode cX2_lapsesAhead 0 = .ok (.aload_n 0, 1) := by decide +kernel
theorem dX2_lapsesAhead_1 : decode cX2_lapsesAhead 1 = .ok (.iload_n 1, 1) := by decide +kernel
theorem dX2_lapsesAhead_2 : decode cX2_lapsesAhead 2 = .ok (.invokevirtual 207, 3) := by decide +kernel
theorem dX2_lapsesAhead_5 : decode cX2_lapsesAhead 5 = .ok (.istore_n 3, 1) := by decide +kernel
theorem dX2_lapsesAhead_6 : decode cX2_lapsesAhead 6 = .ok (.aload_n 0, 1) := by decide +kernel
theorem dX2_lapsesAhead_7 : decode cX2_lapsesAhead 7 = .ok (.iload_n 2, 1) := by decide +kernel
theorem dX2_lapsesAhead_8 : decode cX2_lapsesAhead 8 = .ok (.invokevirtual 207, 3) := by decide +kernel
theorem dX2_lapsesAhead_11 : decode cX2_lapsesAhead 11 = .ok (.istore 4, 2) := by decide +kernel
theorem dX2_lapsesAhead_13 : decode cX2_lapsesAhead 13 = .ok (.iload_n 3, 1) := by decide +kernel
theorem dX2_lapsesAhead_14 : decode cX2_lapsesAhead 14 = .ok (.iload 4, 2) := by decide +kernel
theorem dX2_lapsesAhead_16 : decode cX2_lapsesAhead 16 = .ok (.if_icmp .lt 30, 3) := by decide +kernel
theorem dX2_lapsesAhead_19 : decode cX2_lapsesAhead 19 = .ok (.iload_n 3, 1) := by decide +kernel
theorem dX2_lapsesAhead_20 : decode cX2_lapsesAhead 20 = .ok (.iload 4, 2) := by decide +kernel
theorem dX2_lapsesAhead_22 : decode cX2_lapsesAhead 22 = .ok (.if_icmp .ne 28, 3) := by decide +kernel
theorem dX2_lapsesAhead_25 : decode cX2_lapsesAhead 25 = .ok (.aload_n 0, 1) := by decide +kernel
theorem dX2_lapsesAhead_26 : decode cX2_lapsesAhead 26 = .ok (.getfield 25, 3) := by decide +kernel
theorem dX2_lapsesAhead_29 : decode cX2_lapsesAhead 29 = .ok (.getfield 100, 3) := by decide +kernel
theorem dX2_lapsesAhead_32 : decode cX2_lapsesAhead 32 = .ok (.iload_n 1, 1) := by decide +kernel
theorem dX2_lapsesAhead_33 : decode cX2_lapsesAhead 33 = .ok (.iaload, 1) := by decide +kernel
theorem dX2_lapsesAhead_34 : decode cX2_lapsesAhead 34 = .ok (.aload_n 0, 1) := by decide +kernel
theorem dX2_lapsesAhead_35 : decode cX2_lapsesAhead 35 = .ok (.getfield 25, 3) := by decide +kernel
theorem dX2_lapsesAhead_38 : decode cX2_lapsesAhead 38 = .ok (.getfield 100, 3) := by decide +kernel
theorem dX2_lapsesAhead_41 : decode cX2_lapsesAhead 41 = .ok (.iload_n 2, 1) := by decide +kernel
theorem dX2_lapsesAhead_42 : decode cX2_lapsesAhead 42 = .ok (.iaload, 1) := by decide +kernel
theorem dX2_lapsesAhead_43 : decode cX2_lapsesAhead 43 = .ok (.if_icmp .ge 7, 3) := by decide +kernel
theorem dX2_lapsesAhead_46 : decode cX2_lapsesAhead 46 = .ok (.iconst 1, 1) := by decide +kernel
theorem dX2_lapsesAhead_47 : decode cX2_lapsesAhead 47 = .ok (.goto 4, 3) := by decide +kernel
theorem dX2_lapsesAhead_50 : decode cX2_lapsesAhead 50 = .ok (.iconst 0, 1) := by decide +kernel
theorem dX2_lapsesAhead_51 : decode cX2_lapsesAhead 51 = .ok (.ireturn, 1) := by decide +kernel
theorem dX3_init_0 : decode cX3_init 0 = .ok (.aload_n 0, 1) := by decide +kernel
theorem dX3_init_1 : decode cX3_init 1 = .ok (.invokespecial 3, 3) := by decide +kernel
theorem dX3_init_4 : decode cX3_init 4 = .ok (.aload_n 0, 1) := by decide +kernel
theorem dX3_init_5 : decode cX3_init 5 = .ok (.bipush 80, 2) := by decide +kernel
theorem dX3_init_7 : decode cX3_init 7 = .ok (.newarray .char, 2) := by decide +kernel
theorem dX3_init_9 : decode cX3_init 9 = .ok (.putfield 9, 3) := by decide +kernel
theorem dX3_init_12 : decode cX3_init 12 = .ok (.aload_n 0, 1) := by decide +kernel
theorem dX3_init_13 : decode cX3_init 13 = .ok (.iconst 0, 1) := by decide +kernel
theorem dX3_init_14 : decode cX3_init 14 = .ok (.putfield 15, 3) := by decide +kernel
theorem dX3_init_17 : decode cX3_init 17 = .ok (.aload_n 0, 1) := by decide +kernel
theorem dX3_init_18 : decode cX3_init 18 = .ok (.iconst 0, 1) := by decide +kernel
theorem dX3_init_19 : decode cX3_init 19 = .ok (.putfield 19, 3) := by decide +kernel
theorem dX3_init_22 : decode cX3_init 22 = .ok (.aload_n 0, 1) := by decide +kernel
theorem dX3_init_23 : decode cX3_init 23 = .ok (.bipush 32, 2) := by decide +kernel
theorem dX3_init_25 : decode cX3_init 25 = .ok (.putfield 22, 3) := by decide +kernel
theorem dX3_init_28 : decode cX3_init 28 = .ok (.aload_n 0, 1) := by decide +kernel
theorem dX3_init_29 : decode cX3_init 29 = .ok (.iconst 0, 1) := by decide +kernel
theorem dX3_init_30 : decode cX3_init 30 = .ok (.putfield 26, 3) := by decide +kernel
theorem dX3_init_33 : decode cX3_init 33 = .ok (.aload_n 0, 1) := by decide +kernel
theorem dX3_init_34 : decode cX3_init 34 = .ok (.iconst 0, 1) := by decide +kernel
theorem dX3_init_35 : decode cX3_init 35 = .ok (.putfield 29, 3) := by decide +kernel
theorem dX3_init_38 : decode cX3_init 38 = .ok (.aload_n 0, 1) := by decide +kernel
theorem dX3_init_39 : decode cX3_init 39 = .ok (.iconst 0, 1) := by decide +kernel
theorem dX3_init_40 : decode cX3_init 40 = .ok (.putfield 32, 3) := by decide +kernel
theorem dX3_init_43 : decode cX3_init 43 = .ok (.return_, 1) := by decide +kernel
theorem dX3_append_0 : decode cX3_append 0 = .ok (.lload_n 1, 1) := by decide +kernel
theorem dX3_append_1 : decode cX3_append 1 = .ok (.invokestatic 35, 3) := by decide +kernel
theorem dX3_append_4 : decode cX3_append 4 = .ok (.istore_n 3, 1) := by decide +kernel
theorem dX3_append_5 : decode cX3_append 5 = .ok (.iload_n 3, 1) := by decide +kernel
theorem dX3_append_6 : decode cX3_append 6 = .ok (.ifCond .ne 6, 3) := by decide +kernel
theorem dX3_append_9 : decode cX3_append 9 = .ok (.bipush (-2), 2) := by decide +kernel
theorem dX3_append_11 : decode cX3_append 11 = .ok (.ireturn, 1) := by decide +kernel
theorem dX3_append_12 : decode cX3_append 12 = .ok (.aload_n 0, 1) := by decide +kernel
theorem dX3_append_13 : decode cX3_append 13 = .ok (.getfield 15, 3) := by decide +kernel
theorem dX3_append_16 : decode cX3_append 16 = .ok (.iload_n 3, 1) := by decide +kernel
theorem dX3_append_17 : decode cX3_append 17 = .ok (.iadd, 1) := by decide +kernel
theorem dX3_append_18 : decode cX3_append 18 = .ok (.bipush 80, 2) := by decide +kernel
theorem dX3_append_20 : decode cX3_append 20 = .ok (.if_icmp .le 6, 3) := by decide +kernel
theorem dX3_append_23 : decode cX3_append 23 = .ok (.bipush (-4), 2) := by decide +kernel
theorem dX3_append_25 : decode cX3_append 25 = .ok (.ireturn, 1) := by decide +kernel
theorem dX3_append_26 : decode cX3_append 26 = .ok (.iload_n 3, 1) := by decide +kernel
theorem dX3_append_27 : decode cX3_append 27 = .ok (.iconst 1, 1) := by decide +kernel
theorem dX3_append_28 : decode cX3_append 28 = .ok (.isub, 1) := by decide +kernel
theorem dX3_append_29 : decode cX3_append 29 = .ok (.istore 4, 2) := by decide +kernel
theorem dX3_append_31 : decode cX3_append 31 = .ok (.iload 4, 2) := by decide +kernel
theorem dX3_append_33 : decode cX3_append 33 = .ok (.ifCond .lt 35, 3) := by decide +kernel
theorem dX3_append_36 : decode cX3_append 36 = .ok (.aload_n 0, 1) := by decide +kernel
theorem dX3_append_37 : decode cX3_append 37 = .ok (.getfield 9, 3) := by decide +kernel
theorem dX3_append_40 : decode cX3_append 40 = .ok (.aload_n 0, 1) := by decide +kernel
theorem dX3_append_41 : decode cX3_append 41 = .ok (.getfield 15, 3) := by decide +kernel
theorem dX3_append_44 : decode cX3_append 44 = .ok (.lload_n 1, 1) := by decide +kernel
theorem dX3_append_45 : decode cX3_append 45 = .ok (.iload 4, 2) := by decide +kernel
theorem dX3_append_47 : decode cX3_append 47 = .ok (.invokestatic 39, 3) := by decide +kernel
theorem dX3_append_50 : decode cX3_append 50 = .ok (.i2c, 1) := by decide +kernel
theorem dX3_append_51 : decode cX3_append 51 = .ok (.castore, 1) := by decide +kernel
theorem dX3_append_52 : decode cX3_append 52 = .ok (.aload_n 0, 1) := by decide +kernel
theorem dX3_append_53 : decode cX3_append 53 = .ok (.dup, 1) := by decide +kernel
theorem dX3_append_54 : decode cX3_append 54 = .ok (.getfield 15, 3) := by decide +kernel
theorem dX3_append_57 : decode cX3_append 57 = .ok (.iconst 1, 1) := by decide +kernel
theorem dX3_append_58 : decode cX3_append 58 = .ok (.iadd, 1) := by decide +kernel
theorem dX3_append_59 : decode cX3_append 59 = .ok (.putfield 15, 3) := by decide +kernel
theorem dX3_append_62 : decode cX3_append 62 = .ok (.iinc 4 (-1), 3) := by decide +kernel
theorem dX3_append_65 : decode cX3_append 65 = .ok (.goto (-34), 3) := by decide +kernel
theorem dX3_append_68 : decode cX3_append 68 = .ok (.aload_n 0, 1) := by decide +kernel
theorem dX3_append_69 : decode cX3_append 69 = .ok (.getfield 15, 3) := by decide +kernel
theorem dX3_append_72 : decode cX3_append 72 = .ok (.ireturn, 1) := by decide +kernel
theorem dX3_charactersIn_0 : decode cX3_charactersIn 0 = .ok (.iconst 0, 1) := by decide +kernel
theorem dX3_charactersIn_1 : decode cX3_charactersIn 1 = .ok (.istore_n 2, 1) := by decide +kernel
theorem dX3_charactersIn_2 : decode cX3_charactersIn 2 = .ok (.iload_n 2, 1) := by decide +kernel
theorem dX3_charactersIn_3 : decode cX3_charactersIn 3 = .ok (.bipush 8, 2) := by decide +kernel
theorem dX3_charactersIn_5 : decode cX3_charactersIn 5 = .ok (.if_icmp .ge 42, 3) := by decide +kernel
theorem dX3_charactersIn_8 : decode cX3_charactersIn 8 = .ok (.lload_n 0, 1) := by decide +kernel
theorem dX3_charactersIn_9 : decode cX3_charactersIn 9 = .ok (.bipush 8, 2) := by decide +kernel
theorem dX3_charactersIn_11 : decode cX3_charactersIn 11 = .ok (.iload_n 2, 1) := by decide +kernel
theorem dX3_charactersIn_12 : decode cX3_charactersIn 12 = .ok (.imul, 1) := by decide +kernel
theorem dX3_charactersIn_13 : decode cX3_charactersIn 13 = .ok (.lushr, 1) := by decide +kernel
theorem dX3_charactersIn_14 : decode cX3_charactersIn 14 = .ok (.lconst 0, 1) := by decide +kernel
theorem dX3_charactersIn_15 : decode cX3_charactersIn 15 = .ok (.lcmp, 1) := by decide +kernel
theorem dX3_charactersIn_16 : decode cX3_charactersIn 16 = .ok (.ifCond .ne 5, 3) := by decide +kernel
theorem dX3_charactersIn_19 : decode cX3_charactersIn 19 = .ok (.iload_n 2, 1) := by decide +kernel
theorem dX3_charactersIn_20 : decode cX3_charactersIn 20 = .ok (.ireturn, 1) := by decide +kernel
theorem dX3_charactersIn_21 : decode cX3_charactersIn 21 = .ok (.lload_n 0, 1) := by decide +kernel
theorem dX3_charactersIn_22 : decode cX3_charactersIn 22 = .ok (.iload_n 2, 1) := by decide +kernel
theorem dX3_charactersIn_23 : decode cX3_charactersIn 23 = .ok (.invokestatic 39, 3) := by decide +kernel
theorem dX3_charactersIn_26 : decode cX3_charactersIn 26 = .ok (.istore_n 3, 1) := by decide +kernel
theorem dX3_charactersIn_27 : decode cX3_charactersIn 27 = .ok (.iload_n 3, 1) := by decide +kernel
theorem dX3_charactersIn_28 : decode cX3_charactersIn 28 = .ok (.bipush 33, 2) := by decide +kernel
theorem dX3_charactersIn_30 : decode cX3_charactersIn 30 = .ok (.if_icmp .lt 9, 3) := by decide +kernel
theorem dX3_charactersIn_33 : decode cX3_charactersIn 33 = .ok (.iload_n 3, 1) := by decide +kernel
theorem dX3_charactersIn_34 : decode cX3_charactersIn 34 = .ok (.bipush 126, 2) := by decide +kernel
theorem dX3_charactersIn_36 : decode cX3_charactersIn 36 = .ok (.if_icmp .le 5, 3) := by decide +kernel
theorem dX3_charactersIn_39 : decode cX3_charactersIn 39 = .ok (.iconst 0, 1) := by decide +kernel
theorem dX3_charactersIn_40 : decode cX3_charactersIn 40 = .ok (.ireturn, 1) := by decide +kernel
theorem dX3_charactersIn_41 : decode cX3_charactersIn 41 = .ok (.iinc 2 1, 3) := by decide +kernel
theorem dX3_charactersIn_44 : decode cX3_charactersIn 44 = .ok (.goto (-42), 3) := by decide +kernel
theorem dX3_charactersIn_47 : decode cX3_charactersIn 47 = .ok (.bipush 8, 2) := by decide +kernel
theorem dX3_charactersIn_49 : decode cX3_charactersIn 49 = .ok (.ireturn, 1) := by decide +kernel
theorem dX3_codeAt_0 : decode cX3_codeAt 0 = .ok (.lload_n 0, 1) := by decide +kernel
theorem dX3_codeAt_1 : decode cX3_codeAt 1 = .ok (.bipush 8, 2) := by decide +kernel
theorem dX3_codeAt_3 : decode cX3_codeAt 3 = .ok (.iload_n 2, 1) := by decide +kernel
theorem dX3_codeAt_4 : decode cX3_codeAt 4 = .ok (.imul, 1) := by decide +kernel
theorem dX3_codeAt_5 : decode cX3_codeAt 5 = .ok (.lushr, 1) := by decide +kernel
theorem dX3_codeAt_6 : decode cX3_codeAt 6 = .ok (.l2i, 1) := by decide +kernel
theorem dX3_codeAt_7 : decode cX3_codeAt 7 = .ok (.sipush 255, 3) := by decide +kernel
theorem dX3_codeAt_10 : decode cX3_codeAt 10 = .ok (.iand, 1) := by decide +kernel
theorem dX3_codeAt_11 : decode cX3_codeAt 11 = .ok (.ireturn, 1) := by decide +kernel
theorem dX3_empty_0 : decode cX3_empty 0 = .ok (.aload_n 0, 1) := by decide +kernel
theorem dX3_empty_1 : decode cX3_empty 1 = .ok (.getfield 15, 3) := by decide +kernel
theorem dX3_empty_4 : decode cX3_empty 4 = .ok (.istore_n 1, 1) := by decide +kernel
theorem dX3_empty_5 : decode cX3_empty 5 = .ok (.aload_n 0, 1) := by decide +kernel
theorem dX3_empty_6 : decode cX3_empty 6 = .ok (.iconst 0, 1) := by decide +kernel
theorem dX3_empty_7 : decode cX3_empty 7 = .ok (.putfield 15, 3) := by decide +kernel
theorem dX3_empty_10 : decode cX3_empty 10 = .ok (.iload_n 1, 1) := by decide +kernel
theorem dX3_empty_11 : decode cX3_empty 11 = .ok (.ireturn, 1) := by decide +kernel
theorem dX3_firstFault_0 : decode cX3_firstFault 0 = .ok (.aload_n 0, 1) := by decide +kernel
theorem dX3_firstFault_1 : decode cX3_firstFault 1 = .ok (.iconst 0, 1) := by decide +kernel
theorem dX3_firstFault_2 : decode cX3_firstFault 2 = .ok (.putfield 19, 3) := by decide +kernel
theorem dX3_firstFault_5 : decode cX3_firstFault 5 = .ok (.aload_n 0, 1) := by decide +kernel
theorem dX3_firstFault_6 : decode cX3_firstFault 6 = .ok (.invokevirtual 43, 3) := by decide +kernel
theorem dX3_firstFault_9 : decode cX3_firstFault 9 = .ok (.istore_n 1, 1) := by decide +kernel
theorem dX3_firstFault_10 : decode cX3_firstFault 10 = .ok (.iconst 1, 1) := by decide +kernel
theorem dX3_firstFault_11 : decode cX3_firstFault 11 = .ok (.istore_n 2, 1) := by decide +kernel
theorem dX3_firstFault_12 : decode cX3_firstFault 12 = .ok (.iload_n 1, 1) := by decide +kernel
theorem dX3_firstFault_13 : decode cX3_firstFault 13 = .ok (.ifCond .eq 48, 3) := by decide +kernel
theorem dX3_firstFault_16 : decode cX3_firstFault 16 = .ok (.aload_n 0, 1) := by decide +kernel
theorem dX3_firstFault_17 : decode cX3_firstFault 17 = .ok (.getfield 19, 3) := by decide +kernel
theorem dX3_firstFault_20 : decode cX3_firstFault 20 = .ok (.aload_n 0, 1) := by decide +kernel
theorem dX3_firstFault_21 : decode cX3_firstFault 21 = .ok (.getfield 15, 3) := by decide +kernel
theorem dX3_firstFault_24 : decode cX3_firstFault 24 = .ok (.if_icmp .ge 37, 3) := by decide +kernel
theorem dX3_firstFault_27 : decode cX3_firstFault 27 = .ok (.iload_n 2, 1) := by decide +kernel
theorem dX3_firstFault_28 : decode cX3_firstFault 28 = .ok (.bipush 80, 2) := by decide +kernel
theorem dX3_firstFault_30 : decode cX3_firstFault 30 = .ok (.if_icmp .ge 31, 3) := by decide +kernel
theorem dX3_firstFault_33 : decode cX3_firstFault 33 = .ok (.aload_n 0, 1) := by decide +kernel
theorem dX3_firstFault_34 : decode cX3_firstFault 34 = .ok (.bipush 59, 2) := by decide +kernel
theorem dX3_firstFault_36 : decode cX3_firstFault 36 = .ok (.invokevirtual 47, 3) := by decide +kernel
theorem dX3_firstFault_39 : decode cX3_firstFault 39 = .ok (.ifCond .eq 14, 3) := by decide +kernel
theorem dX3_firstFault_42 : decode cX3_firstFault 42 = .ok (.aload_n 0, 1) := by decide +kernel
theorem dX3_firstFault_43 : decode cX3_firstFault 43 = .ok (.invokevirtual 43, 3) := by decide +kernel
theorem dX3_firstFault_46 : decode cX3_firstFault 46 = .ok (.ifCond .eq 7, 3) := by decide +kernel
theorem dX3_firstFault_49 : decode cX3_firstFault 49 = .ok (.iconst 1, 1) := by decide +kernel
theorem dX3_firstFault_50 : decode cX3_firstFault 50 = .ok (.goto 4, 3) := by decide +kernel
theorem dX3_firstFault_53 : decode cX3_firstFault 53 = .ok (.iconst 0, 1) := by decide +kernel
theorem dX3_firstFault_54 : decode cX3_firstFault 54 = .ok (.istore_n 1, 1) := by decide +kernel
theorem dX3_firstFault_55 : decode cX3_firstFault 55 = .ok (.iinc 2 1, 3) := by decide +kernel
theorem dX3_firstFault_58 : decode cX3_firstFault 58 = .ok (.goto (-46), 3) := by decide +kernel
theorem dX3_firstFault_61 : decode cX3_firstFault 61 = .ok (.iload_n 1, 1) := by decide +kernel
theorem dX3_firstFault_62 : decode cX3_firstFault 62 = .ok (.ifCond .eq 8, 3) := by decide +kernel
theorem dX3_firstFault_65 : decode cX3_firstFault 65 = .ok (.bipush (-6), 2) := by decide +kernel
theorem dX3_firstFault_67 : decode cX3_firstFault 67 = .ok (.goto 7, 3) := by decide +kernel
theorem dX3_firstFault_70 : decode cX3_firstFault 70 = .ok (.aload_n 0, 1) := by decide +kernel
theorem dX3_firstFault_71 : decode cX3_firstFault 71 = .ok (.getfield 19, 3) := by decide +kernel
theorem dX3_firstFault_74 : decode cX3_firstFault 74 = .ok (.ireturn, 1) := by decide +kernel
theorem dX3_readOrder_0 : decode cX3_readOrder 0 = .ok (.aload_n 0, 1) := by decide +kernel
theorem dX3_readOrder_1 : decode cX3_readOrder 1 = .ok (.getfield 19, 3) := by decide +kernel
theorem dX3_readOrder_4 : decode cX3_readOrder 4 = .ok (.aload_n 0, 1) := by decide +kernel
theorem dX3_readOrder_5 : decode cX3_readOrder 5 = .ok (.getfield 15, 3) := by decide +kernel
theorem dX3_readOrder_8 : decode cX3_readOrder 8 = .ok (.if_icmp .lt 5, 3) := by decide +kernel
theorem dX3_readOrder_11 : decode cX3_readOrder 11 = .ok (.iconst 0, 1) := by decide +kernel
theorem dX3_readOrder_12 : decode cX3_readOrder 12 = .ok (.ireturn, 1) := by decide +kernel
theorem dX3_readOrder_13 : decode cX3_readOrder 13 = .ok (.aload_n 0, 1) := by decide +kernel
theorem dX3_readOrder_14 : decode cX3_readOrder 14 = .ok (.aload_n 0, 1) := by decide +kernel
theorem dX3_readOrder_15 : decode cX3_readOrder 15 = .ok (.getfield 9, 3) := by decide +kernel
theorem dX3_readOrder_18 : decode cX3_readOrder 18 = .ok (.aload_n 0, 1) := by decide +kernel
theorem dX3_readOrder_19 : decode cX3_readOrder 19 = .ok (.getfield 19, 3) := by decide +kernel
theorem dX3_readOrder_22 : decode cX3_readOrder 22 = .ok (.caload, 1) := by decide +kernel
theorem dX3_readOrder_23 : decode cX3_readOrder 23 = .ok (.putfield 22, 3) := by decide +kernel
theorem dX3_readOrder_26 : decode cX3_readOrder 26 = .ok (.aload_n 0, 1) := by decide +kernel
theorem dX3_readOrder_27 : decode cX3_readOrder 27 = .ok (.getfield 22, 3) := by decide +kernel
theorem dX3_readOrder_30 : decode cX3_readOrder 30 = .ok (.tableswitch 207 99 119 #[152, 98, 207, 207, 207, 207, 207, 207, 207, 98, 207, 98, 207, 113, 207, 207, 98, 98, 207, 207, 98], 98) := by decide +kernel
theorem dX3_readOrder_128 : decode cX3_readOrder 128 = .ok (.aload_n 0, 1) := by decide +kernel
theorem dX3_readOrder_129 : decode cX3_readOrder 129 = .ok (.dup, 1) := by decide +kernel
theorem dX3_readOrder_130 : decode cX3_readOrder 130 = .ok (.getfield 19, 3) := by decide +kernel
theorem dX3_readOrder_133 : decode cX3_readOrder 133 = .ok (.iconst 1, 1) := by decide +kernel
theorem dX3_readOrder_134 : decode cX3_readOrder 134 = .ok (.iadd, 1) := by decide +kernel
theorem dX3_readOrder_135 : decode cX3_readOrder 135 = .ok (.putfield 19, 3) := by decide +kernel
theorem dX3_readOrder_138 : decode cX3_readOrder 138 = .ok (.aload_n 0, 1) := by decide +kernel
theorem dX3_readOrder_139 : decode cX3_readOrder 139 = .ok (.invokevirtual 51, 3) := by decide +kernel
theorem dX3_readOrder_142 : decode cX3_readOrder 142 = .ok (.ireturn, 1) := by decide +kernel
theorem dX3_readOrder_143 : decode cX3_readOrder 143 = .ok (.aload_n 0, 1) := by decide +kernel
theorem dX3_readOrder_144 : decode cX3_readOrder 144 = .ok (.dup, 1) := by decide +kernel
theorem dX3_readOrder_145 : decode cX3_readOrder 145 = .ok (.getfield 19, 3) := by decide +kernel
theorem dX3_readOrder_148 : decode cX3_readOrder 148 = .ok (.iconst 1, 1) := by decide +kernel
theorem dX3_readOrder_149 : decode cX3_readOrder 149 = .ok (.iadd, 1) := by decide +kernel
theorem dX3_readOrder_150 : decode cX3_readOrder 150 = .ok (.putfield 19, 3) := by decide +kernel
theorem dX3_readOrder_153 : decode cX3_readOrder 153 = .ok (.aload_n 0, 1) := by decide +kernel
theorem dX3_readOrder_154 : decode cX3_readOrder 154 = .ok (.invokevirtual 51, 3) := by decide +kernel
theorem dX3_readOrder_157 : decode cX3_readOrder 157 = .ok (.ifCond .eq 23, 3) := by decide +kernel
theorem dX3_readOrder_160 : decode cX3_readOrder 160 = .ok (.aload_n 0, 1) := by decide +kernel
theorem dX3_readOrder_161 : decode cX3_readOrder 161 = .ok (.bipush 43, 2) := by decide +kernel
theorem dX3_readOrder_163 : decode cX3_readOrder 163 = .ok (.invokevirtual 47, 3) := by decide +kernel
theorem dX3_readOrder_166 : decode cX3_readOrder 166 = .ok (.ifCond .eq 14, 3) := by decide +kernel
theorem dX3_readOrder_169 : decode cX3_readOrder 169 = .ok (.aload_n 0, 1) := by decide +kernel
theorem dX3_readOrder_170 : decode cX3_readOrder 170 = .ok (.invokevirtual 54, 3) := by decide +kernel
theorem dX3_readOrder_173 : decode cX3_readOrder 173 = .ok (.ifCond .eq 7, 3) := by decide +kernel
theorem dX3_readOrder_176 : decode cX3_readOrder 176 = .ok (.iconst 1, 1) := by decide +kernel
theorem dX3_readOrder_177 : decode cX3_readOrder 177 = .ok (.goto 4, 3) := by decide +kernel
theorem dX3_readOrder_180 : decode cX3_readOrder 180 = .ok (.iconst 0, 1) := by decide +kernel
theorem dX3_readOrder_181 : decode cX3_readOrder 181 = .ok (.ireturn, 1) := by decide +kernel
theorem dX3_readOrder_182 : decode cX3_readOrder 182 = .ok (.aload_n 0, 1) := by decide +kernel
theorem dX3_readOrder_183 : decode cX3_readOrder 183 = .ok (.dup, 1) := by decide +kernel
theorem dX3_readOrder_184 : decode cX3_readOrder 184 = .ok (.getfield 19, 3) := by decide +kernel
theorem dX3_readOrder_187 : decode cX3_readOrder 187 = .ok (.iconst 1, 1) := by decide +kernel
theorem dX3_readOrder_188 : decode cX3_readOrder 188 = .ok (.iadd, 1) := by decide +kernel
theorem dX3_readOrder_189 : decode cX3_readOrder 189 = .ok (.putfield 19, 3) := by decide +kernel
theorem dX3_readOrder_192 : decode cX3_readOrder 192 = .ok (.aload_n 0, 1) := by decide +kernel
theorem dX3_readOrder_193 : decode cX3_readOrder 193 = .ok (.invokevirtual 51, 3) := by decide +kernel
theorem dX3_readOrder_196 : decode cX3_readOrder 196 = .ok (.ifCond .eq 39, 3) := by decide +kernel
theorem dX3_readOrder_199 : decode cX3_readOrder 199 = .ok (.aload_n 0, 1) := by decide +kernel
theorem dX3_readOrder_200 : decode cX3_readOrder 200 = .ok (.bipush 64, 2) := by decide +kernel
theorem dX3_readOrder_202 : decode cX3_readOrder 202 = .ok (.invokevirtual 47, 3) := by decide +kernel
theorem dX3_readOrder_205 : decode cX3_readOrder 205 = .ok (.ifCond .eq 30, 3) := by decide +kernel
theorem dX3_readOrder_208 : decode cX3_readOrder 208 = .ok (.aload_n 0, 1) := by decide +kernel
theorem dX3_readOrder_209 : decode cX3_readOrder 209 = .ok (.invokevirtual 54, 3) := by decide +kernel
theorem dX3_readOrder_212 : decode cX3_readOrder 212 = .ok (.ifCond .eq 23, 3) := by decide +kernel
theorem dX3_readOrder_215 : decode cX3_readOrder 215 = .ok (.aload_n 0, 1) := by decide +kernel
theorem dX3_readOrder_216 : decode cX3_readOrder 216 = .ok (.bipush 47, 2) := by decide +kernel
theorem dX3_readOrder_218 : decode cX3_readOrder 218 = .ok (.invokevirtual 47, 3) := by decide +kernel
theorem dX3_readOrder_221 : decode cX3_readOrder 221 = .ok (.ifCond .eq 14, 3) := by decide +kernel
theorem dX3_readOrder_224 : decode cX3_readOrder 224 = .ok (.aload_n 0, 1) := by decide +kernel
theorem dX3_readOrder_225 : decode cX3_readOrder 225 = .ok (.invokevirtual 57, 3) := by decide +kernel
theorem dX3_readOrder_228 : decode cX3_readOrder 228 = .ok (.ifCond .eq 7, 3) := by decide +kernel
theorem dX3_readOrder_231 : decode cX3_readOrder 231 = .ok (.iconst 1, 1) := by decide +kernel
theorem dX3_readOrder_232 : decode cX3_readOrder 232 = .ok (.goto 4, 3) := by decide +kernel
theorem dX3_readOrder_235 : decode cX3_readOrder 235 = .ok (.iconst 0, 1) := by decide +kernel
theorem dX3_readOrder_236 : decode cX3_readOrder 236 = .ok (.ireturn, 1) := by decide +kernel
theorem dX3_readOrder_237 : decode cX3_readOrder 237 = .ok (.iconst 0, 1) := by decide +kernel
theorem dX3_readOrder_238 : decode cX3_readOrder 238 = .ok (.ireturn, 1) := by decide +kernel
theorem dX3_readFirst_0 : decode cX3_readFirst 0 = .ok (.aload_n 0, 1) := by decide +kernel
theorem dX3_readFirst_1 : decode cX3_readFirst 1 = .ok (.aload_n 0, 1) := by decide +kernel
theorem dX3_readFirst_2 : decode cX3_readFirst 2 = .ok (.invokevirtual 60, 3) := by decide +kernel
theorem dX3_readFirst_5 : decode cX3_readFirst 5 = .ok (.putfield 26, 3) := by decide +kernel
theorem dX3_readFirst_8 : decode cX3_readFirst 8 = .ok (.aload_n 0, 1) := by decide +kernel
theorem dX3_readFirst_9 : decode cX3_readFirst 9 = .ok (.getfield 26, 3) := by decide +kernel
theorem dX3_readFirst_12 : decode cX3_readFirst 12 = .ok (.ifCond .lt 7, 3) := by decide +kernel
theorem dX3_readFirst_15 : decode cX3_readFirst 15 = .ok (.iconst 1, 1) := by decide +kernel
theorem dX3_readFirst_16 : decode cX3_readFirst 16 = .ok (.goto 4, 3) := by decide +kernel
theorem dX3_readFirst_19 : decode cX3_readFirst 19 = .ok (.iconst 0, 1) := by decide +kernel
theorem dX3_readFirst_20 : decode cX3_readFirst 20 = .ok (.ireturn, 1) := by decide +kernel
theorem dX3_readSecond_0 : decode cX3_readSecond 0 = .ok (.aload_n 0, 1) := by decide +kernel
theorem dX3_readSecond_1 : decode cX3_readSecond 1 = .ok (.aload_n 0, 1) := by decide +kernel
theorem dX3_readSecond_2 : decode cX3_readSecond 2 = .ok (.invokevirtual 60, 3) := by decide +kernel
theorem dX3_readSecond_5 : decode cX3_readSecond 5 = .ok (.putfield 29, 3) := by decide +kernel
theorem dX3_readSecond_8 : decode cX3_readSecond 8 = .ok (.aload_n 0, 1) := by decide +kernel
theorem dX3_readSecond_9 : decode cX3_readSecond 9 = .ok (.getfield 29, 3) := by decide +kernel
theorem dX3_readSecond_12 : decode cX3_readSecond 12 = .ok (.ifCond .lt 7, 3) := by decide +kernel
theorem dX3_readSecond_15 : decode cX3_readSecond 15 = .ok (.iconst 1, 1) := by decide +kernel
theorem dX3_readSecond_16 : decode cX3_readSecond 16 = .ok (.goto 4, 3) := by decide +kernel
theorem dX3_readSecond_19 : decode cX3_readSecond 19 = .ok (.iconst 0, 1) := by decide +kernel
theorem dX3_readSecond_20 : decode cX3_readSecond 20 = .ok (.ireturn, 1) := by decide +kernel
theorem dX3_readThird_0 : decode cX3_readThird 0 = .ok (.aload_n 0, 1) := by decide +kernel
theorem dX3_readThird_1 : decode cX3_readThird 1 = .ok (.aload_n 0, 1) := by decide +kernel
theorem dX3_readThird_2 : decode cX3_readThird 2 = .ok (.invokevirtual 64, 3) := by decide +kernel
theorem dX3_readThird_5 : decode cX3_readThird 5 = .ok (.putfield 32, 3) := by decide +kernel
theorem dX3_readThird_8 : decode cX3_readThird 8 = .ok (.aload_n 0, 1) := by decide +kernel
theorem dX3_readThird_9 : decode cX3_readThird 9 = .ok (.getfield 32, 3) := by decide +kernel
theorem dX3_readThird_12 : decode cX3_readThird 12 = .ok (.ifCond .lt 7, 3) := by decide +kernel
theorem dX3_readThird_15 : decode cX3_readThird 15 = .ok (.iconst 1, 1) := by decide +kernel
theorem dX3_readThird_16 : decode cX3_readThird 16 = .ok (.goto 4, 3) := by decide +kernel
theorem dX3_readThird_19 : decode cX3_readThird 19 = .ok (.iconst 0, 1) := by decide +kernel
theorem dX3_readThird_20 : decode cX3_readThird 20 = .ok (.ireturn, 1) := by decide +kernel
theorem dX3_readSign_0 : decode cX3_readSign 0 = .ok (.aload_n 0, 1) := by decide +kernel
theorem dX3_readSign_1 : decode cX3_readSign 1 = .ok (.getfield 19, 3) := by decide +kernel
theorem dX3_readSign_4 : decode cX3_readSign 4 = .ok (.aload_n 0, 1) := by decide +kernel
theorem dX3_readSign_5 : decode cX3_readSign 5 = .ok (.getfield 15, 3) := by decide +kernel
theorem dX3_readSign_8 : decode cX3_readSign 8 = .ok (.if_icmp .ge 16, 3) := by decide +kernel
theorem dX3_readSign_11 : decode cX3_readSign 11 = .ok (.aload_n 0, 1) := by decide +kernel
theorem dX3_readSign_12 : decode cX3_readSign 12 = .ok (.getfield 9, 3) := by decide +kernel
theorem dX3_readSign_15 : decode cX3_readSign 15 = .ok (.aload_n 0, 1) := by decide +kernel
theorem dX3_readSign_16 : decode cX3_readSign 16 = .ok (.getfield 19, 3) := by decide +kernel
theorem dX3_readSign_19 : decode cX3_readSign 19 = .ok (.caload, 1) := by decide +kernel
theorem dX3_readSign_20 : decode cX3_readSign 20 = .ok (.iload_n 1, 1) := by decide +kernel
theorem dX3_readSign_21 : decode cX3_readSign 21 = .ok (.if_icmp .eq 5, 3) := by decide +kernel
theorem dX3_readSign_24 : decode cX3_readSign 24 = .ok (.iconst 0, 1) := by decide +kernel
theorem dX3_readSign_25 : decode cX3_readSign 25 = .ok (.ireturn, 1) := by decide +kernel
theorem dX3_readSign_26 : decode cX3_readSign 26 = .ok (.aload_n 0, 1) := by decide +kernel
theorem dX3_readSign_27 : decode cX3_readSign 27 = .ok (.dup, 1) := by decide +kernel
theorem dX3_readSign_28 : decode cX3_readSign 28 = .ok (.getfield 19, 3) := by decide +kernel
theorem dX3_readSign_31 : decode cX3_readSign 31 = .ok (.iconst 1, 1) := by decide +kernel
theorem dX3_readSign_32 : decode cX3_readSign 32 = .ok (.iadd, 1) := by decide +kernel
theorem dX3_readSign_33 : decode cX3_readSign 33 = .ok (.putfield 19, 3) := by decide +kernel
theorem dX3_readSign_36 : decode cX3_readSign 36 = .ok (.iconst 1, 1) := by decide +kernel
theorem dX3_readSign_37 : decode cX3_readSign 37 = .ok (.ireturn, 1) := by decide +kernel
theorem dX3_readNumber_0 : decode cX3_readNumber 0 = .ok (.aload_n 0, 1) := by decide +kernel
theorem dX3_readNumber_1 : decode cX3_readNumber 1 = .ok (.invokevirtual 64, 3) := by decide +kernel
theorem dX3_readNumber_4 : decode cX3_readNumber 4 = .ok (.istore_n 1, 1) := by decide +kernel
theorem dX3_readNumber_5 : decode cX3_readNumber 5 = .ok (.iload_n 1, 1) := by decide +kernel
theorem dX3_readNumber_6 : decode cX3_readNumber 6 = .ok (.ifCond .gt 5, 3) := by decide +kernel
theorem dX3_readNumber_9 : decode cX3_readNumber 9 = .ok (.iload_n 1, 1) := by decide +kernel
theorem dX3_readNumber_10 : decode cX3_readNumber 10 = .ok (.ireturn, 1) := by decide +kernel
theorem dX3_readNumber_11 : decode cX3_readNumber 11 = .ok (.iconst 1, 1) := by decide +kernel
theorem dX3_readNumber_12 : decode cX3_readNumber 12 = .ok (.istore_n 2, 1) := by decide +kernel
theorem dX3_readNumber_13 : decode cX3_readNumber 13 = .ok (.iload_n 2, 1) := by decide +kernel
theorem dX3_readNumber_14 : decode cX3_readNumber 14 = .ok (.iconst 4, 1) := by decide +kernel
theorem dX3_readNumber_15 : decode cX3_readNumber 15 = .ok (.if_icmp .ge 27, 3) := by decide +kernel
theorem dX3_readNumber_18 : decode cX3_readNumber 18 = .ok (.aload_n 0, 1) := by decide +kernel
theorem dX3_readNumber_19 : decode cX3_readNumber 19 = .ok (.invokevirtual 64, 3) := by decide +kernel
theorem dX3_readNumber_22 : decode cX3_readNumber 22 = .ok (.istore_n 3, 1) := by decide +kernel
theorem dX3_readNumber_23 : decode cX3_readNumber 23 = .ok (.iload_n 3, 1) := by decide +kernel
theorem dX3_readNumber_24 : decode cX3_readNumber 24 = .ok (.ifCond .ge 5, 3) := by decide +kernel
theorem dX3_readNumber_27 : decode cX3_readNumber 27 = .ok (.iload_n 1, 1) := by decide +kernel
theorem dX3_readNumber_28 : decode cX3_readNumber 28 = .ok (.ireturn, 1) := by decide +kernel
theorem dX3_readNumber_29 : decode cX3_readNumber 29 = .ok (.iload_n 1, 1) := by decide +kernel
theorem dX3_readNumber_30 : decode cX3_readNumber 30 = .ok (.bipush 10, 2) := by decide +kernel
theorem dX3_readNumber_32 : decode cX3_readNumber 32 = .ok (.imul, 1) := by decide +kernel
theorem dX3_readNumber_33 : decode cX3_readNumber 33 = .ok (.iload_n 3, 1) := by decide +kernel
theorem dX3_readNumber_34 : decode cX3_readNumber 34 = .ok (.iadd, 1) := by decide +kernel
theorem dX3_readNumber_35 : decode cX3_readNumber 35 = .ok (.istore_n 1, 1) := by decide +kernel
theorem dX3_readNumber_36 : decode cX3_readNumber 36 = .ok (.iinc 2 1, 3) := by decide +kernel
theorem dX3_readNumber_39 : decode cX3_readNumber 39 = .ok (.goto (-26), 3) := by decide +kernel
theorem dX3_readNumber_42 : decode cX3_readNumber 42 = .ok (.iload_n 1, 1) := by decide +kernel
theorem dX3_readNumber_43 : decode cX3_readNumber 43 = .ok (.ireturn, 1) := by decide +kernel
theorem dX3_readDigit_0 : decode cX3_readDigit 0 = .ok (.aload_n 0, 1) := by decide +kernel
theorem dX3_readDigit_1 : decode cX3_readDigit 1 = .ok (.getfield 19, 3) := by decide +kernel
theorem dX3_readDigit_4 : decode cX3_readDigit 4 = .ok (.aload_n 0, 1) := by decide +kernel
theorem dX3_readDigit_5 : decode cX3_readDigit 5 = .ok (.getfield 15, 3) := by decide +kernel
theorem dX3_readDigit_8 : decode cX3_readDigit 8 = .ok (.if_icmp .ge 31, 3) := by decide +kernel
theorem dX3_readDigit_11 : decode cX3_readDigit 11 = .ok (.aload_n 0, 1) := by decide +kernel
theorem dX3_readDigit_12 : decode cX3_readDigit 12 = .ok (.getfield 9, 3) := by decide +kernel
theorem dX3_readDigit_15 : decode cX3_readDigit 15 = .ok (.aload_n 0, 1) := by decide +kernel
theorem dX3_readDigit_16 : decode cX3_readDigit 16 = .ok (.getfield 19, 3) := by decide +kernel
theorem dX3_readDigit_19 : decode cX3_readDigit 19 = .ok (.caload, 1) := by decide +kernel
theorem dX3_readDigit_20 : decode cX3_readDigit 20 = .ok (.bipush 48, 2) := by decide +kernel
theorem dX3_readDigit_22 : decode cX3_readDigit 22 = .ok (.if_icmp .lt 17, 3) := by decide +kernel
theorem dX3_readDigit_25 : decode cX3_readDigit 25 = .ok (.aload_n 0, 1) := by decide +kernel
theorem dX3_readDigit_26 : decode cX3_readDigit 26 = .ok (.getfield 9, 3) := by decide +kernel
theorem dX3_readDigit_29 : decode cX3_readDigit 29 = .ok (.aload_n 0, 1) := by decide +kernel
theorem dX3_readDigit_30 : decode cX3_readDigit 30 = .ok (.getfield 19, 3) := by decide +kernel
theorem dX3_readDigit_33 : decode cX3_readDigit 33 = .ok (.caload, 1) := by decide +kernel
theorem dX3_readDigit_34 : decode cX3_readDigit 34 = .ok (.bipush 57, 2) := by decide +kernel
theorem dX3_readDigit_36 : decode cX3_readDigit 36 = .ok (.if_icmp .le 5, 3) := by decide +kernel
theorem dX3_readDigit_39 : decode cX3_readDigit 39 = .ok (.iconst (-1), 1) := by decide +kernel
theorem dX3_readDigit_40 : decode cX3_readDigit 40 = .ok (.ireturn, 1) := by decide +kernel
theorem dX3_readDigit_41 : decode cX3_readDigit 41 = .ok (.aload_n 0, 1) := by decide +kernel
theorem dX3_readDigit_42 : decode cX3_readDigit 42 = .ok (.getfield 9, 3) := by decide +kernel
theorem dX3_readDigit_45 : decode cX3_readDigit 45 = .ok (.aload_n 0, 1) := by decide +kernel
theorem dX3_readDigit_46 : decode cX3_readDigit 46 = .ok (.getfield 19, 3) := by decide +kernel
theorem dX3_readDigit_49 : decode cX3_readDigit 49 = .ok (.caload, 1) := by decide +kernel
theorem dX3_readDigit_50 : decode cX3_readDigit 50 = .ok (.bipush 48, 2) := by decide +kernel
theorem dX3_readDigit_52 : decode cX3_readDigit 52 = .ok (.isub, 1) := by decide +kernel
theorem dX3_readDigit_53 : decode cX3_readDigit 53 = .ok (.istore_n 1, 1) := by decide +kernel
theorem dX3_readDigit_54 : decode cX3_readDigit 54 = .ok (.aload_n 0, 1) := by decide +kernel
theorem dX3_readDigit_55 : decode cX3_readDigit 55 = .ok (.dup, 1) := by decide +kernel
theorem dX3_readDigit_56 : decode cX3_readDigit 56 = .ok (.getfield 19, 3) := by decide +kernel
theorem dX3_readDigit_59 : decode cX3_readDigit 59 = .ok (.iconst 1, 1) := by decide +kernel
theorem dX3_readDigit_60 : decode cX3_readDigit 60 = .ok (.iadd, 1) := by decide +kernel
theorem dX3_readDigit_61 : decode cX3_readDigit 61 = .ok (.putfield 19, 3) := by decide +kernel
theorem dX3_readDigit_64 : decode cX3_readDigit 64 = .ok (.iload_n 1, 1) := by decide +kernel
theorem dX3_readDigit_65 : decode cX3_readDigit 65 = .ok (.ireturn, 1) := by decide +kernel
theorem dX4_init_0 : decode cX4_init 0 = .ok (.aload_n 0, 1) := by decide +kernel
theorem dX4_init_1 : decode cX4_init 1 = .ok (.invokespecial 1, 3) := by decide +kernel
theorem dX4_init_4 : decode cX4_init 4 = .ok (.aload_n 0, 1) := by decide +kernel
theorem dX4_init_5 : decode cX4_init 5 = .ok (.new 7, 3) := by decide +kernel
theorem dX4_init_8 : decode cX4_init 8 = .ok (.dup, 1) := by decide +kernel
theorem dX4_init_9 : decode cX4_init 9 = .ok (.invokespecial 9, 3) := by decide +kernel
theorem dX4_init_12 : decode cX4_init 12 = .ok (.putfield 10, 3) := by decide +kernel
theorem dX4_init_15 : decode cX4_init 15 = .ok (.aload_n 0, 1) := by decide +kernel
theorem dX4_init_16 : decode cX4_init 16 = .ok (.new 16, 3) := by decide +kernel
theorem dX4_init_19 : decode cX4_init 19 = .ok (.dup, 1) := by decide +kernel
theorem dX4_init_20 : decode cX4_init 20 = .ok (.invokespecial 18, 3) := by decide +kernel
theorem dX4_init_23 : decode cX4_init 23 = .ok (.putfield 19, 3) := by decide +kernel
theorem dX4_init_26 : decode cX4_init 26 = .ok (.aload_n 0, 1) := by decide +kernel
theorem dX4_init_27 : decode cX4_init 27 = .ok (.bipush 7, 2) := by decide +kernel
theorem dX4_init_29 : decode cX4_init 29 = .ok (.anewarray 7, 3) := by decide +kernel
theorem dX4_init_32 : decode cX4_init 32 = .ok (.putfield 23, 3) := by decide +kernel
theorem dX4_init_35 : decode cX4_init 35 = .ok (.aload_n 0, 1) := by decide +kernel
theorem dX4_init_36 : decode cX4_init 36 = .ok (.iconst 0, 1) := by decide +kernel
theorem dX4_init_37 : decode cX4_init 37 = .ok (.putfield 27, 3) := by decide +kernel
theorem dX4_init_40 : decode cX4_init 40 = .ok (.aload_n 0, 1) := by decide +kernel
theorem dX4_init_41 : decode cX4_init 41 = .ok (.iconst 2, 1) := by decide +kernel
theorem dX4_init_42 : decode cX4_init 42 = .ok (.anewarray 7, 3) := by decide +kernel
theorem dX4_init_45 : decode cX4_init 45 = .ok (.putfield 31, 3) := by decide +kernel
theorem dX4_init_48 : decode cX4_init 48 = .ok (.aload_n 0, 1) := by decide +kernel
theorem dX4_init_49 : decode cX4_init 49 = .ok (.iconst 2, 1) := by decide +kernel
theorem dX4_init_50 : decode cX4_init 50 = .ok (.newarray .boolean, 2) := by decide +kernel
theorem dX4_init_52 : decode cX4_init 52 = .ok (.putfield 34, 3) := by decide +kernel
theorem dX4_init_55 : decode cX4_init 55 = .ok (.iconst 0, 1) := by decide +kernel
theorem dX4_init_56 : decode cX4_init 56 = .ok (.istore_n 1, 1) := by decide +kernel
theorem dX4_init_57 : decode cX4_init 57 = .ok (.iload_n 1, 1) := by decide +kernel
theorem dX4_init_58 : decode cX4_init 58 = .ok (.aload_n 0, 1) := by decide +kernel
theorem dX4_init_59 : decode cX4_init 59 = .ok (.getfield 23, 3) := by decide +kernel
theorem dX4_init_62 : decode cX4_init 62 = .ok (.arraylength, 1) := by decide +kernel
theorem dX4_init_63 : decode cX4_init 63 = .ok (.if_icmp .ge 22, 3) := by decide +kernel
theorem dX4_init_66 : decode cX4_init 66 = .ok (.aload_n 0, 1) := by decide +kernel
theorem dX4_init_67 : decode cX4_init 67 = .ok (.getfield 23, 3) := by decide +kernel
theorem dX4_init_70 : decode cX4_init 70 = .ok (.iload_n 1, 1) := by decide +kernel
theorem dX4_init_71 : decode cX4_init 71 = .ok (.new 7, 3) := by decide +kernel
theorem dX4_init_74 : decode cX4_init 74 = .ok (.dup, 1) := by decide +kernel
theorem dX4_init_75 : decode cX4_init 75 = .ok (.invokespecial 9, 3) := by decide +kernel
theorem dX4_init_78 : decode cX4_init 78 = .ok (.aastore, 1) := by decide +kernel
theorem dX4_init_79 : decode cX4_init 79 = .ok (.iinc 1 1, 3) := by decide +kernel
theorem dX4_init_82 : decode cX4_init 82 = .ok (.goto (-25), 3) := by decide +kernel
theorem dX4_init_85 : decode cX4_init 85 = .ok (.iconst 0, 1) := by decide +kernel
theorem dX4_init_86 : decode cX4_init 86 = .ok (.istore_n 1, 1) := by decide +kernel
theorem dX4_init_87 : decode cX4_init 87 = .ok (.iload_n 1, 1) := by decide +kernel
theorem dX4_init_88 : decode cX4_init 88 = .ok (.aload_n 0, 1) := by decide +kernel
theorem dX4_init_89 : decode cX4_init 89 = .ok (.getfield 31, 3) := by decide +kernel
theorem dX4_init_92 : decode cX4_init 92 = .ok (.arraylength, 1) := by decide +kernel
theorem dX4_init_93 : decode cX4_init 93 = .ok (.if_icmp .ge 22, 3) := by decide +kernel
theorem dX4_init_96 : decode cX4_init 96 = .ok (.aload_n 0, 1) := by decide +kernel
theorem dX4_init_97 : decode cX4_init 97 = .ok (.getfield 31, 3) := by decide +kernel
theorem dX4_init_100 : decode cX4_init 100 = .ok (.iload_n 1, 1) := by decide +kernel
theorem dX4_init_101 : decode cX4_init 101 = .ok (.new 7, 3) := by decide +kernel
theorem dX4_init_104 : decode cX4_init 104 = .ok (.dup, 1) := by decide +kernel
theorem dX4_init_105 : decode cX4_init 105 = .ok (.invokespecial 9, 3) := by decide +kernel
theorem dX4_init_108 : decode cX4_init 108 = .ok (.aastore, 1) := by decide +kernel
theorem dX4_init_109 : decode cX4_init 109 = .ok (.iinc 1 1, 3) := by decide +kernel
theorem dX4_init_112 : decode cX4_init 112 = .ok (.goto (-25), 3) := by decide +kernel
theorem dX4_init_115 : decode cX4_init 115 = .ok (.return_, 1) := by decide +kernel
theorem dX4_set_0 : decode cX4_set 0 = .ok (.aload_n 0, 1) := by decide +kernel
theorem dX4_set_1 : decode cX4_set 1 = .ok (.invokevirtual 38, 3) := by decide +kernel
theorem dX4_set_4 : decode cX4_set 4 = .ok (.aload_n 0, 1) := by decide +kernel
theorem dX4_set_5 : decode cX4_set 5 = .ok (.aload_n 0, 1) := by decide +kernel
theorem dX4_set_6 : decode cX4_set 6 = .ok (.getfield 10, 3) := by decide +kernel
theorem dX4_set_9 : decode cX4_set 9 = .ok (.iload_n 1, 1) := by decide +kernel
theorem dX4_set_10 : decode cX4_set 10 = .ok (.iload_n 2, 1) := by decide +kernel
theorem dX4_set_11 : decode cX4_set 11 = .ok (.invokevirtual 41, 3) := by decide +kernel
theorem dX4_set_14 : decode cX4_set 14 = .ok (.invokevirtual 45, 3) := by decide +kernel
theorem dX4_set_17 : decode cX4_set 17 = .ok (.ireturn, 1) := by decide +kernel
theorem dX4_lot_0 : decode cX4_lot 0 = .ok (.aload_n 0, 1) := by decide +kernel
theorem dX4_lot_1 : decode cX4_lot 1 = .ok (.invokevirtual 38, 3) := by decide +kernel
theorem dX4_lot_4 : decode cX4_lot 4 = .ok (.aload_n 0, 1) := by decide +kernel
theorem dX4_lot_5 : decode cX4_lot 5 = .ok (.aload_n 0, 1) := by decide +kernel
theorem dX4_lot_6 : decode cX4_lot 6 = .ok (.getfield 10, 3) := by decide +kernel
theorem dX4_lot_9 : decode cX4_lot 9 = .ok (.iload_n 1, 1) := by decide +kernel
theorem dX4_lot_10 : decode cX4_lot 10 = .ok (.invokevirtual 49, 3) := by decide +kernel
theorem dX4_lot_13 : decode cX4_lot 13 = .ok (.invokevirtual 45, 3) := by decide +kernel
theorem dX4_lot_16 : decode cX4_lot 16 = .ok (.ireturn, 1) := by decide +kernel
theorem dX4_notice_0 : decode cX4_notice 0 = .ok (.aload_n 0, 1) := by decide +kernel
theorem dX4_notice_1 : decode cX4_notice 1 = .ok (.invokevirtual 38, 3) := by decide +kernel
theorem dX4_notice_4 : decode cX4_notice 4 = .ok (.aload_n 0, 1) := by decide +kernel
theorem dX4_notice_5 : decode cX4_notice 5 = .ok (.aload_n 0, 1) := by decide +kernel
theorem dX4_notice_6 : decode cX4_notice 6 = .ok (.getfield 10, 3) := by decide +kernel
theorem dX4_notice_9 : decode cX4_notice 9 = .ok (.iload_n 1, 1) := by decide +kernel
theorem dX4_notice_10 : decode cX4_notice 10 = .ok (.invokevirtual 52, 3) := by decide +kernel
theorem dX4_notice_13 : decode cX4_notice 13 = .ok (.invokevirtual 45, 3) := by decide +kernel
theorem dX4_notice_16 : decode cX4_notice 16 = .ok (.ireturn, 1) := by decide +kernel
theorem dX4_claim_0 : decode cX4_claim 0 = .ok (.aload_n 0, 1) := by decide +kernel
theorem dX4_claim_1 : decode cX4_claim 1 = .ok (.invokevirtual 38, 3) := by decide +kernel
theorem dX4_claim_4 : decode cX4_claim 4 = .ok (.aload_n 0, 1) := by decide +kernel
theorem dX4_claim_5 : decode cX4_claim 5 = .ok (.aload_n 0, 1) := by decide +kernel
theorem dX4_claim_6 : decode cX4_claim 6 = .ok (.getfield 10, 3) := by decide +kernel
theorem dX4_claim_9 : decode cX4_claim 9 = .ok (.iload_n 1, 1) := by decide +kernel
theorem dX4_claim_10 : decode cX4_claim 10 = .ok (.iload_n 2, 1) := by decide +kernel
theorem dX4_claim_11 : decode cX4_claim 11 = .ok (.iload_n 3, 1) := by decide +kernel
theorem dX4_claim_12 : decode cX4_claim 12 = .ok (.invokevirtual 55, 3) := by decide +kernel
theorem dX4_claim_15 : decode cX4_claim 15 = .ok (.invokevirtual 45, 3) := by decide +kernel
theorem dX4_claim_18 : decode cX4_claim 18 = .ok (.ireturn, 1) := by decide +kernel
theorem dX4_prove_0 : decode cX4_prove 0 = .ok (.aload_n 0, 1) := by decide +kernel
theorem dX4_prove_1 : decode cX4_prove 1 = .ok (.invokevirtual 38, 3) := by decide +kernel
theorem dX4_prove_4 : decode cX4_prove 4 = .ok (.aload_n 0, 1) := by decide +kernel
theorem dX4_prove_5 : decode cX4_prove 5 = .ok (.aload_n 0, 1) := by decide +kernel
theorem dX4_prove_6 : decode cX4_prove 6 = .ok (.getfield 10, 3) := by decide +kernel
theorem dX4_prove_9 : decode cX4_prove 9 = .ok (.iload_n 1, 1) := by decide +kernel
theorem dX4_prove_10 : decode cX4_prove 10 = .ok (.iload_n 2, 1) := by decide +kernel
theorem dX4_prove_11 : decode cX4_prove 11 = .ok (.invokevirtual 59, 3) := by decide +kernel
theorem dX4_prove_14 : decode cX4_prove 14 = .ok (.invokevirtual 45, 3) := by decide +kernel
theorem dX4_prove_17 : decode cX4_prove 17 = .ok (.ireturn, 1) := by decide +kernel
theorem dX4_decide_0 : decode cX4_decide 0 = .ok (.aload_n 0, 1) := by decide +kernel
theorem dX4_decide_1 : decode cX4_decide 1 = .ok (.invokevirtual 38, 3) := by decide +kernel
theorem dX4_decide_4 : decode cX4_decide 4 = .ok (.aload_n 0, 1) := by decide +kernel
theorem dX4_decide_5 : decode cX4_decide 5 = .ok (.aload_n 0, 1) := by decide +kernel
theorem dX4_decide_6 : decode cX4_decide 6 = .ok (.getfield 10, 3) := by decide +kernel
theorem dX4_decide_9 : decode cX4_decide 9 = .ok (.iload_n 1, 1) := by decide +kernel
theorem dX4_decide_10 : decode cX4_decide 10 = .ok (.invokevirtual 62, 3) := by decide +kernel
theorem dX4_decide_13 : decode cX4_decide 13 = .ok (.invokevirtual 45, 3) := by decide +kernel
theorem dX4_decide_16 : decode cX4_decide 16 = .ok (.ireturn, 1) := by decide +kernel
theorem dX4_withdraw_0 : decode cX4_withdraw 0 = .ok (.aload_n 0, 1) := by decide +kernel
theorem dX4_withdraw_1 : decode cX4_withdraw 1 = .ok (.invokevirtual 38, 3) := by decide +kernel
theorem dX4_withdraw_4 : decode cX4_withdraw 4 = .ok (.aload_n 0, 1) := by decide +kernel
theorem dX4_withdraw_5 : decode cX4_withdraw 5 = .ok (.aload_n 0, 1) := by decide +kernel
theorem dX4_withdraw_6 : decode cX4_withdraw 6 = .ok (.getfield 10, 3) := by decide +kernel
theorem dX4_withdraw_9 : decode cX4_withdraw 9 = .ok (.iload_n 1, 1) := by decide +kernel
theorem dX4_withdraw_10 : decode cX4_withdraw 10 = .ok (.invokevirtual 65, 3) := by decide +kernel
theorem dX4_withdraw_13 : decode cX4_withdraw 13 = .ok (.invokevirtual 45, 3) := by decide +kernel
theorem dX4_withdraw_16 : decode cX4_withdraw 16 = .ok (.ireturn, 1) := by decide +kernel
theorem dX4_settle_0 : decode cX4_settle 0 = .ok (.aload_n 0, 1) := by decide +kernel
theorem dX4_settle_1 : decode cX4_settle 1 = .ok (.invokevirtual 38, 3) := by decide +kernel
theorem dX4_settle_4 : decode cX4_settle 4 = .ok (.aload_n 0, 1) := by decide +kernel
theorem dX4_settle_5 : decode cX4_settle 5 = .ok (.aload_n 0, 1) := by decide +kernel
theorem dX4_settle_6 : decode cX4_settle 6 = .ok (.getfield 10, 3) := by decide +kernel
theorem dX4_settle_9 : decode cX4_settle 9 = .ok (.iload_n 1, 1) := by decide +kernel
theorem dX4_settle_10 : decode cX4_settle 10 = .ok (.invokevirtual 68, 3) := by decide +kernel
theorem dX4_settle_13 : decode cX4_settle 13 = .ok (.invokevirtual 45, 3) := by decide +kernel
theorem dX4_settle_16 : decode cX4_settle 16 = .ok (.ireturn, 1) := by decide +kernel
theorem dX4_pass_0 : decode cX4_pass 0 = .ok (.aload_n 0, 1) := by decide +kernel
theorem dX4_pass_1 : decode cX4_pass 1 = .ok (.invokevirtual 38, 3) := by decide +kernel
theorem dX4_pass_4 : decode cX4_pass 4 = .ok (.aload_n 0, 1) := by decide +kernel
theorem dX4_pass_5 : decode cX4_pass 5 = .ok (.aload_n 0, 1) := by decide +kernel
theorem dX4_pass_6 : decode cX4_pass 6 = .ok (.getfield 10, 3) := by decide +kernel
theorem dX4_pass_9 : decode cX4_pass 9 = .ok (.iload_n 1, 1) := by decide +kernel
theorem dX4_pass_10 : decode cX4_pass 10 = .ok (.invokevirtual 71, 3) := by decide +kernel
theorem dX4_pass_13 : decode cX4_pass 13 = .ok (.invokevirtual 45, 3) := by decide +kernel
theorem dX4_pass_16 : decode cX4_pass 16 = .ok (.ireturn, 1) := by decide +kernel
theorem dX4_of_0 : decode cX4_of 0 = .ok (.aload_n 0, 1) := by decide +kernel
theorem dX4_of_1 : decode cX4_of 1 = .ok (.getfield 10, 3) := by decide +kernel
theorem dX4_of_4 : decode cX4_of 4 = .ok (.iload_n 1, 1) := by decide +kernel
theorem dX4_of_5 : decode cX4_of 5 = .ok (.iload_n 2, 1) := by decide +kernel
theorem dX4_of_6 : decode cX4_of 6 = .ok (.invokevirtual 74, 3) := by decide +kernel
theorem dX4_of_9 : decode cX4_of 9 = .ok (.ireturn, 1) := by decide +kernel
theorem dX4_ofClaim_0 : decode cX4_ofClaim 0 = .ok (.aload_n 0, 1) := by decide +kernel
theorem dX4_ofClaim_1 : decode cX4_ofClaim 1 = .ok (.getfield 10, 3) := by decide +kernel
theorem dX4_ofClaim_4 : decode cX4_ofClaim 4 = .ok (.iload_n 1, 1) := by decide +kernel
theorem dX4_ofClaim_5 : decode cX4_ofClaim 5 = .ok (.iload_n 2, 1) := by decide +kernel
theorem dX4_ofClaim_6 : decode cX4_ofClaim 6 = .ok (.invokevirtual 77, 3) := by decide +kernel
theorem dX4_ofClaim_9 : decode cX4_ofClaim 9 = .ok (.ireturn, 1) := by decide +kernel
theorem dX4_heir_0 : decode cX4_heir 0 = .ok (.aload_n 0, 1) := by decide +kernel
theorem dX4_heir_1 : decode cX4_heir 1 = .ok (.getfield 10, 3) := by decide +kernel
theorem dX4_heir_4 : decode cX4_heir 4 = .ok (.iload_n 1, 1) := by decide +kernel
theorem dX4_heir_5 : decode cX4_heir 5 = .ok (.iload_n 2, 1) := by decide +kernel
theorem dX4_heir_6 : decode cX4_heir 6 = .ok (.invokevirtual 80, 3) := by decide +kernel
theorem dX4_heir_9 : decode cX4_heir 9 = .ok (.ireturn, 1) := by decide +kernel
theorem dX4_paid_0 : decode cX4_paid 0 = .ok (.aload_n 0, 1) := by decide +kernel
theorem dX4_paid_1 : decode cX4_paid 1 = .ok (.getfield 10, 3) := by decide +kernel
theorem dX4_paid_4 : decode cX4_paid 4 = .ok (.iload_n 1, 1) := by decide +kernel
theorem dX4_paid_5 : decode cX4_paid 5 = .ok (.invokevirtual 83, 3) := by decide +kernel
theorem dX4_paid_8 : decode cX4_paid 8 = .ok (.ireturn, 1) := by decide +kernel
theorem dX4_count_0 : decode cX4_count 0 = .ok (.iload_n 1, 1) := by decide +kernel
theorem dX4_count_1 : decode cX4_count 1 = .ok (.bipush 19, 2) := by decide +kernel
theorem dX4_count_3 : decode cX4_count 3 = .ok (.if_icmp .ne 11, 3) := by decide +kernel
theorem dX4_count_6 : decode cX4_count 6 = .ok (.aload_n 0, 1) := by decide +kernel
theorem dX4_count_7 : decode cX4_count 7 = .ok (.getfield 19, 3) := by decide +kernel
theorem dX4_count_10 : decode cX4_count 10 = .ok (.getfield 86, 3) := by decide +kernel
theorem dX4_count_13 : decode cX4_count 13 = .ok (.ireturn, 1) := by decide +kernel
theorem dX4_count_14 : decode cX4_count 14 = .ok (.iload_n 1, 1) := by decide +kernel
theorem dX4_count_15 : decode cX4_count 15 = .ok (.bipush 20, 2) := by decide +kernel
theorem dX4_count_17 : decode cX4_count 17 = .ok (.if_icmp .ne 10, 3) := by decide +kernel
theorem dX4_count_20 : decode cX4_count 20 = .ok (.aload_n 0, 1) := by decide +kernel
theorem dX4_count_21 : decode cX4_count 21 = .ok (.getfield 27, 3) := by decide +kernel
theorem dX4_count_24 : decode cX4_count 24 = .ok (.goto 11, 3) := by decide +kernel
theorem dX4_count_27 : decode cX4_count 27 = .ok (.aload_n 0, 1) := by decide +kernel
theorem dX4_count_28 : decode cX4_count 28 = .ok (.getfield 10, 3) := by decide +kernel
theorem dX4_count_31 : decode cX4_count 31 = .ok (.iload_n 1, 1) := by decide +kernel
theorem dX4_count_32 : decode cX4_count 32 = .ok (.invokevirtual 89, 3) := by decide +kernel
theorem dX4_count_35 : decode cX4_count 35 = .ok (.ireturn, 1) := by decide +kernel
theorem dX4_why_0 : decode cX4_why 0 = .ok (.aload_n 0, 1) := by decide +kernel
theorem dX4_why_1 : decode cX4_why 1 = .ok (.getfield 10, 3) := by decide +kernel
theorem dX4_why_4 : decode cX4_why 4 = .ok (.iload_n 1, 1) := by decide +kernel
theorem dX4_why_5 : decode cX4_why 5 = .ok (.invokevirtual 92, 3) := by decide +kernel
theorem dX4_why_8 : decode cX4_why 8 = .ok (.ireturn, 1) := by decide +kernel
theorem dX4_fallsIn_0 : decode cX4_fallsIn 0 = .ok (.aload_n 0, 1) := by decide +kernel
theorem dX4_fallsIn_1 : decode cX4_fallsIn 1 = .ok (.getfield 10, 3) := by decide +kernel
theorem dX4_fallsIn_4 : decode cX4_fallsIn 4 = .ok (.iload_n 1, 1) := by decide +kernel
theorem dX4_fallsIn_5 : decode cX4_fallsIn 5 = .ok (.invokevirtual 95, 3) := by decide +kernel
theorem dX4_fallsIn_8 : decode cX4_fallsIn 8 = .ok (.ireturn, 1) := by decide +kernel
theorem dX4_share_0 : decode cX4_share 0 = .ok (.aload_n 0, 1) := by decide +kernel
theorem dX4_share_1 : decode cX4_share 1 = .ok (.getfield 10, 3) := by decide +kernel
theorem dX4_share_4 : decode cX4_share 4 = .ok (.iload_n 1, 1) := by decide +kernel
theorem dX4_share_5 : decode cX4_share 5 = .ok (.iload_n 2, 1) := by decide +kernel
theorem dX4_share_6 : decode cX4_share 6 = .ok (.iload_n 3, 1) := by decide +kernel
theorem dX4_share_7 : decode cX4_share 7 = .ok (.invokevirtual 98, 3) := by decide +kernel
theorem dX4_share_10 : decode cX4_share 10 = .ok (.ireturn, 1) := by decide +kernel
theorem dX4_nextFall_0 : decode cX4_nextFall 0 = .ok (.aload_n 0, 1) := by decide +kernel
theorem dX4_nextFall_1 : decode cX4_nextFall 1 = .ok (.getfield 10, 3) := by decide +kernel
theorem dX4_nextFall_4 : decode cX4_nextFall 4 = .ok (.iload_n 1, 1) := by decide +kernel
theorem dX4_nextFall_5 : decode cX4_nextFall 5 = .ok (.invokevirtual 101, 3) := by decide +kernel
theorem dX4_nextFall_8 : decode cX4_nextFall 8 = .ok (.ireturn, 1) := by decide +kernel
theorem dX4_nextLapse_0 : decode cX4_nextLapse 0 = .ok (.aload_n 0, 1) := by decide +kernel
theorem dX4_nextLapse_1 : decode cX4_nextLapse 1 = .ok (.getfield 10, 3) := by decide +kernel
theorem dX4_nextLapse_4 : decode cX4_nextLapse 4 = .ok (.iload_n 1, 1) := by decide +kernel
theorem dX4_nextLapse_5 : decode cX4_nextLapse 5 = .ok (.invokevirtual 104, 3) := by decide +kernel
theorem dX4_nextLapse_8 : decode cX4_nextLapse 8 = .ok (.ireturn, 1) := by decide +kernel
theorem dX4_put_0 : decode cX4_put 0 = .ok (.aload_n 0, 1) := by decide +kernel
theorem dX4_put_1 : decode cX4_put 1 = .ok (.getfield 19, 3) := by decide +kernel
theorem dX4_put_4 : decode cX4_put 4 = .ok (.lload_n 1, 1) := by decide +kernel
theorem dX4_put_5 : decode cX4_put 5 = .ok (.invokevirtual 107, 3) := by decide +kernel
theorem dX4_put_8 : decode cX4_put 8 = .ok (.ireturn, 1) := by decide +kernel
theorem dX4_wipe_0 : decode cX4_wipe 0 = .ok (.aload_n 0, 1) := by decide +kernel
theorem dX4_wipe_1 : decode cX4_wipe 1 = .ok (.getfield 19, 3) := by decide +kernel
theorem dX4_wipe_4 : decode cX4_wipe 4 = .ok (.invokevirtual 111, 3) := by decide +kernel
theorem dX4_wipe_7 : decode cX4_wipe 7 = .ok (.ireturn, 1) := by decide +kernel
theorem dX4_fault_0 : decode cX4_fault 0 = .ok (.aload_n 0, 1) := by decide +kernel
theorem dX4_fault_1 : decode cX4_fault 1 = .ok (.getfield 19, 3) := by decide +kernel
theorem dX4_fault_4 : decode cX4_fault 4 = .ok (.invokevirtual 115, 3) := by decide +kernel
theorem dX4_fault_7 : decode cX4_fault 7 = .ok (.ireturn, 1) := by decide +kernel
theorem dX4_carryOut_0 : decode cX4_carryOut 0 = .ok (.aload_n 0, 1) := by decide +kernel
theorem dX4_carryOut_1 : decode cX4_carryOut 1 = .ok (.getfield 19, 3) := by decide +kernel
theorem dX4_carryOut_4 : decode cX4_carryOut 4 = .ok (.invokevirtual 115, 3) := by decide +kernel
theorem dX4_carryOut_7 : decode cX4_carryOut 7 = .ok (.bipush (-6), 2) := by decide +kernel
theorem dX4_carryOut_9 : decode cX4_carryOut 9 = .ok (.if_icmp .eq 6, 3) := by decide +kernel
theorem dX4_carryOut_12 : decode cX4_carryOut 12 = .ok (.bipush (-3), 2) := by decide +kernel
theorem dX4_carryOut_14 : decode cX4_carryOut 14 = .ok (.ireturn, 1) := by decide +kernel
theorem dX4_carryOut_15 : decode cX4_carryOut 15 = .ok (.aload_n 0, 1) := by decide +kernel
theorem dX4_carryOut_16 : decode cX4_carryOut 16 = .ok (.invokevirtual 38, 3) := by decide +kernel
theorem dX4_carryOut_19 : decode cX4_carryOut 19 = .ok (.aload_n 0, 1) := by decide +kernel
theorem dX4_carryOut_20 : decode cX4_carryOut 20 = .ok (.getfield 19, 3) := by decide +kernel
theorem dX4_carryOut_23 : decode cX4_carryOut 23 = .ok (.iconst 0, 1) := by decide +kernel
theorem dX4_carryOut_24 : decode cX4_carryOut 24 = .ok (.putfield 118, 3) := by decide +kernel
theorem dX4_carryOut_27 : decode cX4_carryOut 27 = .ok (.iconst 0, 1) := by decide +kernel
theorem dX4_carryOut_28 : decode cX4_carryOut 28 = .ok (.istore_n 1, 1) := by decide +kernel
theorem dX4_carryOut_29 : decode cX4_carryOut 29 = .ok (.iload_n 1, 1) := by decide +kernel
theorem dX4_carryOut_30 : decode cX4_carryOut 30 = .ok (.bipush 80, 2) := by decide +kernel
theorem dX4_carryOut_32 : decode cX4_carryOut 32 = .ok (.if_icmp .ge 36, 3) := by decide +kernel
theorem dX4_carryOut_35 : decode cX4_carryOut 35 = .ok (.aload_n 0, 1) := by decide +kernel
theorem dX4_carryOut_36 : decode cX4_carryOut 36 = .ok (.getfield 19, 3) := by decide +kernel
theorem dX4_carryOut_39 : decode cX4_carryOut 39 = .ok (.invokevirtual 121, 3) := by decide +kernel
theorem dX4_carryOut_42 : decode cX4_carryOut 42 = .ok (.ifCond .eq 26, 3) := by decide +kernel
theorem dX4_carryOut_45 : decode cX4_carryOut 45 = .ok (.aload_n 0, 1) := by decide +kernel
theorem dX4_carryOut_46 : decode cX4_carryOut 46 = .ok (.invokevirtual 125, 3) := by decide +kernel
theorem dX4_carryOut_49 : decode cX4_carryOut 49 = .ok (.ifCond .lt 19, 3) := by decide +kernel
theorem dX4_carryOut_52 : decode cX4_carryOut 52 = .ok (.iinc 1 1, 3) := by decide +kernel
theorem dX4_carryOut_55 : decode cX4_carryOut 55 = .ok (.aload_n 0, 1) := by decide +kernel
theorem dX4_carryOut_56 : decode cX4_carryOut 56 = .ok (.getfield 19, 3) := by decide +kernel
theorem dX4_carryOut_59 : decode cX4_carryOut 59 = .ok (.bipush 59, 2) := by decide +kernel
theorem dX4_carryOut_61 : decode cX4_carryOut 61 = .ok (.invokevirtual 128, 3) := by decide +kernel
theorem dX4_carryOut_64 : decode cX4_carryOut 64 = .ok (.pop, 1) := by decide +kernel
theorem dX4_carryOut_65 : decode cX4_carryOut 65 = .ok (.goto (-36), 3) := by decide +kernel
theorem dX4_carryOut_68 : decode cX4_carryOut 68 = .ok (.aload_n 0, 1) := by decide +kernel
theorem dX4_carryOut_69 : decode cX4_carryOut 69 = .ok (.getfield 19, 3) := by decide +kernel
theorem dX4_carryOut_72 : decode cX4_carryOut 72 = .ok (.invokevirtual 111, 3) := by decide +kernel
theorem dX4_carryOut_75 : decode cX4_carryOut 75 = .ok (.pop, 1) := by decide +kernel
theorem dX4_carryOut_76 : decode cX4_carryOut 76 = .ok (.aload_n 0, 1) := by decide +kernel
theorem dX4_carryOut_77 : decode cX4_carryOut 77 = .ok (.iload_n 1, 1) := by decide +kernel
theorem dX4_carryOut_78 : decode cX4_carryOut 78 = .ok (.invokevirtual 45, 3) := by decide +kernel
theorem dX4_carryOut_81 : decode cX4_carryOut 81 = .ok (.ireturn, 1) := by decide +kernel
theorem dX4_carryOutOrder_0 : decode cX4_carryOutOrder 0 = .ok (.aload_n 0, 1) := by decide +kernel
theorem dX4_carryOutOrder_1 : decode cX4_carryOutOrder 1 = .ok (.getfield 19, 3) := by decide +kernel
theorem dX4_carryOutOrder_4 : decode cX4_carryOutOrder 4 = .ok (.getfield 132, 3) := by decide +kernel
theorem dX4_carryOutOrder_7 : decode cX4_carryOutOrder 7 = .ok (.tableswitch 223 99 119 #[127, 178, 223, 223, 223, 223, 223, 223, 223, 97, 223, 112, 223, 156, 223, 223, 208, 223, 223, 223, 193], 97) := by decide +kernel
theorem dX4_carryOutOrder_104 : decode cX4_carryOutOrder 104 = .ok (.aload_n 0, 1) := by decide +kernel
theorem dX4_carryOutOrder_105 : decode cX4_carryOutOrder 105 = .ok (.getfield 10, 3) := by decide +kernel
theorem dX4_carryOutOrder_108 : decode cX4_carryOutOrder 108 = .ok (.aload_n 0, 1) := by decide +kernel
theorem dX4_carryOutOrder_109 : decode cX4_carryOutOrder 109 = .ok (.getfield 19, 3) := by decide +kernel
theorem dX4_carryOutOrder_112 : decode cX4_carryOutOrder 112 = .ok (.getfield 136, 3) := by decide +kernel
theorem dX4_carryOutOrder_115 : decode cX4_carryOutOrder 115 = .ok (.invokevirtual 49, 3) := by decide +kernel
theorem dX4_carryOutOrder_118 : decode cX4_carryOutOrder 118 = .ok (.ireturn, 1) := by decide +kernel
theorem dX4_carryOutOrder_119 : decode cX4_carryOutOrder 119 = .ok (.aload_n 0, 1) := by decide +kernel
theorem dX4_carryOutOrder_120 : decode cX4_carryOutOrder 120 = .ok (.getfield 10, 3) := by decide +kernel
theorem dX4_carryOutOrder_123 : decode cX4_carryOutOrder 123 = .ok (.aload_n 0, 1) := by decide +kernel
theorem dX4_carryOutOrder_124 : decode cX4_carryOutOrder 124 = .ok (.getfield 19, 3) := by decide +kernel
theorem dX4_carryOutOrder_127 : decode cX4_carryOutOrder 127 = .ok (.getfield 136, 3) := by decide +kernel
theorem dX4_carryOutOrder_130 : decode cX4_carryOutOrder 130 = .ok (.invokevirtual 52, 3) := by decide +kernel
theorem dX4_carryOutOrder_133 : decode cX4_carryOutOrder 133 = .ok (.ireturn, 1) := by decide +kernel
theorem dX4_carryOutOrder_134 : decode cX4_carryOutOrder 134 = .ok (.aload_n 0, 1) := by decide +kernel
theorem dX4_carryOutOrder_135 : decode cX4_carryOutOrder 135 = .ok (.getfield 10, 3) := by decide +kernel
theorem dX4_carryOutOrder_138 : decode cX4_carryOutOrder 138 = .ok (.aload_n 0, 1) := by decide +kernel
theorem dX4_carryOutOrder_139 : decode cX4_carryOutOrder 139 = .ok (.getfield 19, 3) := by decide +kernel
theorem dX4_carryOutOrder_142 : decode cX4_carryOutOrder 142 = .ok (.getfield 136, 3) := by decide +kernel
theorem dX4_carryOutOrder_145 : decode cX4_carryOutOrder 145 = .ok (.aload_n 0, 1) := by decide +kernel
theorem dX4_carryOutOrder_146 : decode cX4_carryOutOrder 146 = .ok (.getfield 19, 3) := by decide +kernel
theorem dX4_carryOutOrder_149 : decode cX4_carryOutOrder 149 = .ok (.getfield 139, 3) := by decide +kernel
theorem dX4_carryOutOrder_152 : decode cX4_carryOutOrder 152 = .ok (.aload_n 0, 1) := by decide +kernel
theorem dX4_carryOutOrder_153 : decode cX4_carryOutOrder 153 = .ok (.getfield 19, 3) := by decide +kernel
theorem dX4_carryOutOrder_156 : decode cX4_carryOutOrder 156 = .ok (.getfield 142, 3) := by decide +kernel
theorem dX4_carryOutOrder_159 : decode cX4_carryOutOrder 159 = .ok (.invokevirtual 55, 3) := by decide +kernel
theorem dX4_carryOutOrder_162 : decode cX4_carryOutOrder 162 = .ok (.ireturn, 1) := by decide +kernel
theorem dX4_carryOutOrder_163 : decode cX4_carryOutOrder 163 = .ok (.aload_n 0, 1) := by decide +kernel
theorem dX4_carryOutOrder_164 : decode cX4_carryOutOrder 164 = .ok (.getfield 10, 3) := by decide +kernel
theorem dX4_carryOutOrder_167 : decode cX4_carryOutOrder 167 = .ok (.aload_n 0, 1) := by decide +kernel
theorem dX4_carryOutOrder_168 : decode cX4_carryOutOrder 168 = .ok (.getfield 19, 3) := by decide +kernel
theorem dX4_carryOutOrder_171 : decode cX4_carryOutOrder 171 = .ok (.getfield 136, 3) := by decide +kernel
theorem dX4_carryOutOrder_174 : decode cX4_carryOutOrder 174 = .ok (.aload_n 0, 1) := by decide +kernel
theorem dX4_carryOutOrder_175 : decode cX4_carryOutOrder 175 = .ok (.getfield 19, 3) := by decide +kernel
theorem dX4_carryOutOrder_178 : decode cX4_carryOutOrder 178 = .ok (.getfield 139, 3) := by decide +kernel
theorem dX4_carryOutOrder_181 : decode cX4_carryOutOrder 181 = .ok (.invokevirtual 59, 3) := by decide +kernel
theorem dX4_carryOutOrder_184 : decode cX4_carryOutOrder 184 = .ok (.ireturn, 1) := by decide +kernel
theorem dX4_carryOutOrder_185 : decode cX4_carryOutOrder 185 = .ok (.aload_n 0, 1) := by decide +kernel
theorem dX4_carryOutOrder_186 : decode cX4_carryOutOrder 186 = .ok (.getfield 10, 3) := by decide +kernel
theorem dX4_carryOutOrder_189 : decode cX4_carryOutOrder 189 = .ok (.aload_n 0, 1) := by decide +kernel
theorem dX4_carryOutOrder_190 : decode cX4_carryOutOrder 190 = .ok (.getfield 19, 3) := by decide +kernel
theorem dX4_carryOutOrder_193 : decode cX4_carryOutOrder 193 = .ok (.getfield 136, 3) := by decide +kernel
theorem dX4_carryOutOrder_196 : decode cX4_carryOutOrder 196 = .ok (.invokevirtual 62, 3) := by decide +kernel
theorem dX4_carryOutOrder_199 : decode cX4_carryOutOrder 199 = .ok (.ireturn, 1) := by decide +kernel
theorem dX4_carryOutOrder_200 : decode cX4_carryOutOrder 200 = .ok (.aload_n 0, 1) := by decide +kernel
theorem dX4_carryOutOrder_201 : decode cX4_carryOutOrder 201 = .ok (.getfield 10, 3) := by decide +kernel
theorem dX4_carryOutOrder_204 : decode cX4_carryOutOrder 204 = .ok (.aload_n 0, 1) := by decide +kernel
theorem dX4_carryOutOrder_205 : decode cX4_carryOutOrder 205 = .ok (.getfield 19, 3) := by decide +kernel
theorem dX4_carryOutOrder_208 : decode cX4_carryOutOrder 208 = .ok (.getfield 136, 3) := by decide +kernel
theorem dX4_carryOutOrder_211 : decode cX4_carryOutOrder 211 = .ok (.invokevirtual 65, 3) := by decide +kernel
theorem dX4_carryOutOrder_214 : decode cX4_carryOutOrder 214 = .ok (.ireturn, 1) := by decide +kernel
theorem dX4_carryOutOrder_215 : decode cX4_carryOutOrder 215 = .ok (.aload_n 0, 1) := by decide +kernel
theorem dX4_carryOutOrder_216 : decode cX4_carryOutOrder 216 = .ok (.getfield 10, 3) := by decide +kernel
theorem dX4_carryOutOrder_219 : decode cX4_carryOutOrder 219 = .ok (.aload_n 0, 1) := by decide +kernel
theorem dX4_carryOutOrder_220 : decode cX4_carryOutOrder 220 = .ok (.getfield 19, 3) := by decide +kernel
theorem dX4_carryOutOrder_223 : decode cX4_carryOutOrder 223 = .ok (.getfield 136, 3) := by decide +kernel
theorem dX4_carryOutOrder_226 : decode cX4_carryOutOrder 226 = .ok (.invokevirtual 68, 3) := by decide +kernel
theorem dX4_carryOutOrder_229 : decode cX4_carryOutOrder 229 = .ok (.ireturn, 1) := by decide +kernel
theorem dX4_carryOutOrder_230 : decode cX4_carryOutOrder 230 = .ok (.aload_n 0, 1) := by decide +kernel
theorem dX4_carryOutOrder_231 : decode cX4_carryOutOrder 231 = .ok (.getfield 10, 3) := by decide +kernel
theorem dX4_carryOutOrder_234 : decode cX4_carryOutOrder 234 = .ok (.aload_n 0, 1) := by decide +kernel
theorem dX4_carryOutOrder_235 : decode cX4_carryOutOrder 235 = .ok (.getfield 19, 3) := by decide +kernel
theorem dX4_carryOutOrder_238 : decode cX4_carryOutOrder 238 = .ok (.getfield 136, 3) := by decide +kernel
theorem dX4_carryOutOrder_241 : decode cX4_carryOutOrder 241 = .ok (.invokevirtual 71, 3) := by decide +kernel
theorem dX4_carryOutOrder_244 : decode cX4_carryOutOrder 244 = .ok (.ireturn, 1) := by decide +kernel
theorem dX4_undo_0 : decode cX4_undo 0 = .ok (.aload_n 0, 1) := by decide +kernel
theorem dX4_undo_1 : decode cX4_undo 1 = .ok (.getfield 27, 3) := by decide +kernel
theorem dX4_undo_4 : decode cX4_undo 4 = .ok (.ifCond .ne 6, 3) := by decide +kernel
theorem dX4_undo_7 : decode cX4_undo 7 = .ok (.bipush (-5), 2) := by decide +kernel
theorem dX4_undo_9 : decode cX4_undo 9 = .ok (.ireturn, 1) := by decide +kernel
theorem dX4_undo_10 : decode cX4_undo 10 = .ok (.aload_n 0, 1) := by decide +kernel
theorem dX4_undo_11 : decode cX4_undo 11 = .ok (.dup, 1) := by decide +kernel
theorem dX4_undo_12 : decode cX4_undo 12 = .ok (.getfield 27, 3) := by decide +kernel
theorem dX4_undo_15 : decode cX4_undo 15 = .ok (.iconst 1, 1) := by decide +kernel
theorem dX4_undo_16 : decode cX4_undo 16 = .ok (.isub, 1) := by decide +kernel
theorem dX4_undo_17 : decode cX4_undo 17 = .ok (.putfield 27, 3) := by decide +kernel
theorem dX4_undo_20 : decode cX4_undo 20 = .ok (.aload_n 0, 1) := by decide +kernel
theorem dX4_undo_21 : decode cX4_undo 21 = .ok (.getfield 10, 3) := by decide +kernel
theorem dX4_undo_24 : decode cX4_undo 24 = .ok (.aload_n 0, 1) := by decide +kernel
theorem dX4_undo_25 : decode cX4_undo 25 = .ok (.getfield 23, 3) := by decide +kernel
theorem dX4_undo_28 : decode cX4_undo 28 = .ok (.aload_n 0, 1) := by decide +kernel
theorem dX4_undo_29 : decode cX4_undo 29 = .ok (.getfield 27, 3) := by decide +kernel
theorem dX4_undo_32 : decode cX4_undo 32 = .ok (.aaload, 1) := by decide +kernel
theorem dX4_undo_33 : decode cX4_undo 33 = .ok (.invokevirtual 145, 3) := by decide +kernel
theorem dX4_undo_36 : decode cX4_undo 36 = .ok (.aload_n 0, 1) := by decide +kernel
theorem dX4_undo_37 : decode cX4_undo 37 = .ok (.getfield 27, 3) := by decide +kernel
theorem dX4_undo_40 : decode cX4_undo 40 = .ok (.ireturn, 1) := by decide +kernel
theorem dX4_save_0 : decode cX4_save 0 = .ok (.iload_n 1, 1) := by decide +kernel
theorem dX4_save_1 : decode cX4_save 1 = .ok (.ifCond .lt 8, 3) := by decide +kernel
theorem dX4_save_4 : decode cX4_save 4 = .ok (.iload_n 1, 1) := by decide +kernel
theorem dX4_save_5 : decode cX4_save 5 = .ok (.iconst 2, 1) := by decide +kernel
theorem dX4_save_6 : decode cX4_save 6 = .ok (.if_icmp .lt 6, 3) := by decide +kernel
theorem dX4_save_9 : decode cX4_save 9 = .ok (.bipush (-2), 2) := by decide +kernel
theorem dX4_save_11 : decode cX4_save 11 = .ok (.ireturn, 1) := by decide +kernel
theorem dX4_save_12 : decode cX4_save 12 = .ok (.aload_n 0, 1) := by decide +kernel
theorem dX4_save_13 : decode cX4_save 13 = .ok (.getfield 31, 3) := by decide +kernel
theorem dX4_save_16 : decode cX4_save 16 = .ok (.iload_n 1, 1) := by decide +kernel
theorem dX4_save_17 : decode cX4_save 17 = .ok (.aaload, 1) := by decide +kernel
theorem dX4_save_18 : decode cX4_save 18 = .ok (.aload_n 0, 1) := by decide +kernel
theorem dX4_save_19 : decode cX4_save 19 = .ok (.getfield 10, 3) := by decide +kernel
theorem dX4_save_22 : decode cX4_save 22 = .ok (.invokevirtual 145, 3) := by decide +kernel
theorem dX4_save_25 : decode cX4_save 25 = .ok (.aload_n 0, 1) := by decide +kernel
theorem dX4_save_26 : decode cX4_save 26 = .ok (.getfield 34, 3) := by decide +kernel
theorem dX4_save_29 : decode cX4_save 29 = .ok (.iload_n 1, 1) := by decide +kernel
theorem dX4_save_30 : decode cX4_save 30 = .ok (.iconst 1, 1) := by decide +kernel
theorem dX4_save_31 : decode cX4_save 31 = .ok (.bastore, 1) := by decide +kernel
theorem dX4_save_32 : decode cX4_save 32 = .ok (.aload_n 0, 1) := by decide +kernel
theorem dX4_save_33 : decode cX4_save 33 = .ok (.getfield 10, 3) := by decide +kernel
theorem dX4_save_36 : decode cX4_save 36 = .ok (.getfield 149, 3) := by decide +kernel
theorem dX4_save_39 : decode cX4_save 39 = .ok (.getfield 153, 3) := by decide +kernel
theorem dX4_save_42 : decode cX4_save 42 = .ok (.ireturn, 1) := by decide +kernel
theorem dX4_restore_0 : decode cX4_restore 0 = .ok (.iload_n 1, 1) := by decide +kernel
theorem dX4_restore_1 : decode cX4_restore 1 = .ok (.ifCond .lt 8, 3) := by decide +kernel
theorem dX4_restore_4 : decode cX4_restore 4 = .ok (.iload_n 1, 1) := by decide +kernel
theorem dX4_restore_5 : decode cX4_restore 5 = .ok (.iconst 2, 1) := by decide +kernel
theorem dX4_restore_6 : decode cX4_restore 6 = .ok (.if_icmp .lt 6, 3) := by decide +kernel
theorem dX4_restore_9 : decode cX4_restore 9 = .ok (.bipush (-2), 2) := by decide +kernel
theorem dX4_restore_11 : decode cX4_restore 11 = .ok (.ireturn, 1) := by decide +kernel
theorem dX4_restore_12 : decode cX4_restore 12 = .ok (.aload_n 0, 1) := by decide +kernel
theorem dX4_restore_13 : decode cX4_restore 13 = .ok (.getfield 34, 3) := by decide +kernel
theorem dX4_restore_16 : decode cX4_restore 16 = .ok (.iload_n 1, 1) := by decide +kernel
theorem dX4_restore_17 : decode cX4_restore 17 = .ok (.baload, 1) := by decide +kernel
theorem dX4_restore_18 : decode cX4_restore 18 = .ok (.ifCond .ne 6, 3) := by decide +kernel
theorem dX4_restore_21 : decode cX4_restore 21 = .ok (.bipush (-5), 2) := by decide +kernel
theorem dX4_restore_23 : decode cX4_restore 23 = .ok (.ireturn, 1) := by decide +kernel
theorem dX4_restore_24 : decode cX4_restore 24 = .ok (.aload_n 0, 1) := by decide +kernel
theorem dX4_restore_25 : decode cX4_restore 25 = .ok (.invokevirtual 38, 3) := by decide +kernel
theorem dX4_restore_28 : decode cX4_restore 28 = .ok (.aload_n 0, 1) := by decide +kernel
theorem dX4_restore_29 : decode cX4_restore 29 = .ok (.getfield 10, 3) := by decide +kernel
theorem dX4_restore_32 : decode cX4_restore 32 = .ok (.aload_n 0, 1) := by decide +kernel
theorem dX4_restore_33 : decode cX4_restore 33 = .ok (.getfield 31, 3) := by decide +kernel
theorem dX4_restore_36 : decode cX4_restore 36 = .ok (.iload_n 1, 1) := by decide +kernel
theorem dX4_restore_37 : decode cX4_restore 37 = .ok (.aaload, 1) := by decide +kernel
theorem dX4_restore_38 : decode cX4_restore 38 = .ok (.invokevirtual 145, 3) := by decide +kernel
theorem dX4_restore_41 : decode cX4_restore 41 = .ok (.aload_n 0, 1) := by decide +kernel
theorem dX4_restore_42 : decode cX4_restore 42 = .ok (.aload_n 0, 1) := by decide +kernel
theorem dX4_restore_43 : decode cX4_restore 43 = .ok (.getfield 10, 3) := by decide +kernel
theorem dX4_restore_46 : decode cX4_restore 46 = .ok (.getfield 149, 3) := by decide +kernel
theorem dX4_restore_49 : decode cX4_restore 49 = .ok (.getfield 153, 3) := by decide +kernel
theorem dX4_restore_52 : decode cX4_restore 52 = .ok (.invokevirtual 45, 3) := by decide +kernel
theorem dX4_restore_55 : decode cX4_restore 55 = .ok (.ireturn, 1) := by decide +kernel
theorem dX4_draft_0 : decode cX4_draft 0 = .ok (.aload_n 0, 1) := by decide +kernel
theorem dX4_draft_1 : decode cX4_draft 1 = .ok (.getfield 23, 3) := by decide +kernel
theorem dX4_draft_4 : decode cX4_draft 4 = .ok (.aload_n 0, 1) := by decide +kernel
theorem dX4_draft_5 : decode cX4_draft 5 = .ok (.getfield 27, 3) := by decide +kernel
theorem dX4_draft_8 : decode cX4_draft 8 = .ok (.aaload, 1) := by decide +kernel
theorem dX4_draft_9 : decode cX4_draft 9 = .ok (.aload_n 0, 1) := by decide +kernel
theorem dX4_draft_10 : decode cX4_draft 10 = .ok (.getfield 10, 3) := by decide +kernel
theorem dX4_draft_13 : decode cX4_draft 13 = .ok (.invokevirtual 145, 3) := by decide +kernel
theorem dX4_draft_16 : decode cX4_draft 16 = .ok (.return_, 1) := by decide +kernel
theorem dX4_recorded_0 : decode cX4_recorded 0 = .ok (.iload_n 1, 1) := by decide +kernel
theorem dX4_recorded_1 : decode cX4_recorded 1 = .ok (.ifCond .ge 5, 3) := by decide +kernel
theorem dX4_recorded_4 : decode cX4_recorded 4 = .ok (.iload_n 1, 1) := by decide +kernel
theorem dX4_recorded_5 : decode cX4_recorded 5 = .ok (.ireturn, 1) := by decide +kernel
theorem dX4_recorded_6 : decode cX4_recorded 6 = .ok (.aload_n 0, 1) := by decide +kernel
theorem dX4_recorded_7 : decode cX4_recorded 7 = .ok (.getfield 27, 3) := by decide +kernel
theorem dX4_recorded_10 : decode cX4_recorded 10 = .ok (.bipush 6, 2) := by decide +kernel
theorem dX4_recorded_12 : decode cX4_recorded 12 = .ok (.if_icmp .ge 16, 3) := by decide +kernel
theorem dX4_recorded_15 : decode cX4_recorded 15 = .ok (.aload_n 0, 1) := by decide +kernel
theorem dX4_recorded_16 : decode cX4_recorded 16 = .ok (.dup, 1) := by decide +kernel
theorem dX4_recorded_17 : decode cX4_recorded 17 = .ok (.getfield 27, 3) := by decide +kernel
theorem dX4_recorded_20 : decode cX4_recorded 20 = .ok (.iconst 1, 1) := by decide +kernel
theorem dX4_recorded_21 : decode cX4_recorded 21 = .ok (.iadd, 1) := by decide +kernel
theorem dX4_recorded_22 : decode cX4_recorded 22 = .ok (.putfield 27, 3) := by decide +kernel
theorem dX4_recorded_25 : decode cX4_recorded 25 = .ok (.goto 7, 3) := by decide +kernel
theorem dX4_recorded_28 : decode cX4_recorded 28 = .ok (.aload_n 0, 1) := by decide +kernel
theorem dX4_recorded_29 : decode cX4_recorded 29 = .ok (.invokevirtual 158, 3) := by decide +kernel
theorem dX4_recorded_32 : decode cX4_recorded 32 = .ok (.iload_n 1, 1) := by decide +kernel
theorem dX4_recorded_33 : decode cX4_recorded 33 = .ok (.ireturn, 1) := by decide +kernel
theorem dX4_dropOldest_0 : decode cX4_dropOldest 0 = .ok (.aload_n 0, 1) := by decide +kernel
theorem dX4_dropOldest_1 : decode cX4_dropOldest 1 = .ok (.getfield 23, 3) := by decide +kernel
theorem dX4_dropOldest_4 : decode cX4_dropOldest 4 = .ok (.iconst 0, 1) := by decide +kernel
theorem dX4_dropOldest_5 : decode cX4_dropOldest 5 = .ok (.aaload, 1) := by decide +kernel
theorem dX4_dropOldest_6 : decode cX4_dropOldest 6 = .ok (.astore_n 1, 1) := by decide +kernel
theorem dX4_dropOldest_7 : decode cX4_dropOldest 7 = .ok (.iconst 0, 1) := by decide +kernel
theorem dX4_dropOldest_8 : decode cX4_dropOldest 8 = .ok (.istore_n 2, 1) := by decide +kernel
theorem dX4_dropOldest_9 : decode cX4_dropOldest 9 = .ok (.iload_n 2, 1) := by decide +kernel
theorem dX4_dropOldest_10 : decode cX4_dropOldest 10 = .ok (.bipush 6, 2) := by decide +kernel
theorem dX4_dropOldest_12 : decode cX4_dropOldest 12 = .ok (.if_icmp .ge 23, 3) := by decide +kernel
theorem dX4_dropOldest_15 : decode cX4_dropOldest 15 = .ok (.aload_n 0, 1) := by decide +kernel
theorem dX4_dropOldest_16 : decode cX4_dropOldest 16 = .ok (.getfield 23, 3) := by decide +kernel
theorem dX4_dropOldest_19 : decode cX4_dropOldest 19 = .ok (.iload_n 2, 1) := by decide +kernel
theorem dX4_dropOldest_20 : decode cX4_dropOldest 20 = .ok (.aload_n 0, 1) := by decide +kernel
theorem dX4_dropOldest_21 : decode cX4_dropOldest 21 = .ok (.getfield 23, 3) := by decide +kernel
theorem dX4_dropOldest_24 : decode cX4_dropOldest 24 = .ok (.iload_n 2, 1) := by decide +kernel
theorem dX4_dropOldest_25 : decode cX4_dropOldest 25 = .ok (.iconst 1, 1) := by decide +kernel
theorem dX4_dropOldest_26 : decode cX4_dropOldest 26 = .ok (.iadd, 1) := by decide +kernel
theorem dX4_dropOldest_27 : decode cX4_dropOldest 27 = .ok (.aaload, 1) := by decide +kernel
theorem dX4_dropOldest_28 : decode cX4_dropOldest 28 = .ok (.aastore, 1) := by decide +kernel
theorem dX4_dropOldest_29 : decode cX4_dropOldest 29 = .ok (.iinc 2 1, 3) := by decide +kernel
theorem dX4_dropOldest_32 : decode cX4_dropOldest 32 = .ok (.goto (-23), 3) := by decide +kernel
theorem dX4_dropOldest_35 : decode cX4_dropOldest 35 = .ok (.aload_n 0, 1) := by decide +kernel
theorem dX4_dropOldest_36 : decode cX4_dropOldest 36 = .ok (.getfield 23, 3) := by decide +kernel
theorem dX4_dropOldest_39 : decode cX4_dropOldest 39 = .ok (.bipush 6, 2) := by decide +kernel
theorem dX4_dropOldest_41 : decode cX4_dropOldest 41 = .ok (.aload_n 1, 1) := by decide +kernel
theorem dX4_dropOldest_42 : decode cX4_dropOldest 42 = .ok (.aastore, 1) := by decide +kernel
theorem dX4_dropOldest_43 : decode cX4_dropOldest 43 = .ok (.return_, 1) := by decide +kernel
theorem dX4_holds_0 : decode cX4_holds 0 = .ok (.iload_n 0, 1) := by decide +kernel
theorem dX4_holds_1 : decode cX4_holds 1 = .ok (.iload_n 1, 1) := by decide +kernel
theorem dX4_holds_2 : decode cX4_holds 2 = .ok (.ishr, 1) := by decide +kernel
theorem dX4_holds_3 : decode cX4_holds 3 = .ok (.iconst 1, 1) := by decide +kernel
theorem dX4_holds_4 : decode cX4_holds 4 = .ok (.iand, 1) := by decide +kernel
theorem dX4_holds_5 : decode cX4_holds 5 = .ok (.iconst 1, 1) := by decide +kernel
theorem dX4_holds_6 : decode cX4_holds 6 = .ok (.if_icmp .ne 7, 3) := by decide +kernel
theorem dX4_holds_9 : decode cX4_holds 9 = .ok (.iconst 1, 1) := by decide +kernel
theorem dX4_holds_10 : decode cX4_holds 10 = .ok (.goto 4, 3) := by decide +kernel
theorem dX4_holds_13 : decode cX4_holds 13 = .ok (.iconst 0, 1) := by decide +kernel
theorem dX4_holds_14 : decode cX4_holds 14 = .ok (.ireturn, 1) := by decide +kernel
theorem dX4_firstOnes_0 : decode cX4_firstOnes 0 = .ok (.iconst 1, 1) := by decide +kernel
theorem dX4_firstOnes_1 : decode cX4_firstOnes 1 = .ok (.iload_n 0, 1) := by decide +kernel
theorem dX4_firstOnes_2 : decode cX4_firstOnes 2 = .ok (.ishl, 1) := by decide +kernel
theorem dX4_firstOnes_3 : decode cX4_firstOnes 3 = .ok (.iconst 1, 1) := by decide +kernel
theorem dX4_firstOnes_4 : decode cX4_firstOnes 4 = .ok (.isub, 1) := by decide +kernel
theorem dX4_firstOnes_5 : decode cX4_firstOnes 5 = .ok (.ireturn, 1) := by decide +kernel
theorem dX4_rowsWith_0 : decode cX4_rowsWith 0 = .ok (.iconst 0, 1) := by decide +kernel
theorem dX4_rowsWith_1 : decode cX4_rowsWith 1 = .ok (.istore_n 3, 1) := by decide +kernel
theorem dX4_rowsWith_2 : decode cX4_rowsWith 2 = .ok (.iconst 0, 1) := by decide +kernel
theorem dX4_rowsWith_3 : decode cX4_rowsWith 3 = .ok (.istore 4, 2) := by decide +kernel
theorem dX4_rowsWith_5 : decode cX4_rowsWith 5 = .ok (.iload 4, 2) := by decide +kernel
theorem dX4_rowsWith_7 : decode cX4_rowsWith 7 = .ok (.iload_n 1, 1) := by decide +kernel
theorem dX4_rowsWith_8 : decode cX4_rowsWith 8 = .ok (.if_icmp .ge 31, 3) := by decide +kernel
theorem dX4_rowsWith_11 : decode cX4_rowsWith 11 = .ok (.iload 4, 2) := by decide +kernel
theorem dX4_rowsWith_13 : decode cX4_rowsWith 13 = .ok (.aload_n 0, 1) := by decide +kernel
theorem dX4_rowsWith_14 : decode cX4_rowsWith 14 = .ok (.arraylength, 1) := by decide +kernel
theorem dX4_rowsWith_15 : decode cX4_rowsWith 15 = .ok (.if_icmp .ge 24, 3) := by decide +kernel
theorem dX4_rowsWith_18 : decode cX4_rowsWith 18 = .ok (.aload_n 0, 1) := by decide +kernel
theorem dX4_rowsWith_19 : decode cX4_rowsWith 19 = .ok (.iload 4, 2) := by decide +kernel
theorem dX4_rowsWith_21 : decode cX4_rowsWith 21 = .ok (.iaload, 1) := by decide +kernel
theorem dX4_rowsWith_22 : decode cX4_rowsWith 22 = .ok (.iload_n 2, 1) := by decide +kernel
theorem dX4_rowsWith_23 : decode cX4_rowsWith 23 = .ok (.if_icmp .ne 10, 3) := by decide +kernel
theorem dX4_rowsWith_26 : decode cX4_rowsWith 26 = .ok (.iload_n 3, 1) := by decide +kernel
theorem dX4_rowsWith_27 : decode cX4_rowsWith 27 = .ok (.iconst 1, 1) := by decide +kernel
theorem dX4_rowsWith_28 : decode cX4_rowsWith 28 = .ok (.iload 4, 2) := by decide +kernel
theorem dX4_rowsWith_30 : decode cX4_rowsWith 30 = .ok (.ishl, 1) := by decide +kernel
theorem dX4_rowsWith_31 : decode cX4_rowsWith 31 = .ok (.ior, 1) := by decide +kernel
theorem dX4_rowsWith_32 : decode cX4_rowsWith 32 = .ok (.istore_n 3, 1) := by decide +kernel
theorem dX4_rowsWith_33 : decode cX4_rowsWith 33 = .ok (.iinc 4 1, 3) := by decide +kernel
theorem dX4_rowsWith_36 : decode cX4_rowsWith 36 = .ok (.goto (-31), 3) := by decide +kernel
theorem dX4_rowsWith_39 : decode cX4_rowsWith 39 = .ok (.iload_n 3, 1) := by decide +kernel
theorem dX4_rowsWith_40 : decode cX4_rowsWith 40 = .ok (.ireturn, 1) := by decide +kernel
theorem dX4_numbersIn_0 : decode cX4_numbersIn 0 = .ok (.iconst 0, 1) := by decide +kernel
theorem dX4_numbersIn_1 : decode cX4_numbersIn 1 = .ok (.istore_n 2, 1) := by decide +kernel
theorem dX4_numbersIn_2 : decode cX4_numbersIn 2 = .ok (.iconst 0, 1) := by decide +kernel
theorem dX4_numbersIn_3 : decode cX4_numbersIn 3 = .ok (.istore_n 3, 1) := by decide +kernel
theorem dX4_numbersIn_4 : decode cX4_numbersIn 4 = .ok (.iload_n 3, 1) := by decide +kernel
theorem dX4_numbersIn_5 : decode cX4_numbersIn 5 = .ok (.aload_n 0, 1) := by decide +kernel
theorem dX4_numbersIn_6 : decode cX4_numbersIn 6 = .ok (.arraylength, 1) := by decide +kernel
theorem dX4_numbersIn_7 : decode cX4_numbersIn 7 = .ok (.if_icmp .ge 25, 3) := by decide +kernel
theorem dX4_numbersIn_10 : decode cX4_numbersIn 10 = .ok (.iload_n 1, 1) := by decide +kernel
theorem dX4_numbersIn_11 : decode cX4_numbersIn 11 = .ok (.iload_n 3, 1) := by decide +kernel
theorem dX4_numbersIn_12 : decode cX4_numbersIn 12 = .ok (.invokestatic 161, 3) := by decide +kernel
theorem dX4_numbersIn_15 : decode cX4_numbersIn 15 = .ok (.ifCond .eq 11, 3) := by decide +kernel
theorem dX4_numbersIn_18 : decode cX4_numbersIn 18 = .ok (.iload_n 2, 1) := by decide +kernel
theorem dX4_numbersIn_19 : decode cX4_numbersIn 19 = .ok (.iconst 1, 1) := by decide +kernel
theorem dX4_numbersIn_20 : decode cX4_numbersIn 20 = .ok (.aload_n 0, 1) := by decide +kernel
theorem dX4_numbersIn_21 : decode cX4_numbersIn 21 = .ok (.iload_n 3, 1) := by decide +kernel
theorem dX4_numbersIn_22 : decode cX4_numbersIn 22 = .ok (.iaload, 1) := by decide +kernel
theorem dX4_numbersIn_23 : decode cX4_numbersIn 23 = .ok (.ishl, 1) := by decide +kernel
theorem dX4_numbersIn_24 : decode cX4_numbersIn 24 = .ok (.ior, 1) := by decide +kernel
theorem dX4_numbersIn_25 : decode cX4_numbersIn 25 = .ok (.istore_n 2, 1) := by decide +kernel
theorem dX4_numbersIn_26 : decode cX4_numbersIn 26 = .ok (.iinc 3 1, 3) := by decide +kernel
theorem dX4_numbersIn_29 : decode cX4_numbersIn 29 = .ok (.goto (-25), 3) := by decide +kernel
theorem dX4_numbersIn_32 : decode cX4_numbersIn 32 = .ok (.iload_n 2, 1) := by decide +kernel
theorem dX4_numbersIn_33 : decode cX4_numbersIn 33 = .ok (.ireturn, 1) := by decide +kernel
theorem dX4_sum_0 : decode cX4_sum 0 = .ok (.iconst 0, 1) := by decide +kernel
theorem dX4_sum_1 : decode cX4_sum 1 = .ok (.istore_n 2, 1) := by decide +kernel
theorem dX4_sum_2 : decode cX4_sum 2 = .ok (.iconst 0, 1) := by decide +kernel
theorem dX4_sum_3 : decode cX4_sum 3 = .ok (.istore_n 3, 1) := by decide +kernel
theorem dX4_sum_4 : decode cX4_sum 4 = .ok (.iload_n 3, 1) := by decide +kernel
theorem dX4_sum_5 : decode cX4_sum 5 = .ok (.aload_n 0, 1) := by decide +kernel
theorem dX4_sum_6 : decode cX4_sum 6 = .ok (.arraylength, 1) := by decide +kernel
theorem dX4_sum_7 : decode cX4_sum 7 = .ok (.if_icmp .ge 23, 3) := by decide +kernel
theorem dX4_sum_10 : decode cX4_sum 10 = .ok (.iload_n 1, 1) := by decide +kernel
theorem dX4_sum_11 : decode cX4_sum 11 = .ok (.iload_n 3, 1) := by decide +kernel
theorem dX4_sum_12 : decode cX4_sum 12 = .ok (.invokestatic 161, 3) := by decide +kernel
theorem dX4_sum_15 : decode cX4_sum 15 = .ok (.ifCond .eq 9, 3) := by decide +kernel
theorem dX4_sum_18 : decode cX4_sum 18 = .ok (.iload_n 2, 1) := by decide +kernel
theorem dX4_sum_19 : decode cX4_sum 19 = .ok (.aload_n 0, 1) := by decide +kernel
theorem dX4_sum_20 : decode cX4_sum 20 = .ok (.iload_n 3, 1) := by decide +kernel
theorem dX4_sum_21 : decode cX4_sum 21 = .ok (.iaload, 1) := by decide +kernel
theorem dX4_sum_22 : decode cX4_sum 22 = .ok (.iadd, 1) := by decide +kernel
theorem dX4_sum_23 : decode cX4_sum 23 = .ok (.istore_n 2, 1) := by decide +kernel
theorem dX4_sum_24 : decode cX4_sum 24 = .ok (.iinc 3 1, 3) := by decide +kernel
theorem dX4_sum_27 : decode cX4_sum 27 = .ok (.goto (-23), 3) := by decide +kernel
theorem dX4_sum_30 : decode cX4_sum 30 = .ok (.iload_n 2, 1) := by decide +kernel
theorem dX4_sum_31 : decode cX4_sum 31 = .ok (.ireturn, 1) := by decide +kernel
theorem dX4_copy_0 : decode cX4_copy 0 = .ok (.aload_n 0, 1) := by decide +kernel
theorem dX4_copy_1 : decode cX4_copy 1 = .ok (.iconst 0, 1) := by decide +kernel
theorem dX4_copy_2 : decode cX4_copy 2 = .ok (.aload_n 1, 1) := by decide +kernel
theorem dX4_copy_3 : decode cX4_copy 3 = .ok (.iconst 0, 1) := by decide +kernel
theorem dX4_copy_4 : decode cX4_copy 4 = .ok (.aload_n 0, 1) := by decide +kernel
theorem dX4_copy_5 : decode cX4_copy 5 = .ok (.arraylength, 1) := by decide +kernel
theorem dX4_copy_6 : decode cX4_copy 6 = .ok (.aload_n 1, 1) := by decide +kernel
theorem dX4_copy_7 : decode cX4_copy 7 = .ok (.arraylength, 1) := by decide +kernel
theorem dX4_copy_8 : decode cX4_copy 8 = .ok (.invokestatic 165, 3) := by decide +kernel
theorem dX4_copy_11 : decode cX4_copy 11 = .ok (.invokestatic 170, 3) := by decide +kernel
theorem dX4_copy_14 : decode cX4_copy 14 = .ok (.return_, 1) := by decide +kernel
theorem dJ6_bitCount_0f7a4_0 : decode cJ6_bitCount_0f7a4 0 = .ok (.iload_n 0, 1) := by decide +kernel
theorem dJ6_bitCount_0f7a4_1 : decode cJ6_bitCount_0f7a4 1 = .ok (.iload_n 0, 1) := by decide +kernel
theorem dJ6_bitCount_0f7a4_2 : decode cJ6_bitCount_0f7a4 2 = .ok (.iconst 1, 1) := by decide +kernel
theorem dJ6_bitCount_0f7a4_3 : decode cJ6_bitCount_0f7a4 3 = .ok (.iushr, 1) := by decide +kernel
theorem dJ6_bitCount_0f7a4_4 : decode cJ6_bitCount_0f7a4 4 = .ok (.ldc_w 265, 3) := by decide +kernel
theorem dJ6_bitCount_0f7a4_7 : decode cJ6_bitCount_0f7a4 7 = .ok (.iand, 1) := by decide +kernel
theorem dJ6_bitCount_0f7a4_8 : decode cJ6_bitCount_0f7a4 8 = .ok (.isub, 1) := by decide +kernel
theorem dJ6_bitCount_0f7a4_9 : decode cJ6_bitCount_0f7a4 9 = .ok (.istore_n 0, 1) := by decide +kernel
theorem dJ6_bitCount_0f7a4_10 : decode cJ6_bitCount_0f7a4 10 = .ok (.iload_n 0, 1) := by decide +kernel
theorem dJ6_bitCount_0f7a4_11 : decode cJ6_bitCount_0f7a4 11 = .ok (.ldc_w 266, 3) := by decide +kernel
theorem dJ6_bitCount_0f7a4_14 : decode cJ6_bitCount_0f7a4 14 = .ok (.iand, 1) := by decide +kernel
theorem dJ6_bitCount_0f7a4_15 : decode cJ6_bitCount_0f7a4 15 = .ok (.iload_n 0, 1) := by decide +kernel
theorem dJ6_bitCount_0f7a4_16 : decode cJ6_bitCount_0f7a4 16 = .ok (.iconst 2, 1) := by decide +kernel
theorem dJ6_bitCount_0f7a4_17 : decode cJ6_bitCount_0f7a4 17 = .ok (.iushr, 1) := by decide +kernel
theorem dJ6_bitCount_0f7a4_18 : decode cJ6_bitCount_0f7a4 18 = .ok (.ldc_w 266, 3) := by decide +kernel
theorem dJ6_bitCount_0f7a4_21 : decode cJ6_bitCount_0f7a4 21 = .ok (.iand, 1) := by decide +kernel
theorem dJ6_bitCount_0f7a4_22 : decode cJ6_bitCount_0f7a4 22 = .ok (.iadd, 1) := by decide +kernel
theorem dJ6_bitCount_0f7a4_23 : decode cJ6_bitCount_0f7a4 23 = .ok (.istore_n 0, 1) := by decide +kernel
theorem dJ6_bitCount_0f7a4_24 : decode cJ6_bitCount_0f7a4 24 = .ok (.iload_n 0, 1) := by decide +kernel
theorem dJ6_bitCount_0f7a4_25 : decode cJ6_bitCount_0f7a4 25 = .ok (.iload_n 0, 1) := by decide +kernel
theorem dJ6_bitCount_0f7a4_26 : decode cJ6_bitCount_0f7a4 26 = .ok (.iconst 4, 1) := by decide +kernel
theorem dJ6_bitCount_0f7a4_27 : decode cJ6_bitCount_0f7a4 27 = .ok (.iushr, 1) := by decide +kernel
theorem dJ6_bitCount_0f7a4_28 : decode cJ6_bitCount_0f7a4 28 = .ok (.iadd, 1) := by decide +kernel
theorem dJ6_bitCount_0f7a4_29 : decode cJ6_bitCount_0f7a4 29 = .ok (.ldc_w 267, 3) := by decide +kernel
theorem dJ6_bitCount_0f7a4_32 : decode cJ6_bitCount_0f7a4 32 = .ok (.iand, 1) := by decide +kernel
theorem dJ6_bitCount_0f7a4_33 : decode cJ6_bitCount_0f7a4 33 = .ok (.istore_n 0, 1) := by decide +kernel
theorem dJ6_bitCount_0f7a4_34 : decode cJ6_bitCount_0f7a4 34 = .ok (.iload_n 0, 1) := by decide +kernel
theorem dJ6_bitCount_0f7a4_35 : decode cJ6_bitCount_0f7a4 35 = .ok (.iload_n 0, 1) := by decide +kernel
theorem dJ6_bitCount_0f7a4_36 : decode cJ6_bitCount_0f7a4 36 = .ok (.bipush 8, 2) := by decide +kernel
theorem dJ6_bitCount_0f7a4_38 : decode cJ6_bitCount_0f7a4 38 = .ok (.iushr, 1) := by decide +kernel
theorem dJ6_bitCount_0f7a4_39 : decode cJ6_bitCount_0f7a4 39 = .ok (.iadd, 1) := by decide +kernel
theorem dJ6_bitCount_0f7a4_40 : decode cJ6_bitCount_0f7a4 40 = .ok (.istore_n 0, 1) := by decide +kernel
theorem dJ6_bitCount_0f7a4_41 : decode cJ6_bitCount_0f7a4 41 = .ok (.iload_n 0, 1) := by decide +kernel
theorem dJ6_bitCount_0f7a4_42 : decode cJ6_bitCount_0f7a4 42 = .ok (.iload_n 0, 1) := by decide +kernel
theorem dJ6_bitCount_0f7a4_43 : decode cJ6_bitCount_0f7a4 43 = .ok (.bipush 16, 2) := by decide +kernel
theorem dJ6_bitCount_0f7a4_45 : decode cJ6_bitCount_0f7a4 45 = .ok (.iushr, 1) := by decide +kernel
theorem dJ6_bitCount_0f7a4_46 : decode cJ6_bitCount_0f7a4 46 = .ok (.iadd, 1) := by decide +kernel
theorem dJ6_bitCount_0f7a4_47 : decode cJ6_bitCount_0f7a4 47 = .ok (.istore_n 0, 1) := by decide +kernel
theorem dJ6_bitCount_0f7a4_48 : decode cJ6_bitCount_0f7a4 48 = .ok (.iload_n 0, 1) := by decide +kernel
theorem dJ6_bitCount_0f7a4_49 : decode cJ6_bitCount_0f7a4 49 = .ok (.bipush 63, 2) := by decide +kernel
theorem dJ6_bitCount_0f7a4_51 : decode cJ6_bitCount_0f7a4 51 = .ok (.iand, 1) := by decide +kernel
theorem dJ6_bitCount_0f7a4_52 : decode cJ6_bitCount_0f7a4 52 = .ok (.ireturn, 1) := by decide +kernel
end
section
theorem dX5_init_0 : decode cX5_init 0 = .ok (.aload_n 0, 1) := by decide +kernel
theorem dX5_init_1 : decode cX5_init 1 = .ok (.invokespecial 1, 3) := by decide +kernel
theorem dX5_init_4 : decode cX5_init 4 = .ok (.aload_n 0, 1) := by decide +kernel
theorem dX5_init_5 : decode cX5_init 5 = .ok (.sipush 300, 3) := by decide +kernel
theorem dX5_init_8 : decode cX5_init 8 = .ok (.newarray .int, 2) := by decide +kernel
theorem dX5_init_10 : decode cX5_init 10 = .ok (.putfield 7, 3) := by decide +kernel
theorem dX5_init_13 : decode cX5_init 13 = .ok (.aload_n 0, 1) := by decide +kernel
theorem dX5_init_14 : decode cX5_init 14 = .ok (.sipush 300, 3) := by decide +kernel
theorem dX5_init_17 : decode cX5_init 17 = .ok (.newarray .int, 2) := by decide +kernel
theorem dX5_init_19 : decode cX5_init 19 = .ok (.putfield 13, 3) := by decide +kernel
theorem dX5_init_22 : decode cX5_init 22 = .ok (.aload_n 0, 1) := by decide +kernel
theorem dX5_init_23 : decode cX5_init 23 = .ok (.sipush 1800, 3) := by decide +kernel
theorem dX5_init_26 : decode cX5_init 26 = .ok (.newarray .int, 2) := by decide +kernel
theorem dX5_init_28 : decode cX5_init 28 = .ok (.putfield 16, 3) := by decide +kernel
theorem dX5_init_31 : decode cX5_init 31 = .ok (.aload_n 0, 1) := by decide +kernel
theorem dX5_init_32 : decode cX5_init 32 = .ok (.sipush 600, 3) := by decide +kernel
theorem dX5_init_35 : decode cX5_init 35 = .ok (.newarray .int, 2) := by decide +kernel
theorem dX5_init_37 : decode cX5_init 37 = .ok (.putfield 19, 3) := by decide +kernel
theorem dX5_init_40 : decode cX5_init 40 = .ok (.aload_n 0, 1) := by decide +kernel
theorem dX5_init_41 : decode cX5_init 41 = .ok (.iconst 2, 1) := by decide +kernel
theorem dX5_init_42 : decode cX5_init 42 = .ok (.newarray .boolean, 2) := by decide +kernel
theorem dX5_init_44 : decode cX5_init 44 = .ok (.putfield 22, 3) := by decide +kernel
theorem dX5_init_47 : decode cX5_init 47 = .ok (.aload_n 0, 1) := by decide +kernel
theorem dX5_init_48 : decode cX5_init 48 = .ok (.bipush 80, 2) := by decide +kernel
theorem dX5_init_50 : decode cX5_init 50 = .ok (.newarray .int, 2) := by decide +kernel
theorem dX5_init_52 : decode cX5_init 52 = .ok (.putfield 26, 3) := by decide +kernel
theorem dX5_init_55 : decode cX5_init 55 = .ok (.aload_n 0, 1) := by decide +kernel
theorem dX5_init_56 : decode cX5_init 56 = .ok (.sipush 164, 3) := by decide +kernel
theorem dX5_init_59 : decode cX5_init 59 = .ok (.newarray .int, 2) := by decide +kernel
theorem dX5_init_61 : decode cX5_init 61 = .ok (.putfield 29, 3) := by decide +kernel
theorem dX5_init_64 : decode cX5_init 64 = .ok (.aload_n 0, 1) := by decide +kernel
theorem dX5_init_65 : decode cX5_init 65 = .ok (.getfield 7, 3) := by decide +kernel
theorem dX5_init_68 : decode cX5_init 68 = .ok (.iconst 0, 1) := by decide +kernel
theorem dX5_init_69 : decode cX5_init 69 = .ok (.sipush 366, 3) := by decide +kernel
theorem dX5_init_72 : decode cX5_init 72 = .ok (.iastore, 1) := by decide +kernel
theorem dX5_init_73 : decode cX5_init 73 = .ok (.aload_n 0, 1) := by decide +kernel
theorem dX5_init_74 : decode cX5_init 74 = .ok (.getfield 7, 3) := by decide +kernel
theorem dX5_init_77 : decode cX5_init 77 = .ok (.iconst 1, 1) := by decide +kernel
theorem dX5_init_78 : decode cX5_init 78 = .ok (.bipush 60, 2) := by decide +kernel
theorem dX5_init_80 : decode cX5_init 80 = .ok (.iastore, 1) := by decide +kernel
theorem dX5_init_81 : decode cX5_init 81 = .ok (.aload_n 0, 1) := by decide +kernel
theorem dX5_init_82 : decode cX5_init 82 = .ok (.getfield 7, 3) := by decide +kernel
theorem dX5_init_85 : decode cX5_init 85 = .ok (.iconst 2, 1) := by decide +kernel
theorem dX5_init_86 : decode cX5_init 86 = .ok (.bipush 90, 2) := by decide +kernel
theorem dX5_init_88 : decode cX5_init 88 = .ok (.iastore, 1) := by decide +kernel
theorem dX5_init_89 : decode cX5_init 89 = .ok (.aload_n 0, 1) := by decide +kernel
theorem dX5_init_90 : decode cX5_init 90 = .ok (.getfield 7, 3) := by decide +kernel
theorem dX5_init_93 : decode cX5_init 93 = .ok (.iconst 3, 1) := by decide +kernel
theorem dX5_init_94 : decode cX5_init 94 = .ok (.bipush 30, 2) := by decide +kernel
theorem dX5_init_96 : decode cX5_init 96 = .ok (.iastore, 1) := by decide +kernel
theorem dX5_init_97 : decode cX5_init 97 = .ok (.aload_n 0, 1) := by decide +kernel
theorem dX5_init_98 : decode cX5_init 98 = .ok (.getfield 7, 3) := by decide +kernel
theorem dX5_init_101 : decode cX5_init 101 = .ok (.iconst 4, 1) := by decide +kernel
theorem dX5_init_102 : decode cX5_init 102 = .ok (.iconst 5, 1) := by decide +kernel
theorem dX5_init_103 : decode cX5_init 103 = .ok (.iastore, 1) := by decide +kernel
theorem dX5_init_104 : decode cX5_init 104 = .ok (.return_, 1) := by decide +kernel
theorem dX5_in_0 : decode cX5_in 0 = .ok (.iload_n 0, 1) := by decide +kernel
theorem dX5_in_1 : decode cX5_in 1 = .ok (.iload_n 1, 1) := by decide +kernel
theorem dX5_in_2 : decode cX5_in 2 = .ok (.if_icmp .lt 12, 3) := by decide +kernel
theorem dX5_in_5 : decode cX5_in 5 = .ok (.iload_n 0, 1) := by decide +kernel
theorem dX5_in_6 : decode cX5_in 6 = .ok (.iload_n 2, 1) := by decide +kernel
theorem dX5_in_7 : decode cX5_in 7 = .ok (.if_icmp .gt 7, 3) := by decide +kernel
theorem dX5_in_10 : decode cX5_in 10 = .ok (.iconst 1, 1) := by decide +kernel
theorem dX5_in_11 : decode cX5_in 11 = .ok (.goto 4, 3) := by decide +kernel
theorem dX5_in_14 : decode cX5_in 14 = .ok (.iconst 0, 1) := by decide +kernel
theorem dX5_in_15 : decode cX5_in 15 = .ok (.ireturn, 1) := by decide +kernel
theorem dX5_lotOf_0 : decode cX5_lotOf 0 = .ok (.aload_n 0, 1) := by decide +kernel
theorem dX5_lotOf_1 : decode cX5_lotOf 1 = .ok (.getfield 7, 3) := by decide +kernel
theorem dX5_lotOf_4 : decode cX5_lotOf 4 = .ok (.bipush 10, 2) := by decide +kernel
theorem dX5_lotOf_6 : decode cX5_lotOf 6 = .ok (.iconst 4, 1) := by decide +kernel
theorem dX5_lotOf_7 : decode cX5_lotOf 7 = .ok (.iload_n 1, 1) := by decide +kernel
theorem dX5_lotOf_8 : decode cX5_lotOf 8 = .ok (.imul, 1) := by decide +kernel
theorem dX5_lotOf_9 : decode cX5_lotOf 9 = .ok (.iadd, 1) := by decide +kernel
theorem dX5_lotOf_10 : decode cX5_lotOf 10 = .ok (.iload_n 2, 1) := by decide +kernel
theorem dX5_lotOf_11 : decode cX5_lotOf 11 = .ok (.iadd, 1) := by decide +kernel
theorem dX5_lotOf_12 : decode cX5_lotOf 12 = .ok (.iaload, 1) := by decide +kernel
theorem dX5_lotOf_13 : decode cX5_lotOf 13 = .ok (.ireturn, 1) := by decide +kernel
theorem dX5_layLot_0 : decode cX5_layLot 0 = .ok (.aload_n 0, 1) := by decide +kernel
theorem dX5_layLot_1 : decode cX5_layLot 1 = .ok (.getfield 7, 3) := by decide +kernel
theorem dX5_layLot_4 : decode cX5_layLot 4 = .ok (.bipush 10, 2) := by decide +kernel
theorem dX5_layLot_6 : decode cX5_layLot 6 = .ok (.iconst 4, 1) := by decide +kernel
theorem dX5_layLot_7 : decode cX5_layLot 7 = .ok (.iload_n 1, 1) := by decide +kernel
theorem dX5_layLot_8 : decode cX5_layLot 8 = .ok (.imul, 1) := by decide +kernel
theorem dX5_layLot_9 : decode cX5_layLot 9 = .ok (.iadd, 1) := by decide +kernel
theorem dX5_layLot_10 : decode cX5_layLot 10 = .ok (.iload_n 2, 1) := by decide +kernel
theorem dX5_layLot_11 : decode cX5_layLot 11 = .ok (.iadd, 1) := by decide +kernel
theorem dX5_layLot_12 : decode cX5_layLot 12 = .ok (.iload_n 3, 1) := by decide +kernel
theorem dX5_layLot_13 : decode cX5_layLot 13 = .ok (.iastore, 1) := by decide +kernel
theorem dX5_layLot_14 : decode cX5_layLot 14 = .ok (.return_, 1) := by decide +kernel
theorem dX5_claimOf_0 : decode cX5_claimOf 0 = .ok (.aload_n 0, 1) := by decide +kernel
theorem dX5_claimOf_1 : decode cX5_claimOf 1 = .ok (.getfield 7, 3) := by decide +kernel
theorem dX5_claimOf_4 : decode cX5_claimOf 4 = .ok (.bipush 58, 2) := by decide +kernel
theorem dX5_claimOf_6 : decode cX5_claimOf 6 = .ok (.bipush 7, 2) := by decide +kernel
theorem dX5_claimOf_8 : decode cX5_claimOf 8 = .ok (.iload_n 1, 1) := by decide +kernel
theorem dX5_claimOf_9 : decode cX5_claimOf 9 = .ok (.imul, 1) := by decide +kernel
theorem dX5_claimOf_10 : decode cX5_claimOf 10 = .ok (.iadd, 1) := by decide +kernel
theorem dX5_claimOf_11 : decode cX5_claimOf 11 = .ok (.iload_n 2, 1) := by decide +kernel
theorem dX5_claimOf_12 : decode cX5_claimOf 12 = .ok (.iadd, 1) := by decide +kernel
theorem dX5_claimOf_13 : decode cX5_claimOf 13 = .ok (.iaload, 1) := by decide +kernel
theorem dX5_claimOf_14 : decode cX5_claimOf 14 = .ok (.ireturn, 1) := by decide +kernel
theorem dX5_layClaim_0 : decode cX5_layClaim 0 = .ok (.aload_n 0, 1) := by decide +kernel
theorem dX5_layClaim_1 : decode cX5_layClaim 1 = .ok (.getfield 7, 3) := by decide +kernel
theorem dX5_layClaim_4 : decode cX5_layClaim 4 = .ok (.bipush 58, 2) := by decide +kernel
theorem dX5_layClaim_6 : decode cX5_layClaim 6 = .ok (.bipush 7, 2) := by decide +kernel
theorem dX5_layClaim_8 : decode cX5_layClaim 8 = .ok (.iload_n 1, 1) := by decide +kernel
theorem dX5_layClaim_9 : decode cX5_layClaim 9 = .ok (.imul, 1) := by decide +kernel
theorem dX5_layClaim_10 : decode cX5_layClaim 10 = .ok (.iadd, 1) := by decide +kernel
theorem dX5_layClaim_11 : decode cX5_layClaim 11 = .ok (.iload_n 2, 1) := by decide +kernel
theorem dX5_layClaim_12 : decode cX5_layClaim 12 = .ok (.iadd, 1) := by decide +kernel
theorem dX5_layClaim_13 : decode cX5_layClaim 13 = .ok (.iload_n 3, 1) := by decide +kernel
theorem dX5_layClaim_14 : decode cX5_layClaim 14 = .ok (.iastore, 1) := by decide +kernel
theorem dX5_layClaim_15 : decode cX5_layClaim 15 = .ok (.return_, 1) := by decide +kernel
theorem dX5_isLot_0 : decode cX5_isLot 0 = .ok (.iload_n 1, 1) := by decide +kernel
theorem dX5_isLot_1 : decode cX5_isLot 1 = .ok (.iconst 0, 1) := by decide +kernel
theorem dX5_isLot_2 : decode cX5_isLot 2 = .ok (.aload_n 0, 1) := by decide +kernel
theorem dX5_isLot_3 : decode cX5_isLot 3 = .ok (.getfield 7, 3) := by decide +kernel
theorem dX5_isLot_6 : decode cX5_isLot 6 = .ok (.bipush 7, 2) := by decide +kernel
theorem dX5_isLot_8 : decode cX5_isLot 8 = .ok (.iaload, 1) := by decide +kernel
theorem dX5_isLot_9 : decode cX5_isLot 9 = .ok (.iconst 1, 1) := by decide +kernel
theorem dX5_isLot_10 : decode cX5_isLot 10 = .ok (.isub, 1) := by decide +kernel
theorem dX5_isLot_11 : decode cX5_isLot 11 = .ok (.invokestatic 32, 3) := by decide +kernel
theorem dX5_isLot_14 : decode cX5_isLot 14 = .ok (.ireturn, 1) := by decide +kernel
theorem dX5_isClaim_0 : decode cX5_isClaim 0 = .ok (.iload_n 1, 1) := by decide +kernel
theorem dX5_isClaim_1 : decode cX5_isClaim 1 = .ok (.iconst 0, 1) := by decide +kernel
theorem dX5_isClaim_2 : decode cX5_isClaim 2 = .ok (.aload_n 0, 1) := by decide +kernel
theorem dX5_isClaim_3 : decode cX5_isClaim 3 = .ok (.getfield 7, 3) := by decide +kernel
theorem dX5_isClaim_6 : decode cX5_isClaim 6 = .ok (.bipush 8, 2) := by decide +kernel
theorem dX5_isClaim_8 : decode cX5_isClaim 8 = .ok (.iaload, 1) := by decide +kernel
theorem dX5_isClaim_9 : decode cX5_isClaim 9 = .ok (.iconst 1, 1) := by decide +kernel
theorem dX5_isClaim_10 : decode cX5_isClaim 10 = .ok (.isub, 1) := by decide +kernel
theorem dX5_isClaim_11 : decode cX5_isClaim 11 = .ok (.invokestatic 32, 3) := by decide +kernel
theorem dX5_isClaim_14 : decode cX5_isClaim 14 = .ok (.ireturn, 1) := by decide +kernel
theorem dX5_isHeir_0 : decode cX5_isHeir 0 = .ok (.iload_n 0, 1) := by decide +kernel
theorem dX5_isHeir_1 : decode cX5_isHeir 1 = .ok (.iconst 0, 1) := by decide +kernel
theorem dX5_isHeir_2 : decode cX5_isHeir 2 = .ok (.bipush 15, 2) := by decide +kernel
theorem dX5_isHeir_4 : decode cX5_isHeir 4 = .ok (.invokestatic 32, 3) := by decide +kernel
theorem dX5_isHeir_7 : decode cX5_isHeir 7 = .ok (.ireturn, 1) := by decide +kernel
theorem dX5_copyState_0 : decode cX5_copyState 0 = .ok (.iconst 0, 1) := by decide +kernel
theorem dX5_copyState_1 : decode cX5_copyState 1 = .ok (.istore 4, 2) := by decide +kernel
theorem dX5_copyState_3 : decode cX5_copyState 3 = .ok (.iload 4, 2) := by decide +kernel
theorem dX5_copyState_5 : decode cX5_copyState 5 = .ok (.sipush 300, 3) := by decide +kernel
theorem dX5_copyState_8 : decode cX5_copyState 8 = .ok (.if_icmp .ge 21, 3) := by decide +kernel
theorem dX5_copyState_11 : decode cX5_copyState 11 = .ok (.aload_n 2, 1) := by decide +kernel
theorem dX5_copyState_12 : decode cX5_copyState 12 = .ok (.iload_n 3, 1) := by decide +kernel
theorem dX5_copyState_13 : decode cX5_copyState 13 = .ok (.iload 4, 2) := by decide +kernel
theorem dX5_copyState_15 : decode cX5_copyState 15 = .ok (.iadd, 1) := by decide +kernel
theorem dX5_copyState_16 : decode cX5_copyState 16 = .ok (.aload_n 0, 1) := by decide +kernel
theorem dX5_copyState_17 : decode cX5_copyState 17 = .ok (.iload_n 1, 1) := by decide +kernel
theorem dX5_copyState_18 : decode cX5_copyState 18 = .ok (.iload 4, 2) := by decide +kernel
theorem dX5_copyState_20 : decode cX5_copyState 20 = .ok (.iadd, 1) := by decide +kernel
theorem dX5_copyState_21 : decode cX5_copyState 21 = .ok (.iaload, 1) := by decide +kernel
theorem dX5_copyState_22 : decode cX5_copyState 22 = .ok (.iastore, 1) := by decide +kernel
theorem dX5_copyState_23 : decode cX5_copyState 23 = .ok (.iinc 4 1, 3) := by decide +kernel
theorem dX5_copyState_26 : decode cX5_copyState 26 = .ok (.goto (-23), 3) := by decide +kernel
theorem dX5_copyState_29 : decode cX5_copyState 29 = .ok (.return_, 1) := by decide +kernel
theorem dX5_record_0 : decode cX5_record 0 = .ok (.aload_n 0, 1) := by decide +kernel
theorem dX5_record_1 : decode cX5_record 1 = .ok (.getfield 36, 3) := by decide +kernel
theorem dX5_record_4 : decode cX5_record 4 = .ok (.bipush 6, 2) := by decide +kernel
theorem dX5_record_6 : decode cX5_record 6 = .ok (.if_icmp .ne 44, 3) := by decide +kernel
theorem dX5_record_9 : decode cX5_record 9 = .ok (.iconst 0, 1) := by decide +kernel
theorem dX5_record_10 : decode cX5_record 10 = .ok (.istore_n 1, 1) := by decide +kernel
theorem dX5_record_11 : decode cX5_record 11 = .ok (.iload_n 1, 1) := by decide +kernel
theorem dX5_record_12 : decode cX5_record 12 = .ok (.sipush 1500, 3) := by decide +kernel
theorem dX5_record_15 : decode cX5_record 15 = .ok (.if_icmp .ge 25, 3) := by decide +kernel
theorem dX5_record_18 : decode cX5_record 18 = .ok (.aload_n 0, 1) := by decide +kernel
theorem dX5_record_19 : decode cX5_record 19 = .ok (.getfield 16, 3) := by decide +kernel
theorem dX5_record_22 : decode cX5_record 22 = .ok (.iload_n 1, 1) := by decide +kernel
theorem dX5_record_23 : decode cX5_record 23 = .ok (.aload_n 0, 1) := by decide +kernel
theorem dX5_record_24 : decode cX5_record 24 = .ok (.getfield 16, 3) := by decide +kernel
theorem dX5_record_27 : decode cX5_record 27 = .ok (.iload_n 1, 1) := by decide +kernel
theorem dX5_record_28 : decode cX5_record 28 = .ok (.sipush 300, 3) := by decide +kernel
theorem dX5_record_31 : decode cX5_record 31 = .ok (.iadd, 1) := by decide +kernel
theorem dX5_record_32 : decode cX5_record 32 = .ok (.iaload, 1) := by decide +kernel
theorem dX5_record_33 : decode cX5_record 33 = .ok (.iastore, 1) := by decide +kernel
theorem dX5_record_34 : decode cX5_record 34 = .ok (.iinc 1 1, 3) := by decide +kernel
theorem dX5_record_37 : decode cX5_record 37 = .ok (.goto (-26), 3) := by decide +kernel
theorem dX5_record_40 : decode cX5_record 40 = .ok (.aload_n 0, 1) := by decide +kernel
theorem dX5_record_41 : decode cX5_record 41 = .ok (.dup, 1) := by decide +kernel
theorem dX5_record_42 : decode cX5_record 42 = .ok (.getfield 36, 3) := by decide +kernel
theorem dX5_record_45 : decode cX5_record 45 = .ok (.iconst 1, 1) := by decide +kernel
theorem dX5_record_46 : decode cX5_record 46 = .ok (.isub, 1) := by decide +kernel
theorem dX5_record_47 : decode cX5_record 47 = .ok (.putfield 36, 3) := by decide +kernel
theorem dX5_record_50 : decode cX5_record 50 = .ok (.aload_n 0, 1) := by decide +kernel
theorem dX5_record_51 : decode cX5_record 51 = .ok (.getfield 7, 3) := by decide +kernel
theorem dX5_record_54 : decode cX5_record 54 = .ok (.iconst 0, 1) := by decide +kernel
theorem dX5_record_55 : decode cX5_record 55 = .ok (.aload_n 0, 1) := by decide +kernel
theorem dX5_record_56 : decode cX5_record 56 = .ok (.getfield 16, 3) := by decide +kernel
theorem dX5_record_59 : decode cX5_record 59 = .ok (.sipush 300, 3) := by decide +kernel
theorem dX5_record_62 : decode cX5_record 62 = .ok (.aload_n 0, 1) := by decide +kernel
theorem dX5_record_63 : decode cX5_record 63 = .ok (.getfield 36, 3) := by decide +kernel
theorem dX5_record_66 : decode cX5_record 66 = .ok (.imul, 1) := by decide +kernel
theorem dX5_record_67 : decode cX5_record 67 = .ok (.invokestatic 40, 3) := by decide +kernel
theorem dX5_record_70 : decode cX5_record 70 = .ok (.aload_n 0, 1) := by decide +kernel
theorem dX5_record_71 : decode cX5_record 71 = .ok (.dup, 1) := by decide +kernel
theorem dX5_record_72 : decode cX5_record 72 = .ok (.getfield 36, 3) := by decide +kernel
theorem dX5_record_75 : decode cX5_record 75 = .ok (.iconst 1, 1) := by decide +kernel
theorem dX5_record_76 : decode cX5_record 76 = .ok (.iadd, 1) := by decide +kernel
theorem dX5_record_77 : decode cX5_record 77 = .ok (.putfield 36, 3) := by decide +kernel
theorem dX5_record_80 : decode cX5_record 80 = .ok (.return_, 1) := by decide +kernel
theorem dX5_undo_0 : decode cX5_undo 0 = .ok (.aload_n 0, 1) := by decide +kernel
theorem dX5_undo_1 : decode cX5_undo 1 = .ok (.getfield 36, 3) := by decide +kernel
theorem dX5_undo_4 : decode cX5_undo 4 = .ok (.ifCond .ne 6, 3) := by decide +kernel
theorem dX5_undo_7 : decode cX5_undo 7 = .ok (.bipush (-5), 2) := by decide +kernel
theorem dX5_undo_9 : decode cX5_undo 9 = .ok (.ireturn, 1) := by decide +kernel
theorem dX5_undo_10 : decode cX5_undo 10 = .ok (.aload_n 0, 1) := by decide +kernel
theorem dX5_undo_11 : decode cX5_undo 11 = .ok (.dup, 1) := by decide +kernel
theorem dX5_undo_12 : decode cX5_undo 12 = .ok (.getfield 36, 3) := by decide +kernel
theorem dX5_undo_15 : decode cX5_undo 15 = .ok (.iconst 1, 1) := by decide +kernel
theorem dX5_undo_16 : decode cX5_undo 16 = .ok (.isub, 1) := by decide +kernel
theorem dX5_undo_17 : decode cX5_undo 17 = .ok (.putfield 36, 3) := by decide +kernel
theorem dX5_undo_20 : decode cX5_undo 20 = .ok (.aload_n 0, 1) := by decide +kernel
theorem dX5_undo_21 : decode cX5_undo 21 = .ok (.getfield 16, 3) := by decide +kernel
theorem dX5_undo_24 : decode cX5_undo 24 = .ok (.sipush 300, 3) := by decide +kernel
theorem dX5_undo_27 : decode cX5_undo 27 = .ok (.aload_n 0, 1) := by decide +kernel
theorem dX5_undo_28 : decode cX5_undo 28 = .ok (.getfield 36, 3) := by decide +kernel
theorem dX5_undo_31 : decode cX5_undo 31 = .ok (.imul, 1) := by decide +kernel
theorem dX5_undo_32 : decode cX5_undo 32 = .ok (.aload_n 0, 1) := by decide +kernel
theorem dX5_undo_33 : decode cX5_undo 33 = .ok (.getfield 7, 3) := by decide +kernel
theorem dX5_undo_36 : decode cX5_undo 36 = .ok (.iconst 0, 1) := by decide +kernel
theorem dX5_undo_37 : decode cX5_undo 37 = .ok (.invokestatic 40, 3) := by decide +kernel
theorem dX5_undo_40 : decode cX5_undo 40 = .ok (.aload_n 0, 1) := by decide +kernel
theorem dX5_undo_41 : decode cX5_undo 41 = .ok (.getfield 36, 3) := by decide +kernel
theorem dX5_undo_44 : decode cX5_undo 44 = .ok (.ireturn, 1) := by decide +kernel
theorem dX5_save_0 : decode cX5_save 0 = .ok (.iload_n 1, 1) := by decide +kernel
theorem dX5_save_1 : decode cX5_save 1 = .ok (.iconst 0, 1) := by decide +kernel
theorem dX5_save_2 : decode cX5_save 2 = .ok (.iconst 1, 1) := by decide +kernel
theorem dX5_save_3 : decode cX5_save 3 = .ok (.invokestatic 32, 3) := by decide +kernel
theorem dX5_save_6 : decode cX5_save 6 = .ok (.ifCond .ne 6, 3) := by decide +kernel
theorem dX5_save_9 : decode cX5_save 9 = .ok (.bipush (-2), 2) := by decide +kernel
theorem dX5_save_11 : decode cX5_save 11 = .ok (.ireturn, 1) := by decide +kernel
theorem dX5_save_12 : decode cX5_save 12 = .ok (.aload_n 0, 1) := by decide +kernel
theorem dX5_save_13 : decode cX5_save 13 = .ok (.getfield 7, 3) := by decide +kernel
theorem dX5_save_16 : decode cX5_save 16 = .ok (.iconst 0, 1) := by decide +kernel
theorem dX5_save_17 : decode cX5_save 17 = .ok (.aload_n 0, 1) := by decide +kernel
theorem dX5_save_18 : decode cX5_save 18 = .ok (.getfield 19, 3) := by decide +kernel
theorem dX5_save_21 : decode cX5_save 21 = .ok (.sipush 300, 3) := by decide +kernel
theorem dX5_save_24 : decode cX5_save 24 = .ok (.iload_n 1, 1) := by decide +kernel
theorem dX5_save_25 : decode cX5_save 25 = .ok (.imul, 1) := by decide +kernel
theorem dX5_save_26 : decode cX5_save 26 = .ok (.invokestatic 40, 3) := by decide +kernel
theorem dX5_save_29 : decode cX5_save 29 = .ok (.aload_n 0, 1) := by decide +kernel
theorem dX5_save_30 : decode cX5_save 30 = .ok (.getfield 22, 3) := by decide +kernel
theorem dX5_save_33 : decode cX5_save 33 = .ok (.iload_n 1, 1) := by decide +kernel
theorem dX5_save_34 : decode cX5_save 34 = .ok (.iconst 1, 1) := by decide +kernel
theorem dX5_save_35 : decode cX5_save 35 = .ok (.bastore, 1) := by decide +kernel
theorem dX5_save_36 : decode cX5_save 36 = .ok (.aload_n 0, 1) := by decide +kernel
theorem dX5_save_37 : decode cX5_save 37 = .ok (.getfield 7, 3) := by decide +kernel
theorem dX5_save_40 : decode cX5_save 40 = .ok (.bipush 7, 2) := by decide +kernel
theorem dX5_save_42 : decode cX5_save 42 = .ok (.iaload, 1) := by decide +kernel
theorem dX5_save_43 : decode cX5_save 43 = .ok (.ireturn, 1) := by decide +kernel
theorem dX5_restore_0 : decode cX5_restore 0 = .ok (.iload_n 1, 1) := by decide +kernel
theorem dX5_restore_1 : decode cX5_restore 1 = .ok (.iconst 0, 1) := by decide +kernel
theorem dX5_restore_2 : decode cX5_restore 2 = .ok (.iconst 1, 1) := by decide +kernel
theorem dX5_restore_3 : decode cX5_restore 3 = .ok (.invokestatic 32, 3) := by decide +kernel
theorem dX5_restore_6 : decode cX5_restore 6 = .ok (.ifCond .ne 6, 3) := by decide +kernel
theorem dX5_restore_9 : decode cX5_restore 9 = .ok (.bipush (-2), 2) := by decide +kernel
theorem dX5_restore_11 : decode cX5_restore 11 = .ok (.ireturn, 1) := by decide +kernel
theorem dX5_restore_12 : decode cX5_restore 12 = .ok (.aload_n 0, 1) := by decide +kernel
theorem dX5_restore_13 : decode cX5_restore 13 = .ok (.getfield 22, 3) := by decide +kernel
theorem dX5_restore_16 : decode cX5_restore 16 = .ok (.iload_n 1, 1) := by decide +kernel
theorem dX5_restore_17 : decode cX5_restore 17 = .ok (.baload, 1) := by decide +kernel
theorem dX5_restore_18 : decode cX5_restore 18 = .ok (.ifCond .ne 6, 3) := by decide +kernel
theorem dX5_restore_21 : decode cX5_restore 21 = .ok (.bipush (-5), 2) := by decide +kernel
theorem dX5_restore_23 : decode cX5_restore 23 = .ok (.ireturn, 1) := by decide +kernel
theorem dX5_restore_24 : decode cX5_restore 24 = .ok (.aload_n 0, 1) := by decide +kernel
theorem dX5_restore_25 : decode cX5_restore 25 = .ok (.invokevirtual 44, 3) := by decide +kernel
theorem dX5_restore_28 : decode cX5_restore 28 = .ok (.aload_n 0, 1) := by decide +kernel
theorem dX5_restore_29 : decode cX5_restore 29 = .ok (.getfield 19, 3) := by decide +kernel
theorem dX5_restore_32 : decode cX5_restore 32 = .ok (.sipush 300, 3) := by decide +kernel
theorem dX5_restore_35 : decode cX5_restore 35 = .ok (.iload_n 1, 1) := by decide +kernel
theorem dX5_restore_36 : decode cX5_restore 36 = .ok (.imul, 1) := by decide +kernel
theorem dX5_restore_37 : decode cX5_restore 37 = .ok (.aload_n 0, 1) := by decide +kernel
theorem dX5_restore_38 : decode cX5_restore 38 = .ok (.getfield 7, 3) := by decide +kernel
theorem dX5_restore_41 : decode cX5_restore 41 = .ok (.iconst 0, 1) := by decide +kernel
theorem dX5_restore_42 : decode cX5_restore 42 = .ok (.invokestatic 40, 3) := by decide +kernel
theorem dX5_restore_45 : decode cX5_restore 45 = .ok (.aload_n 0, 1) := by decide +kernel
theorem dX5_restore_46 : decode cX5_restore 46 = .ok (.getfield 7, 3) := by decide +kernel
theorem dX5_restore_49 : decode cX5_restore 49 = .ok (.bipush 7, 2) := by decide +kernel
theorem dX5_restore_51 : decode cX5_restore 51 = .ok (.iaload, 1) := by decide +kernel
theorem dX5_restore_52 : decode cX5_restore 52 = .ok (.ireturn, 1) := by decide +kernel
theorem dX5_stands_0 : decode cX5_stands 0 = .ok (.aload_n 0, 1) := by decide +kernel
theorem dX5_stands_1 : decode cX5_stands 1 = .ok (.iload_n 1, 1) := by decide +kernel
theorem dX5_stands_2 : decode cX5_stands 2 = .ok (.iconst 4, 1) := by decide +kernel
theorem dX5_stands_3 : decode cX5_stands 3 = .ok (.invokevirtual 47, 3) := by decide +kernel
theorem dX5_stands_6 : decode cX5_stands 6 = .ok (.ifCond .eq 13, 3) := by decide +kernel
theorem dX5_stands_9 : decode cX5_stands 9 = .ok (.aload_n 0, 1) := by decide +kernel
theorem dX5_stands_10 : decode cX5_stands 10 = .ok (.iload_n 1, 1) := by decide +kernel
theorem dX5_stands_11 : decode cX5_stands 11 = .ok (.iconst 4, 1) := by decide +kernel
theorem dX5_stands_12 : decode cX5_stands 12 = .ok (.invokevirtual 47, 3) := by decide +kernel
theorem dX5_stands_15 : decode cX5_stands 15 = .ok (.iconst 1, 1) := by decide +kernel
theorem dX5_stands_16 : decode cX5_stands 16 = .ok (.if_icmp .ne 7, 3) := by decide +kernel
theorem dX5_stands_19 : decode cX5_stands 19 = .ok (.iconst 1, 1) := by decide +kernel
theorem dX5_stands_20 : decode cX5_stands 20 = .ok (.goto 4, 3) := by decide +kernel
theorem dX5_stands_23 : decode cX5_stands 23 = .ok (.iconst 0, 1) := by decide +kernel
theorem dX5_stands_24 : decode cX5_stands 24 = .ok (.ireturn, 1) := by decide +kernel
theorem dX5_claimsTo_0 : decode cX5_claimsTo 0 = .ok (.iconst 0, 1) := by decide +kernel
theorem dX5_claimsTo_1 : decode cX5_claimsTo 1 = .ok (.istore_n 3, 1) := by decide +kernel
theorem dX5_claimsTo_2 : decode cX5_claimsTo 2 = .ok (.iconst 0, 1) := by decide +kernel
theorem dX5_claimsTo_3 : decode cX5_claimsTo 3 = .ok (.istore 4, 2) := by decide +kernel
theorem dX5_claimsTo_5 : decode cX5_claimsTo 5 = .ok (.iload 4, 2) := by decide +kernel
theorem dX5_claimsTo_7 : decode cX5_claimsTo 7 = .ok (.aload_n 0, 1) := by decide +kernel
theorem dX5_claimsTo_8 : decode cX5_claimsTo 8 = .ok (.getfield 7, 3) := by decide +kernel
theorem dX5_claimsTo_11 : decode cX5_claimsTo 11 = .ok (.bipush 8, 2) := by decide +kernel
theorem dX5_claimsTo_13 : decode cX5_claimsTo 13 = .ok (.iaload, 1) := by decide +kernel
theorem dX5_claimsTo_14 : decode cX5_claimsTo 14 = .ok (.if_icmp .ge 42, 3) := by decide +kernel
theorem dX5_claimsTo_17 : decode cX5_claimsTo 17 = .ok (.iload_n 3, 1) := by decide +kernel
theorem dX5_claimsTo_18 : decode cX5_claimsTo 18 = .ok (.aload_n 0, 1) := by decide +kernel
theorem dX5_claimsTo_19 : decode cX5_claimsTo 19 = .ok (.iload 4, 2) := by decide +kernel
theorem dX5_claimsTo_21 : decode cX5_claimsTo 21 = .ok (.iconst 1, 1) := by decide +kernel
theorem dX5_claimsTo_22 : decode cX5_claimsTo 22 = .ok (.invokevirtual 47, 3) := by decide +kernel
theorem dX5_claimsTo_25 : decode cX5_claimsTo 25 = .ok (.iload_n 1, 1) := by decide +kernel
theorem dX5_claimsTo_26 : decode cX5_claimsTo 26 = .ok (.if_icmp .ne 21, 3) := by decide +kernel
theorem dX5_claimsTo_29 : decode cX5_claimsTo 29 = .ok (.aload_n 0, 1) := by decide +kernel
theorem dX5_claimsTo_30 : decode cX5_claimsTo 30 = .ok (.iload 4, 2) := by decide +kernel
theorem dX5_claimsTo_32 : decode cX5_claimsTo 32 = .ok (.iconst 4, 1) := by decide +kernel
theorem dX5_claimsTo_33 : decode cX5_claimsTo 33 = .ok (.invokevirtual 47, 3) := by decide +kernel
theorem dX5_claimsTo_36 : decode cX5_claimsTo 36 = .ok (.iload_n 2, 1) := by decide +kernel
theorem dX5_claimsTo_37 : decode cX5_claimsTo 37 = .ok (.if_icmp .ne 10, 3) := by decide +kernel
theorem dX5_claimsTo_40 : decode cX5_claimsTo 40 = .ok (.iconst 1, 1) := by decide +kernel
theorem dX5_claimsTo_41 : decode cX5_claimsTo 41 = .ok (.iload 4, 2) := by decide +kernel
theorem dX5_claimsTo_43 : decode cX5_claimsTo 43 = .ok (.ishl, 1) := by decide +kernel
theorem dX5_claimsTo_44 : decode cX5_claimsTo 44 = .ok (.goto 4, 3) := by decide +kernel
theorem dX5_claimsTo_47 : decode cX5_claimsTo 47 = .ok (.iconst 0, 1) := by decide +kernel
theorem dX5_claimsTo_48 : decode cX5_claimsTo 48 = .ok (.ior, 1) := by decide +kernel
theorem dX5_claimsTo_49 : decode cX5_claimsTo 49 = .ok (.istore_n 3, 1) := by decide +kernel
theorem dX5_claimsTo_50 : decode cX5_claimsTo 50 = .ok (.iinc 4 1, 3) := by decide +kernel
theorem dX5_claimsTo_53 : decode cX5_claimsTo 53 = .ok (.goto (-48), 3) := by decide +kernel
theorem dX5_claimsTo_56 : decode cX5_claimsTo 56 = .ok (.iload_n 3, 1) := by decide +kernel
theorem dX5_claimsTo_57 : decode cX5_claimsTo 57 = .ok (.ireturn, 1) := by decide +kernel
theorem dX5_standing_0 : decode cX5_standing 0 = .ok (.aload_n 0, 1) := by decide +kernel
theorem dX5_standing_1 : decode cX5_standing 1 = .ok (.iload_n 1, 1) := by decide +kernel
theorem dX5_standing_2 : decode cX5_standing 2 = .ok (.iconst 0, 1) := by decide +kernel
theorem dX5_standing_3 : decode cX5_standing 3 = .ok (.invokevirtual 51, 3) := by decide +kernel
theorem dX5_standing_6 : decode cX5_standing 6 = .ok (.aload_n 0, 1) := by decide +kernel
theorem dX5_standing_7 : decode cX5_standing 7 = .ok (.iload_n 1, 1) := by decide +kernel
theorem dX5_standing_8 : decode cX5_standing 8 = .ok (.iconst 1, 1) := by decide +kernel
theorem dX5_standing_9 : decode cX5_standing 9 = .ok (.invokevirtual 51, 3) := by decide +kernel
theorem dX5_standing_12 : decode cX5_standing 12 = .ok (.ior, 1) := by decide +kernel
theorem dX5_standing_13 : decode cX5_standing 13 = .ok (.ireturn, 1) := by decide +kernel
theorem dX5_size_0 : decode cX5_size 0 = .ok (.iconst 0, 1) := by decide +kernel
theorem dX5_size_1 : decode cX5_size 1 = .ok (.istore_n 1, 1) := by decide +kernel
theorem dX5_size_2 : decode cX5_size 2 = .ok (.iconst 0, 1) := by decide +kernel
theorem dX5_size_3 : decode cX5_size 3 = .ok (.istore_n 2, 1) := by decide +kernel
theorem dX5_size_4 : decode cX5_size 4 = .ok (.iload_n 2, 1) := by decide +kernel
theorem dX5_size_5 : decode cX5_size 5 = .ok (.bipush 30, 2) := by decide +kernel
theorem dX5_size_7 : decode cX5_size 7 = .ok (.if_icmp .ge 17, 3) := by decide +kernel
theorem dX5_size_10 : decode cX5_size 10 = .ok (.iload_n 1, 1) := by decide +kernel
theorem dX5_size_11 : decode cX5_size 11 = .ok (.iload_n 0, 1) := by decide +kernel
theorem dX5_size_12 : decode cX5_size 12 = .ok (.iload_n 2, 1) := by decide +kernel
theorem dX5_size_13 : decode cX5_size 13 = .ok (.ishr, 1) := by decide +kernel
theorem dX5_size_14 : decode cX5_size 14 = .ok (.iconst 1, 1) := by decide +kernel
theorem dX5_size_15 : decode cX5_size 15 = .ok (.iand, 1) := by decide +kernel
theorem dX5_size_16 : decode cX5_size 16 = .ok (.iadd, 1) := by decide +kernel
theorem dX5_size_17 : decode cX5_size 17 = .ok (.istore_n 1, 1) := by decide +kernel
theorem dX5_size_18 : decode cX5_size 18 = .ok (.iinc 2 1, 3) := by decide +kernel
theorem dX5_size_21 : decode cX5_size 21 = .ok (.goto (-17), 3) := by decide +kernel
theorem dX5_size_24 : decode cX5_size 24 = .ok (.iload_n 1, 1) := by decide +kernel
theorem dX5_size_25 : decode cX5_size 25 = .ok (.ireturn, 1) := by decide +kernel
theorem dX5_nearest_0 : decode cX5_nearest 0 = .ok (.bipush (-6), 2) := by decide +kernel
theorem dX5_nearest_2 : decode cX5_nearest 2 = .ok (.istore_n 2, 1) := by decide +kernel
theorem dX5_nearest_3 : decode cX5_nearest 3 = .ok (.iconst 0, 1) := by decide +kernel
theorem dX5_nearest_4 : decode cX5_nearest 4 = .ok (.istore_n 3, 1) := by decide +kernel
theorem dX5_nearest_5 : decode cX5_nearest 5 = .ok (.iload_n 3, 1) := by decide +kernel
theorem dX5_nearest_6 : decode cX5_nearest 6 = .ok (.aload_n 0, 1) := by decide +kernel
theorem dX5_nearest_7 : decode cX5_nearest 7 = .ok (.getfield 7, 3) := by decide +kernel
theorem dX5_nearest_10 : decode cX5_nearest 10 = .ok (.bipush 8, 2) := by decide +kernel
theorem dX5_nearest_12 : decode cX5_nearest 12 = .ok (.iaload, 1) := by decide +kernel
theorem dX5_nearest_13 : decode cX5_nearest 13 = .ok (.if_icmp .ge 57, 3) := by decide +kernel
theorem dX5_nearest_16 : decode cX5_nearest 16 = .ok (.iload_n 1, 1) := by decide +kernel
theorem dX5_nearest_17 : decode cX5_nearest 17 = .ok (.iload_n 3, 1) := by decide +kernel
theorem dX5_nearest_18 : decode cX5_nearest 18 = .ok (.ishr, 1) := by decide +kernel
theorem dX5_nearest_19 : decode cX5_nearest 19 = .ok (.iconst 1, 1) := by decide +kernel
theorem dX5_nearest_20 : decode cX5_nearest 20 = .ok (.iand, 1) := by decide +kernel
theorem dX5_nearest_21 : decode cX5_nearest 21 = .ok (.iconst 1, 1) := by decide +kernel
theorem dX5_nearest_22 : decode cX5_nearest 22 = .ok (.if_icmp .ne 23, 3) := by decide +kernel
theorem dX5_nearest_25 : decode cX5_nearest 25 = .ok (.iload_n 2, 1) := by decide +kernel
theorem dX5_nearest_26 : decode cX5_nearest 26 = .ok (.bipush (-6), 2) := by decide +kernel
theorem dX5_nearest_28 : decode cX5_nearest 28 = .ok (.if_icmp .eq 13, 3) := by decide +kernel
theorem dX5_nearest_31 : decode cX5_nearest 31 = .ok (.aload_n 0, 1) := by decide +kernel
theorem dX5_nearest_32 : decode cX5_nearest 32 = .ok (.iload_n 3, 1) := by decide +kernel
theorem dX5_nearest_33 : decode cX5_nearest 33 = .ok (.iconst 2, 1) := by decide +kernel
theorem dX5_nearest_34 : decode cX5_nearest 34 = .ok (.invokevirtual 47, 3) := by decide +kernel
theorem dX5_nearest_37 : decode cX5_nearest 37 = .ok (.iload_n 2, 1) := by decide +kernel
theorem dX5_nearest_38 : decode cX5_nearest 38 = .ok (.if_icmp .ge 7, 3) := by decide +kernel
theorem dX5_nearest_41 : decode cX5_nearest 41 = .ok (.iconst 1, 1) := by decide +kernel
theorem dX5_nearest_42 : decode cX5_nearest 42 = .ok (.goto 4, 3) := by decide +kernel
theorem dX5_nearest_45 : decode cX5_nearest 45 = .ok (.iconst 0, 1) := by decide +kernel
theorem dX5_nearest_46 : decode cX5_nearest 46 = .ok (.istore 4, 2) := by decide +kernel
theorem dX5_nearest_48 : decode cX5_nearest 48 = .ok (.iload 4, 2) := by decide +kernel
theorem dX5_nearest_50 : decode cX5_nearest 50 = .ok (.ifCond .eq 12, 3) := by decide +kernel
theorem dX5_nearest_53 : decode cX5_nearest 53 = .ok (.aload_n 0, 1) := by decide +kernel
theorem dX5_nearest_54 : decode cX5_nearest 54 = .ok (.iload_n 3, 1) := by decide +kernel
theorem dX5_nearest_55 : decode cX5_nearest 55 = .ok (.iconst 2, 1) := by decide +kernel
theorem dX5_nearest_56 : decode cX5_nearest 56 = .ok (.invokevirtual 47, 3) := by decide +kernel
theorem dX5_nearest_59 : decode cX5_nearest 59 = .ok (.goto 4, 3) := by decide +kernel
theorem dX5_nearest_62 : decode cX5_nearest 62 = .ok (.iload_n 2, 1) := by decide +kernel
theorem dX5_nearest_63 : decode cX5_nearest 63 = .ok (.istore_n 2, 1) := by decide +kernel
theorem dX5_nearest_64 : decode cX5_nearest 64 = .ok (.iinc 3 1, 3) := by decide +kernel
theorem dX5_nearest_67 : decode cX5_nearest 67 = .ok (.goto (-62), 3) := by decide +kernel
theorem dX5_nearest_70 : decode cX5_nearest 70 = .ok (.iload_n 2, 1) := by decide +kernel
theorem dX5_nearest_71 : decode cX5_nearest 71 = .ok (.ireturn, 1) := by decide +kernel
theorem dX5_nearestOnes_0 : decode cX5_nearestOnes 0 = .ok (.aload_n 0, 1) := by decide +kernel
theorem dX5_nearestOnes_1 : decode cX5_nearestOnes 1 = .ok (.iload_n 1, 1) := by decide +kernel
theorem dX5_nearestOnes_2 : decode cX5_nearestOnes 2 = .ok (.invokevirtual 54, 3) := by decide +kernel
theorem dX5_nearestOnes_5 : decode cX5_nearestOnes 5 = .ok (.istore_n 2, 1) := by decide +kernel
theorem dX5_nearestOnes_6 : decode cX5_nearestOnes 6 = .ok (.iconst 0, 1) := by decide +kernel
theorem dX5_nearestOnes_7 : decode cX5_nearestOnes 7 = .ok (.istore_n 3, 1) := by decide +kernel
theorem dX5_nearestOnes_8 : decode cX5_nearestOnes 8 = .ok (.iconst 0, 1) := by decide +kernel
theorem dX5_nearestOnes_9 : decode cX5_nearestOnes 9 = .ok (.istore 4, 2) := by decide +kernel
theorem dX5_nearestOnes_11 : decode cX5_nearestOnes 11 = .ok (.iload 4, 2) := by decide +kernel
theorem dX5_nearestOnes_13 : decode cX5_nearestOnes 13 = .ok (.aload_n 0, 1) := by decide +kernel
theorem dX5_nearestOnes_14 : decode cX5_nearestOnes 14 = .ok (.getfield 7, 3) := by decide +kernel
theorem dX5_nearestOnes_17 : decode cX5_nearestOnes 17 = .ok (.bipush 8, 2) := by decide +kernel
theorem dX5_nearestOnes_19 : decode cX5_nearestOnes 19 = .ok (.iaload, 1) := by decide +kernel
theorem dX5_nearestOnes_20 : decode cX5_nearestOnes 20 = .ok (.if_icmp .ge 41, 3) := by decide +kernel
theorem dX5_nearestOnes_23 : decode cX5_nearestOnes 23 = .ok (.iload_n 3, 1) := by decide +kernel
theorem dX5_nearestOnes_24 : decode cX5_nearestOnes 24 = .ok (.iload_n 1, 1) := by decide +kernel
theorem dX5_nearestOnes_25 : decode cX5_nearestOnes 25 = .ok (.iload 4, 2) := by decide +kernel
theorem dX5_nearestOnes_27 : decode cX5_nearestOnes 27 = .ok (.ishr, 1) := by decide +kernel
theorem dX5_nearestOnes_28 : decode cX5_nearestOnes 28 = .ok (.iconst 1, 1) := by decide +kernel
theorem dX5_nearestOnes_29 : decode cX5_nearestOnes 29 = .ok (.iand, 1) := by decide +kernel
theorem dX5_nearestOnes_30 : decode cX5_nearestOnes 30 = .ok (.iconst 1, 1) := by decide +kernel
theorem dX5_nearestOnes_31 : decode cX5_nearestOnes 31 = .ok (.if_icmp .ne 21, 3) := by decide +kernel
theorem dX5_nearestOnes_34 : decode cX5_nearestOnes 34 = .ok (.aload_n 0, 1) := by decide +kernel
theorem dX5_nearestOnes_35 : decode cX5_nearestOnes 35 = .ok (.iload 4, 2) := by decide +kernel
theorem dX5_nearestOnes_37 : decode cX5_nearestOnes 37 = .ok (.iconst 2, 1) := by decide +kernel
theorem dX5_nearestOnes_38 : decode cX5_nearestOnes 38 = .ok (.invokevirtual 47, 3) := by decide +kernel
theorem dX5_nearestOnes_41 : decode cX5_nearestOnes 41 = .ok (.iload_n 2, 1) := by decide +kernel
theorem dX5_nearestOnes_42 : decode cX5_nearestOnes 42 = .ok (.if_icmp .ne 10, 3) := by decide +kernel
theorem dX5_nearestOnes_45 : decode cX5_nearestOnes 45 = .ok (.iconst 1, 1) := by decide +kernel
theorem dX5_nearestOnes_46 : decode cX5_nearestOnes 46 = .ok (.iload 4, 2) := by decide +kernel
theorem dX5_nearestOnes_48 : decode cX5_nearestOnes 48 = .ok (.ishl, 1) := by decide +kernel
theorem dX5_nearestOnes_49 : decode cX5_nearestOnes 49 = .ok (.goto 4, 3) := by decide +kernel
theorem dX5_nearestOnes_52 : decode cX5_nearestOnes 52 = .ok (.iconst 0, 1) := by decide +kernel
theorem dX5_nearestOnes_53 : decode cX5_nearestOnes 53 = .ok (.ior, 1) := by decide +kernel
theorem dX5_nearestOnes_54 : decode cX5_nearestOnes 54 = .ok (.istore_n 3, 1) := by decide +kernel
theorem dX5_nearestOnes_55 : decode cX5_nearestOnes 55 = .ok (.iinc 4 1, 3) := by decide +kernel
theorem dX5_nearestOnes_58 : decode cX5_nearestOnes 58 = .ok (.goto (-47), 3) := by decide +kernel
theorem dX5_nearestOnes_61 : decode cX5_nearestOnes 61 = .ok (.iload_n 3, 1) := by decide +kernel
theorem dX5_nearestOnes_62 : decode cX5_nearestOnes 62 = .ok (.ireturn, 1) := by decide +kernel
theorem dX5_shared_0 : decode cX5_shared 0 = .ok (.aload_n 0, 1) := by decide +kernel
theorem dX5_shared_1 : decode cX5_shared 1 = .ok (.iload_n 1, 1) := by decide +kernel
theorem dX5_shared_2 : decode cX5_shared 2 = .ok (.iconst 0, 1) := by decide +kernel
theorem dX5_shared_3 : decode cX5_shared 3 = .ok (.invokevirtual 58, 3) := by decide +kernel
theorem dX5_shared_6 : decode cX5_shared 6 = .ok (.istore_n 2, 1) := by decide +kernel
theorem dX5_shared_7 : decode cX5_shared 7 = .ok (.aload_n 0, 1) := by decide +kernel
theorem dX5_shared_8 : decode cX5_shared 8 = .ok (.iload_n 1, 1) := by decide +kernel
theorem dX5_shared_9 : decode cX5_shared 9 = .ok (.iconst 1, 1) := by decide +kernel
theorem dX5_shared_10 : decode cX5_shared 10 = .ok (.invokevirtual 58, 3) := by decide +kernel
theorem dX5_shared_13 : decode cX5_shared 13 = .ok (.iconst 3, 1) := by decide +kernel
theorem dX5_shared_14 : decode cX5_shared 14 = .ok (.if_icmp .ne 19, 3) := by decide +kernel
theorem dX5_shared_17 : decode cX5_shared 17 = .ok (.iload_n 2, 1) := by decide +kernel
theorem dX5_shared_18 : decode cX5_shared 18 = .ok (.iload_n 2, 1) := by decide +kernel
theorem dX5_shared_19 : decode cX5_shared 19 = .ok (.aload_n 0, 1) := by decide +kernel
theorem dX5_shared_20 : decode cX5_shared 20 = .ok (.getfield 7, 3) := by decide +kernel
theorem dX5_shared_23 : decode cX5_shared 23 = .ok (.iconst 4, 1) := by decide +kernel
theorem dX5_shared_24 : decode cX5_shared 24 = .ok (.iaload, 1) := by decide +kernel
theorem dX5_shared_25 : decode cX5_shared 25 = .ok (.imul, 1) := by decide +kernel
theorem dX5_shared_26 : decode cX5_shared 26 = .ok (.bipush 100, 2) := by decide +kernel
theorem dX5_shared_28 : decode cX5_shared 28 = .ok (.idiv, 1) := by decide +kernel
theorem dX5_shared_29 : decode cX5_shared 29 = .ok (.isub, 1) := by decide +kernel
theorem dX5_shared_30 : decode cX5_shared 30 = .ok (.goto 4, 3) := by decide +kernel
theorem dX5_shared_33 : decode cX5_shared 33 = .ok (.iload_n 2, 1) := by decide +kernel
theorem dX5_shared_34 : decode cX5_shared 34 = .ok (.ireturn, 1) := by decide +kernel
theorem dX5_part_0 : decode cX5_part 0 = .ok (.iload_n 1, 1) := by decide +kernel
theorem dX5_part_1 : decode cX5_part 1 = .ok (.invokestatic 61, 3) := by decide +kernel
theorem dX5_part_4 : decode cX5_part 4 = .ok (.istore_n 3, 1) := by decide +kernel
theorem dX5_part_5 : decode cX5_part 5 = .ok (.iload_n 1, 1) := by decide +kernel
theorem dX5_part_6 : decode cX5_part 6 = .ok (.iconst 1, 1) := by decide +kernel
theorem dX5_part_7 : decode cX5_part 7 = .ok (.iload_n 0, 1) := by decide +kernel
theorem dX5_part_8 : decode cX5_part 8 = .ok (.ishl, 1) := by decide +kernel
theorem dX5_part_9 : decode cX5_part 9 = .ok (.iconst 1, 1) := by decide +kernel
theorem dX5_part_10 : decode cX5_part 10 = .ok (.isub, 1) := by decide +kernel
theorem dX5_part_11 : decode cX5_part 11 = .ok (.iand, 1) := by decide +kernel
theorem dX5_part_12 : decode cX5_part 12 = .ok (.invokestatic 61, 3) := by decide +kernel
theorem dX5_part_15 : decode cX5_part 15 = .ok (.istore 4, 2) := by decide +kernel
theorem dX5_part_17 : decode cX5_part 17 = .ok (.iload_n 2, 1) := by decide +kernel
theorem dX5_part_18 : decode cX5_part 18 = .ok (.iload_n 3, 1) := by decide +kernel
theorem dX5_part_19 : decode cX5_part 19 = .ok (.idiv, 1) := by decide +kernel
theorem dX5_part_20 : decode cX5_part 20 = .ok (.iload 4, 2) := by decide +kernel
theorem dX5_part_22 : decode cX5_part 22 = .ok (.iload_n 2, 1) := by decide +kernel
theorem dX5_part_23 : decode cX5_part 23 = .ok (.iload_n 3, 1) := by decide +kernel
theorem dX5_part_24 : decode cX5_part 24 = .ok (.irem, 1) := by decide +kernel
theorem dX5_part_25 : decode cX5_part 25 = .ok (.if_icmp .ge 7, 3) := by decide +kernel
theorem dX5_part_28 : decode cX5_part 28 = .ok (.iconst 1, 1) := by decide +kernel
theorem dX5_part_29 : decode cX5_part 29 = .ok (.goto 4, 3) := by decide +kernel
theorem dX5_part_32 : decode cX5_part 32 = .ok (.iconst 0, 1) := by decide +kernel
theorem dX5_part_33 : decode cX5_part 33 = .ok (.iadd, 1) := by decide +kernel
theorem dX5_part_34 : decode cX5_part 34 = .ok (.ireturn, 1) := by decide +kernel
theorem dX5_isValue_0 : decode cX5_isValue 0 = .ok (.iload_n 0, 1) := by decide +kernel
theorem dX5_isValue_1 : decode cX5_isValue 1 = .ok (.tableswitch 78 0 4 #[35, 44, 52, 61, 70], 35) := by decide +kernel
theorem dX5_isValue_36 : decode cX5_isValue 36 = .ok (.iload_n 1, 1) := by decide +kernel
theorem dX5_isValue_37 : decode cX5_isValue 37 = .ok (.iconst 1, 1) := by decide +kernel
theorem dX5_isValue_38 : decode cX5_isValue 38 = .ok (.sipush 400, 3) := by decide +kernel
theorem dX5_isValue_41 : decode cX5_isValue 41 = .ok (.invokestatic 32, 3) := by decide +kernel
theorem dX5_isValue_44 : decode cX5_isValue 44 = .ok (.ireturn, 1) := by decide +kernel
theorem dX5_isValue_45 : decode cX5_isValue 45 = .ok (.iload_n 1, 1) := by decide +kernel
theorem dX5_isValue_46 : decode cX5_isValue 46 = .ok (.iconst 1, 1) := by decide +kernel
theorem dX5_isValue_47 : decode cX5_isValue 47 = .ok (.bipush 100, 2) := by decide +kernel
theorem dX5_isValue_49 : decode cX5_isValue 49 = .ok (.invokestatic 32, 3) := by decide +kernel
theorem dX5_isValue_52 : decode cX5_isValue 52 = .ok (.ireturn, 1) := by decide +kernel
theorem dX5_isValue_53 : decode cX5_isValue 53 = .ok (.iload_n 1, 1) := by decide +kernel
theorem dX5_isValue_54 : decode cX5_isValue 54 = .ok (.iconst 1, 1) := by decide +kernel
theorem dX5_isValue_55 : decode cX5_isValue 55 = .ok (.sipush 200, 3) := by decide +kernel
theorem dX5_isValue_58 : decode cX5_isValue 58 = .ok (.invokestatic 32, 3) := by decide +kernel
theorem dX5_isValue_61 : decode cX5_isValue 61 = .ok (.ireturn, 1) := by decide +kernel
theorem dX5_isValue_62 : decode cX5_isValue 62 = .ok (.iload_n 1, 1) := by decide +kernel
theorem dX5_isValue_63 : decode cX5_isValue 63 = .ok (.iconst 0, 1) := by decide +kernel
theorem dX5_isValue_64 : decode cX5_isValue 64 = .ok (.sipush 400, 3) := by decide +kernel
theorem dX5_isValue_67 : decode cX5_isValue 67 = .ok (.invokestatic 32, 3) := by decide +kernel
theorem dX5_isValue_70 : decode cX5_isValue 70 = .ok (.ireturn, 1) := by decide +kernel
theorem dX5_isValue_71 : decode cX5_isValue 71 = .ok (.iload_n 1, 1) := by decide +kernel
theorem dX5_isValue_72 : decode cX5_isValue 72 = .ok (.iconst 0, 1) := by decide +kernel
theorem dX5_isValue_73 : decode cX5_isValue 73 = .ok (.bipush 50, 2) := by decide +kernel
theorem dX5_isValue_75 : decode cX5_isValue 75 = .ok (.invokestatic 32, 3) := by decide +kernel
theorem dX5_isValue_78 : decode cX5_isValue 78 = .ok (.ireturn, 1) := by decide +kernel
theorem dX5_isValue_79 : decode cX5_isValue 79 = .ok (.iconst 0, 1) := by decide +kernel
theorem dX5_isValue_80 : decode cX5_isValue 80 = .ok (.ireturn, 1) := by decide +kernel
theorem dX5_set_0 : decode cX5_set 0 = .ok (.iload_n 1, 1) := by decide +kernel
theorem dX5_set_1 : decode cX5_set 1 = .ok (.iload_n 2, 1) := by decide +kernel
theorem dX5_set_2 : decode cX5_set 2 = .ok (.invokestatic 64, 3) := by decide +kernel
theorem dX5_set_5 : decode cX5_set 5 = .ok (.ifCond .ne 6, 3) := by decide +kernel
theorem dX5_set_8 : decode cX5_set 8 = .ok (.bipush (-2), 2) := by decide +kernel
theorem dX5_set_10 : decode cX5_set 10 = .ok (.ireturn, 1) := by decide +kernel
theorem dX5_set_11 : decode cX5_set 11 = .ok (.aload_n 0, 1) := by decide +kernel
theorem dX5_set_12 : decode cX5_set 12 = .ok (.invokevirtual 44, 3) := by decide +kernel
theorem dX5_set_15 : decode cX5_set 15 = .ok (.aload_n 0, 1) := by decide +kernel
theorem dX5_set_16 : decode cX5_set 16 = .ok (.getfield 7, 3) := by decide +kernel
theorem dX5_set_19 : decode cX5_set 19 = .ok (.iload_n 1, 1) := by decide +kernel
theorem dX5_set_20 : decode cX5_set 20 = .ok (.iaload, 1) := by decide +kernel
theorem dX5_set_21 : decode cX5_set 21 = .ok (.istore_n 3, 1) := by decide +kernel
theorem dX5_set_22 : decode cX5_set 22 = .ok (.aload_n 0, 1) := by decide +kernel
theorem dX5_set_23 : decode cX5_set 23 = .ok (.getfield 7, 3) := by decide +kernel
theorem dX5_set_26 : decode cX5_set 26 = .ok (.iload_n 1, 1) := by decide +kernel
theorem dX5_set_27 : decode cX5_set 27 = .ok (.iload_n 2, 1) := by decide +kernel
theorem dX5_set_28 : decode cX5_set 28 = .ok (.iastore, 1) := by decide +kernel
theorem dX5_set_29 : decode cX5_set 29 = .ok (.iload_n 3, 1) := by decide +kernel
theorem dX5_set_30 : decode cX5_set 30 = .ok (.ireturn, 1) := by decide +kernel
theorem dX5_whyNotLot_0 : decode cX5_whyNotLot 0 = .ok (.iload_n 1, 1) := by decide +kernel
theorem dX5_whyNotLot_1 : decode cX5_whyNotLot 1 = .ok (.iconst 1, 1) := by decide +kernel
theorem dX5_whyNotLot_2 : decode cX5_whyNotLot 2 = .ok (.sipush 9999, 3) := by decide +kernel
theorem dX5_whyNotLot_5 : decode cX5_whyNotLot 5 = .ok (.invokestatic 32, 3) := by decide +kernel
theorem dX5_whyNotLot_8 : decode cX5_whyNotLot 8 = .ok (.ifCond .ne 8, 3) := by decide +kernel
theorem dX5_whyNotLot_11 : decode cX5_whyNotLot 11 = .ok (.bipush (-2), 2) := by decide +kernel
theorem dX5_whyNotLot_13 : decode cX5_whyNotLot 13 = .ok (.goto 21, 3) := by decide +kernel
theorem dX5_whyNotLot_16 : decode cX5_whyNotLot 16 = .ok (.aload_n 0, 1) := by decide +kernel
theorem dX5_whyNotLot_17 : decode cX5_whyNotLot 17 = .ok (.getfield 7, 3) := by decide +kernel
theorem dX5_whyNotLot_20 : decode cX5_whyNotLot 20 = .ok (.bipush 7, 2) := by decide +kernel
theorem dX5_whyNotLot_22 : decode cX5_whyNotLot 22 = .ok (.iaload, 1) := by decide +kernel
theorem dX5_whyNotLot_23 : decode cX5_whyNotLot 23 = .ok (.bipush 12, 2) := by decide +kernel
theorem dX5_whyNotLot_25 : decode cX5_whyNotLot 25 = .ok (.if_icmp .ne 8, 3) := by decide +kernel
theorem dX5_whyNotLot_28 : decode cX5_whyNotLot 28 = .ok (.bipush (-4), 2) := by decide +kernel
theorem dX5_whyNotLot_30 : decode cX5_whyNotLot 30 = .ok (.goto 4, 3) := by decide +kernel
theorem dX5_whyNotLot_33 : decode cX5_whyNotLot 33 = .ok (.iconst 0, 1) := by decide +kernel
theorem dX5_whyNotLot_34 : decode cX5_whyNotLot 34 = .ok (.ireturn, 1) := by decide +kernel
theorem dX5_lotNow_0 : decode cX5_lotNow 0 = .ok (.aload_n 0, 1) := by decide +kernel
theorem dX5_lotNow_1 : decode cX5_lotNow 1 = .ok (.getfield 7, 3) := by decide +kernel
theorem dX5_lotNow_4 : decode cX5_lotNow 4 = .ok (.bipush 7, 2) := by decide +kernel
theorem dX5_lotNow_6 : decode cX5_lotNow 6 = .ok (.iaload, 1) := by decide +kernel
theorem dX5_lotNow_7 : decode cX5_lotNow 7 = .ok (.istore_n 2, 1) := by decide +kernel
theorem dX5_lotNow_8 : decode cX5_lotNow 8 = .ok (.aload_n 0, 1) := by decide +kernel
theorem dX5_lotNow_9 : decode cX5_lotNow 9 = .ok (.iload_n 2, 1) := by decide +kernel
theorem dX5_lotNow_10 : decode cX5_lotNow 10 = .ok (.iconst 0, 1) := by decide +kernel
theorem dX5_lotNow_11 : decode cX5_lotNow 11 = .ok (.iload_n 1, 1) := by decide +kernel
theorem dX5_lotNow_12 : decode cX5_lotNow 12 = .ok (.invokevirtual 68, 3) := by decide +kernel
theorem dX5_lotNow_15 : decode cX5_lotNow 15 = .ok (.aload_n 0, 1) := by decide +kernel
theorem dX5_lotNow_16 : decode cX5_lotNow 16 = .ok (.iload_n 2, 1) := by decide +kernel
theorem dX5_lotNow_17 : decode cX5_lotNow 17 = .ok (.iconst 1, 1) := by decide +kernel
theorem dX5_lotNow_18 : decode cX5_lotNow 18 = .ok (.iconst 0, 1) := by decide +kernel
theorem dX5_lotNow_19 : decode cX5_lotNow 19 = .ok (.invokevirtual 68, 3) := by decide +kernel
theorem dX5_lotNow_22 : decode cX5_lotNow 22 = .ok (.aload_n 0, 1) := by decide +kernel
theorem dX5_lotNow_23 : decode cX5_lotNow 23 = .ok (.iload_n 2, 1) := by decide +kernel
theorem dX5_lotNow_24 : decode cX5_lotNow 24 = .ok (.iconst 2, 1) := by decide +kernel
theorem dX5_lotNow_25 : decode cX5_lotNow 25 = .ok (.iconst 0, 1) := by decide +kernel
theorem dX5_lotNow_26 : decode cX5_lotNow 26 = .ok (.invokevirtual 68, 3) := by decide +kernel
theorem dX5_lotNow_29 : decode cX5_lotNow 29 = .ok (.aload_n 0, 1) := by decide +kernel
theorem dX5_lotNow_30 : decode cX5_lotNow 30 = .ok (.iload_n 2, 1) := by decide +kernel
theorem dX5_lotNow_31 : decode cX5_lotNow 31 = .ok (.iconst 3, 1) := by decide +kernel
theorem dX5_lotNow_32 : decode cX5_lotNow 32 = .ok (.iconst 0, 1) := by decide +kernel
theorem dX5_lotNow_33 : decode cX5_lotNow 33 = .ok (.invokevirtual 68, 3) := by decide +kernel
theorem dX5_lotNow_36 : decode cX5_lotNow 36 = .ok (.aload_n 0, 1) := by decide +kernel
theorem dX5_lotNow_37 : decode cX5_lotNow 37 = .ok (.getfield 7, 3) := by decide +kernel
theorem dX5_lotNow_40 : decode cX5_lotNow 40 = .ok (.bipush 7, 2) := by decide +kernel
theorem dX5_lotNow_42 : decode cX5_lotNow 42 = .ok (.dup2, 1) := by decide +kernel
theorem dX5_lotNow_43 : decode cX5_lotNow 43 = .ok (.iaload, 1) := by decide +kernel
theorem dX5_lotNow_44 : decode cX5_lotNow 44 = .ok (.iconst 1, 1) := by decide +kernel
theorem dX5_lotNow_45 : decode cX5_lotNow 45 = .ok (.iadd, 1) := by decide +kernel
theorem dX5_lotNow_46 : decode cX5_lotNow 46 = .ok (.iastore, 1) := by decide +kernel
theorem dX5_lotNow_47 : decode cX5_lotNow 47 = .ok (.iload_n 2, 1) := by decide +kernel
theorem dX5_lotNow_48 : decode cX5_lotNow 48 = .ok (.ireturn, 1) := by decide +kernel
theorem dX5_lot_0 : decode cX5_lot 0 = .ok (.aload_n 0, 1) := by decide +kernel
theorem dX5_lot_1 : decode cX5_lot 1 = .ok (.iload_n 1, 1) := by decide +kernel
theorem dX5_lot_2 : decode cX5_lot 2 = .ok (.invokevirtual 72, 3) := by decide +kernel
theorem dX5_lot_5 : decode cX5_lot 5 = .ok (.istore_n 2, 1) := by decide +kernel
theorem dX5_lot_6 : decode cX5_lot 6 = .ok (.iload_n 2, 1) := by decide +kernel
theorem dX5_lot_7 : decode cX5_lot 7 = .ok (.ifCond .ge 5, 3) := by decide +kernel
theorem dX5_lot_10 : decode cX5_lot 10 = .ok (.iload_n 2, 1) := by decide +kernel
theorem dX5_lot_11 : decode cX5_lot 11 = .ok (.ireturn, 1) := by decide +kernel
theorem dX5_lot_12 : decode cX5_lot 12 = .ok (.aload_n 0, 1) := by decide +kernel
theorem dX5_lot_13 : decode cX5_lot 13 = .ok (.invokevirtual 44, 3) := by decide +kernel
theorem dX5_lot_16 : decode cX5_lot 16 = .ok (.aload_n 0, 1) := by decide +kernel
theorem dX5_lot_17 : decode cX5_lot 17 = .ok (.iload_n 1, 1) := by decide +kernel
theorem dX5_lot_18 : decode cX5_lot 18 = .ok (.invokevirtual 75, 3) := by decide +kernel
theorem dX5_lot_21 : decode cX5_lot 21 = .ok (.ireturn, 1) := by decide +kernel
theorem dX5_lotsThatAre_0 : decode cX5_lotsThatAre 0 = .ok (.iconst 0, 1) := by decide +kernel
theorem dX5_lotsThatAre_1 : decode cX5_lotsThatAre 1 = .ok (.istore_n 2, 1) := by decide +kernel
theorem dX5_lotsThatAre_2 : decode cX5_lotsThatAre 2 = .ok (.iconst 0, 1) := by decide +kernel
theorem dX5_lotsThatAre_3 : decode cX5_lotsThatAre 3 = .ok (.istore_n 3, 1) := by decide +kernel
theorem dX5_lotsThatAre_4 : decode cX5_lotsThatAre 4 = .ok (.iload_n 3, 1) := by decide +kernel
theorem dX5_lotsThatAre_5 : decode cX5_lotsThatAre 5 = .ok (.aload_n 0, 1) := by decide +kernel
theorem dX5_lotsThatAre_6 : decode cX5_lotsThatAre 6 = .ok (.getfield 7, 3) := by decide +kernel
theorem dX5_lotsThatAre_9 : decode cX5_lotsThatAre 9 = .ok (.bipush 7, 2) := by decide +kernel
theorem dX5_lotsThatAre_11 : decode cX5_lotsThatAre 11 = .ok (.iaload, 1) := by decide +kernel
theorem dX5_lotsThatAre_12 : decode cX5_lotsThatAre 12 = .ok (.if_icmp .ge 29, 3) := by decide +kernel
theorem dX5_lotsThatAre_15 : decode cX5_lotsThatAre 15 = .ok (.iload_n 2, 1) := by decide +kernel
theorem dX5_lotsThatAre_16 : decode cX5_lotsThatAre 16 = .ok (.aload_n 0, 1) := by decide +kernel
theorem dX5_lotsThatAre_17 : decode cX5_lotsThatAre 17 = .ok (.iload_n 3, 1) := by decide +kernel
theorem dX5_lotsThatAre_18 : decode cX5_lotsThatAre 18 = .ok (.iconst 1, 1) := by decide +kernel
theorem dX5_lotsThatAre_19 : decode cX5_lotsThatAre 19 = .ok (.invokevirtual 58, 3) := by decide +kernel
theorem dX5_lotsThatAre_22 : decode cX5_lotsThatAre 22 = .ok (.iload_n 1, 1) := by decide +kernel
theorem dX5_lotsThatAre_23 : decode cX5_lotsThatAre 23 = .ok (.if_icmp .ne 9, 3) := by decide +kernel
theorem dX5_lotsThatAre_26 : decode cX5_lotsThatAre 26 = .ok (.iconst 1, 1) := by decide +kernel
theorem dX5_lotsThatAre_27 : decode cX5_lotsThatAre 27 = .ok (.iload_n 3, 1) := by decide +kernel
theorem dX5_lotsThatAre_28 : decode cX5_lotsThatAre 28 = .ok (.ishl, 1) := by decide +kernel
theorem dX5_lotsThatAre_29 : decode cX5_lotsThatAre 29 = .ok (.goto 4, 3) := by decide +kernel
theorem dX5_lotsThatAre_32 : decode cX5_lotsThatAre 32 = .ok (.iconst 0, 1) := by decide +kernel
theorem dX5_lotsThatAre_33 : decode cX5_lotsThatAre 33 = .ok (.ior, 1) := by decide +kernel
theorem dX5_lotsThatAre_34 : decode cX5_lotsThatAre 34 = .ok (.istore_n 2, 1) := by decide +kernel
theorem dX5_lotsThatAre_35 : decode cX5_lotsThatAre 35 = .ok (.iinc 3 1, 3) := by decide +kernel
theorem dX5_lotsThatAre_38 : decode cX5_lotsThatAre 38 = .ok (.goto (-34), 3) := by decide +kernel
theorem dX5_lotsThatAre_41 : decode cX5_lotsThatAre 41 = .ok (.iload_n 2, 1) := by decide +kernel
theorem dX5_lotsThatAre_42 : decode cX5_lotsThatAre 42 = .ok (.ireturn, 1) := by decide +kernel
theorem dX5_whyNotNotice_0 : decode cX5_whyNotNotice 0 = .ok (.aload_n 0, 1) := by decide +kernel
theorem dX5_whyNotNotice_1 : decode cX5_whyNotNotice 1 = .ok (.iload_n 1, 1) := by decide +kernel
theorem dX5_whyNotNotice_2 : decode cX5_whyNotNotice 2 = .ok (.invokevirtual 78, 3) := by decide +kernel
theorem dX5_whyNotNotice_5 : decode cX5_whyNotNotice 5 = .ok (.ifCond .ne 7, 3) := by decide +kernel
theorem dX5_whyNotNotice_8 : decode cX5_whyNotNotice 8 = .ok (.iconst (-1), 1) := by decide +kernel
theorem dX5_whyNotNotice_9 : decode cX5_whyNotNotice 9 = .ok (.goto 18, 3) := by decide +kernel
theorem dX5_whyNotNotice_12 : decode cX5_whyNotNotice 12 = .ok (.aload_n 0, 1) := by decide +kernel
theorem dX5_whyNotNotice_13 : decode cX5_whyNotNotice 13 = .ok (.iload_n 1, 1) := by decide +kernel
theorem dX5_whyNotNotice_14 : decode cX5_whyNotNotice 14 = .ok (.iconst 1, 1) := by decide +kernel
theorem dX5_whyNotNotice_15 : decode cX5_whyNotNotice 15 = .ok (.invokevirtual 58, 3) := by decide +kernel
theorem dX5_whyNotNotice_18 : decode cX5_whyNotNotice 18 = .ok (.ifCond .ne 7, 3) := by decide +kernel
theorem dX5_whyNotNotice_21 : decode cX5_whyNotNotice 21 = .ok (.iconst 0, 1) := by decide +kernel
theorem dX5_whyNotNotice_22 : decode cX5_whyNotNotice 22 = .ok (.goto 5, 3) := by decide +kernel
theorem dX5_whyNotNotice_25 : decode cX5_whyNotNotice 25 = .ok (.bipush (-5), 2) := by decide +kernel
theorem dX5_whyNotNotice_27 : decode cX5_whyNotNotice 27 = .ok (.ireturn, 1) := by decide +kernel
theorem dX5_noticeNow_0 : decode cX5_noticeNow 0 = .ok (.aload_n 0, 1) := by decide +kernel
theorem dX5_noticeNow_1 : decode cX5_noticeNow 1 = .ok (.iload_n 1, 1) := by decide +kernel
theorem dX5_noticeNow_2 : decode cX5_noticeNow 2 = .ok (.iconst 1, 1) := by decide +kernel
theorem dX5_noticeNow_3 : decode cX5_noticeNow 3 = .ok (.iconst 1, 1) := by decide +kernel
theorem dX5_noticeNow_4 : decode cX5_noticeNow 4 = .ok (.invokevirtual 68, 3) := by decide +kernel
theorem dX5_noticeNow_7 : decode cX5_noticeNow 7 = .ok (.aload_n 0, 1) := by decide +kernel
theorem dX5_noticeNow_8 : decode cX5_noticeNow 8 = .ok (.iconst 1, 1) := by decide +kernel
theorem dX5_noticeNow_9 : decode cX5_noticeNow 9 = .ok (.invokevirtual 82, 3) := by decide +kernel
theorem dX5_noticeNow_12 : decode cX5_noticeNow 12 = .ok (.invokestatic 61, 3) := by decide +kernel
theorem dX5_noticeNow_15 : decode cX5_noticeNow 15 = .ok (.ireturn, 1) := by decide +kernel
theorem dX5_notice_0 : decode cX5_notice 0 = .ok (.aload_n 0, 1) := by decide +kernel
theorem dX5_notice_1 : decode cX5_notice 1 = .ok (.iload_n 1, 1) := by decide +kernel
theorem dX5_notice_2 : decode cX5_notice 2 = .ok (.invokevirtual 85, 3) := by decide +kernel
theorem dX5_notice_5 : decode cX5_notice 5 = .ok (.istore_n 2, 1) := by decide +kernel
theorem dX5_notice_6 : decode cX5_notice 6 = .ok (.iload_n 2, 1) := by decide +kernel
theorem dX5_notice_7 : decode cX5_notice 7 = .ok (.ifCond .ge 5, 3) := by decide +kernel
theorem dX5_notice_10 : decode cX5_notice 10 = .ok (.iload_n 2, 1) := by decide +kernel
theorem dX5_notice_11 : decode cX5_notice 11 = .ok (.ireturn, 1) := by decide +kernel
theorem dX5_notice_12 : decode cX5_notice 12 = .ok (.aload_n 0, 1) := by decide +kernel
theorem dX5_notice_13 : decode cX5_notice 13 = .ok (.invokevirtual 44, 3) := by decide +kernel
theorem dX5_notice_16 : decode cX5_notice 16 = .ok (.aload_n 0, 1) := by decide +kernel
theorem dX5_notice_17 : decode cX5_notice 17 = .ok (.iload_n 1, 1) := by decide +kernel
theorem dX5_notice_18 : decode cX5_notice 18 = .ok (.invokevirtual 88, 3) := by decide +kernel
theorem dX5_notice_21 : decode cX5_notice 21 = .ok (.ireturn, 1) := by decide +kernel
theorem dX5_isEnded_0 : decode cX5_isEnded 0 = .ok (.aload_n 0, 1) := by decide +kernel
theorem dX5_isEnded_1 : decode cX5_isEnded 1 = .ok (.iload_n 1, 1) := by decide +kernel
theorem dX5_isEnded_2 : decode cX5_isEnded 2 = .ok (.iconst 1, 1) := by decide +kernel
theorem dX5_isEnded_3 : decode cX5_isEnded 3 = .ok (.invokevirtual 58, 3) := by decide +kernel
theorem dX5_isEnded_6 : decode cX5_isEnded 6 = .ok (.iconst 2, 1) := by decide +kernel
theorem dX5_isEnded_7 : decode cX5_isEnded 7 = .ok (.if_icmp .eq 13, 3) := by decide +kernel
theorem dX5_isEnded_10 : decode cX5_isEnded 10 = .ok (.aload_n 0, 1) := by decide +kernel
theorem dX5_isEnded_11 : decode cX5_isEnded 11 = .ok (.iload_n 1, 1) := by decide +kernel
theorem dX5_isEnded_12 : decode cX5_isEnded 12 = .ok (.iconst 1, 1) := by decide +kernel
theorem dX5_isEnded_13 : decode cX5_isEnded 13 = .ok (.invokevirtual 58, 3) := by decide +kernel
theorem dX5_isEnded_16 : decode cX5_isEnded 16 = .ok (.iconst 4, 1) := by decide +kernel
theorem dX5_isEnded_17 : decode cX5_isEnded 17 = .ok (.if_icmp .ne 7, 3) := by decide +kernel
theorem dX5_isEnded_20 : decode cX5_isEnded 20 = .ok (.iconst 1, 1) := by decide +kernel
theorem dX5_isEnded_21 : decode cX5_isEnded 21 = .ok (.goto 4, 3) := by decide +kernel
theorem dX5_isEnded_24 : decode cX5_isEnded 24 = .ok (.iconst 0, 1) := by decide +kernel
theorem dX5_isEnded_25 : decode cX5_isEnded 25 = .ok (.ireturn, 1) := by decide +kernel
theorem dX5_claims_0 : decode cX5_claims 0 = .ok (.iconst 0, 1) := by decide +kernel
theorem dX5_claims_1 : decode cX5_claims 1 = .ok (.istore_n 3, 1) := by decide +kernel
theorem dX5_claims_2 : decode cX5_claims 2 = .ok (.iconst 0, 1) := by decide +kernel
theorem dX5_claims_3 : decode cX5_claims 3 = .ok (.istore 4, 2) := by decide +kernel
theorem dX5_claims_5 : decode cX5_claims 5 = .ok (.iload 4, 2) := by decide +kernel
theorem dX5_claims_7 : decode cX5_claims 7 = .ok (.aload_n 0, 1) := by decide +kernel
theorem dX5_claims_8 : decode cX5_claims 8 = .ok (.getfield 7, 3) := by decide +kernel
theorem dX5_claims_11 : decode cX5_claims 11 = .ok (.bipush 8, 2) := by decide +kernel
theorem dX5_claims_13 : decode cX5_claims 13 = .ok (.iaload, 1) := by decide +kernel
theorem dX5_claims_14 : decode cX5_claims 14 = .ok (.if_icmp .ge 50, 3) := by decide +kernel
theorem dX5_claims_17 : decode cX5_claims 17 = .ok (.iload_n 3, 1) := by decide +kernel
theorem dX5_claims_18 : decode cX5_claims 18 = .ok (.ifCond .ne 34, 3) := by decide +kernel
theorem dX5_claims_21 : decode cX5_claims 21 = .ok (.aload_n 0, 1) := by decide +kernel
theorem dX5_claims_22 : decode cX5_claims 22 = .ok (.iload 4, 2) := by decide +kernel
theorem dX5_claims_24 : decode cX5_claims 24 = .ok (.iconst 0, 1) := by decide +kernel
theorem dX5_claims_25 : decode cX5_claims 25 = .ok (.invokevirtual 47, 3) := by decide +kernel
theorem dX5_claims_28 : decode cX5_claims 28 = .ok (.iload_n 1, 1) := by decide +kernel
theorem dX5_claims_29 : decode cX5_claims 29 = .ok (.if_icmp .ne 27, 3) := by decide +kernel
theorem dX5_claims_32 : decode cX5_claims 32 = .ok (.aload_n 0, 1) := by decide +kernel
theorem dX5_claims_33 : decode cX5_claims 33 = .ok (.iload 4, 2) := by decide +kernel
theorem dX5_claims_35 : decode cX5_claims 35 = .ok (.iconst 1, 1) := by decide +kernel
theorem dX5_claims_36 : decode cX5_claims 36 = .ok (.invokevirtual 47, 3) := by decide +kernel
theorem dX5_claims_39 : decode cX5_claims 39 = .ok (.iload_n 2, 1) := by decide +kernel
theorem dX5_claims_40 : decode cX5_claims 40 = .ok (.if_icmp .ne 16, 3) := by decide +kernel
theorem dX5_claims_43 : decode cX5_claims 43 = .ok (.aload_n 0, 1) := by decide +kernel
theorem dX5_claims_44 : decode cX5_claims 44 = .ok (.iload 4, 2) := by decide +kernel
theorem dX5_claims_46 : decode cX5_claims 46 = .ok (.invokevirtual 91, 3) := by decide +kernel
theorem dX5_claims_49 : decode cX5_claims 49 = .ok (.ifCond .eq 7, 3) := by decide +kernel
theorem dX5_claims_52 : decode cX5_claims 52 = .ok (.iconst 1, 1) := by decide +kernel
theorem dX5_claims_53 : decode cX5_claims 53 = .ok (.goto 4, 3) := by decide +kernel
theorem dX5_claims_56 : decode cX5_claims 56 = .ok (.iconst 0, 1) := by decide +kernel
theorem dX5_claims_57 : decode cX5_claims 57 = .ok (.istore_n 3, 1) := by decide +kernel
theorem dX5_claims_58 : decode cX5_claims 58 = .ok (.iinc 4 1, 3) := by decide +kernel
theorem dX5_claims_61 : decode cX5_claims 61 = .ok (.goto (-56), 3) := by decide +kernel
theorem dX5_claims_64 : decode cX5_claims 64 = .ok (.iload_n 3, 1) := by decide +kernel
theorem dX5_claims_65 : decode cX5_claims 65 = .ok (.ireturn, 1) := by decide +kernel
theorem dX5_whyNotClaim_0 : decode cX5_whyNotClaim 0 = .ok (.iload_n 1, 1) := by decide +kernel
theorem dX5_whyNotClaim_1 : decode cX5_whyNotClaim 1 = .ok (.invokestatic 94, 3) := by decide +kernel
theorem dX5_whyNotClaim_4 : decode cX5_whyNotClaim 4 = .ok (.ifCond .eq 11, 3) := by decide +kernel
theorem dX5_whyNotClaim_7 : decode cX5_whyNotClaim 7 = .ok (.aload_n 0, 1) := by decide +kernel
theorem dX5_whyNotClaim_8 : decode cX5_whyNotClaim 8 = .ok (.iload_n 2, 1) := by decide +kernel
theorem dX5_whyNotClaim_9 : decode cX5_whyNotClaim 9 = .ok (.invokevirtual 78, 3) := by decide +kernel
theorem dX5_whyNotClaim_12 : decode cX5_whyNotClaim 12 = .ok (.ifCond .ne 5, 3) := by decide +kernel
theorem dX5_whyNotClaim_15 : decode cX5_whyNotClaim 15 = .ok (.iconst (-1), 1) := by decide +kernel
theorem dX5_whyNotClaim_16 : decode cX5_whyNotClaim 16 = .ok (.ireturn, 1) := by decide +kernel
theorem dX5_whyNotClaim_17 : decode cX5_whyNotClaim 17 = .ok (.iload_n 3, 1) := by decide +kernel
theorem dX5_whyNotClaim_18 : decode cX5_whyNotClaim 18 = .ok (.iconst 1, 1) := by decide +kernel
theorem dX5_whyNotClaim_19 : decode cX5_whyNotClaim 19 = .ok (.iconst 5, 1) := by decide +kernel
theorem dX5_whyNotClaim_20 : decode cX5_whyNotClaim 20 = .ok (.invokestatic 32, 3) := by decide +kernel
theorem dX5_whyNotClaim_23 : decode cX5_whyNotClaim 23 = .ok (.ifCond .ne 6, 3) := by decide +kernel
theorem dX5_whyNotClaim_26 : decode cX5_whyNotClaim 26 = .ok (.bipush (-2), 2) := by decide +kernel
theorem dX5_whyNotClaim_28 : decode cX5_whyNotClaim 28 = .ok (.ireturn, 1) := by decide +kernel
theorem dX5_whyNotClaim_29 : decode cX5_whyNotClaim 29 = .ok (.aload_n 0, 1) := by decide +kernel
theorem dX5_whyNotClaim_30 : decode cX5_whyNotClaim 30 = .ok (.iload_n 2, 1) := by decide +kernel
theorem dX5_whyNotClaim_31 : decode cX5_whyNotClaim 31 = .ok (.iconst 1, 1) := by decide +kernel
theorem dX5_whyNotClaim_32 : decode cX5_whyNotClaim 32 = .ok (.invokevirtual 58, 3) := by decide +kernel
theorem dX5_whyNotClaim_35 : decode cX5_whyNotClaim 35 = .ok (.iconst 3, 1) := by decide +kernel
theorem dX5_whyNotClaim_36 : decode cX5_whyNotClaim 36 = .ok (.if_icmp .ne 22, 3) := by decide +kernel
theorem dX5_whyNotClaim_39 : decode cX5_whyNotClaim 39 = .ok (.aload_n 0, 1) := by decide +kernel
theorem dX5_whyNotClaim_40 : decode cX5_whyNotClaim 40 = .ok (.iload_n 2, 1) := by decide +kernel
theorem dX5_whyNotClaim_41 : decode cX5_whyNotClaim 41 = .ok (.iconst 3, 1) := by decide +kernel
theorem dX5_whyNotClaim_42 : decode cX5_whyNotClaim 42 = .ok (.invokevirtual 58, 3) := by decide +kernel
theorem dX5_whyNotClaim_45 : decode cX5_whyNotClaim 45 = .ok (.aload_n 0, 1) := by decide +kernel
theorem dX5_whyNotClaim_46 : decode cX5_whyNotClaim 46 = .ok (.getfield 7, 3) := by decide +kernel
theorem dX5_whyNotClaim_49 : decode cX5_whyNotClaim 49 = .ok (.iconst 3, 1) := by decide +kernel
theorem dX5_whyNotClaim_50 : decode cX5_whyNotClaim 50 = .ok (.iaload, 1) := by decide +kernel
theorem dX5_whyNotClaim_51 : decode cX5_whyNotClaim 51 = .ok (.if_icmp .le 7, 3) := by decide +kernel
theorem dX5_whyNotClaim_54 : decode cX5_whyNotClaim 54 = .ok (.iconst 1, 1) := by decide +kernel
theorem dX5_whyNotClaim_55 : decode cX5_whyNotClaim 55 = .ok (.goto 4, 3) := by decide +kernel
theorem dX5_whyNotClaim_58 : decode cX5_whyNotClaim 58 = .ok (.iconst 0, 1) := by decide +kernel
theorem dX5_whyNotClaim_59 : decode cX5_whyNotClaim 59 = .ok (.istore 4, 2) := by decide +kernel
theorem dX5_whyNotClaim_61 : decode cX5_whyNotClaim 61 = .ok (.aload_n 0, 1) := by decide +kernel
theorem dX5_whyNotClaim_62 : decode cX5_whyNotClaim 62 = .ok (.iload_n 2, 1) := by decide +kernel
theorem dX5_whyNotClaim_63 : decode cX5_whyNotClaim 63 = .ok (.invokevirtual 97, 3) := by decide +kernel
theorem dX5_whyNotClaim_66 : decode cX5_whyNotClaim 66 = .ok (.ifCond .ne 17, 3) := by decide +kernel
theorem dX5_whyNotClaim_69 : decode cX5_whyNotClaim 69 = .ok (.iload 4, 2) := by decide +kernel
theorem dX5_whyNotClaim_71 : decode cX5_whyNotClaim 71 = .ok (.ifCond .ne 12, 3) := by decide +kernel
theorem dX5_whyNotClaim_74 : decode cX5_whyNotClaim 74 = .ok (.aload_n 0, 1) := by decide +kernel
theorem dX5_whyNotClaim_75 : decode cX5_whyNotClaim 75 = .ok (.iload_n 1, 1) := by decide +kernel
theorem dX5_whyNotClaim_76 : decode cX5_whyNotClaim 76 = .ok (.iload_n 2, 1) := by decide +kernel
theorem dX5_whyNotClaim_77 : decode cX5_whyNotClaim 77 = .ok (.invokevirtual 100, 3) := by decide +kernel
theorem dX5_whyNotClaim_80 : decode cX5_whyNotClaim 80 = .ok (.ifCond .eq 8, 3) := by decide +kernel
theorem dX5_whyNotClaim_83 : decode cX5_whyNotClaim 83 = .ok (.bipush (-5), 2) := by decide +kernel
theorem dX5_whyNotClaim_85 : decode cX5_whyNotClaim 85 = .ok (.goto 21, 3) := by decide +kernel
theorem dX5_whyNotClaim_88 : decode cX5_whyNotClaim 88 = .ok (.aload_n 0, 1) := by decide +kernel
theorem dX5_whyNotClaim_89 : decode cX5_whyNotClaim 89 = .ok (.getfield 7, 3) := by decide +kernel
theorem dX5_whyNotClaim_92 : decode cX5_whyNotClaim 92 = .ok (.bipush 8, 2) := by decide +kernel
theorem dX5_whyNotClaim_94 : decode cX5_whyNotClaim 94 = .ok (.iaload, 1) := by decide +kernel
theorem dX5_whyNotClaim_95 : decode cX5_whyNotClaim 95 = .ok (.bipush 30, 2) := by decide +kernel
theorem dX5_whyNotClaim_97 : decode cX5_whyNotClaim 97 = .ok (.if_icmp .ne 8, 3) := by decide +kernel
theorem dX5_whyNotClaim_100 : decode cX5_whyNotClaim 100 = .ok (.bipush (-4), 2) := by decide +kernel
theorem dX5_whyNotClaim_102 : decode cX5_whyNotClaim 102 = .ok (.goto 4, 3) := by decide +kernel
theorem dX5_whyNotClaim_105 : decode cX5_whyNotClaim 105 = .ok (.iconst 0, 1) := by decide +kernel
theorem dX5_whyNotClaim_106 : decode cX5_whyNotClaim 106 = .ok (.ireturn, 1) := by decide +kernel
theorem dX5_claimNow_0 : decode cX5_claimNow 0 = .ok (.aload_n 0, 1) := by decide +kernel
theorem dX5_claimNow_1 : decode cX5_claimNow 1 = .ok (.getfield 7, 3) := by decide +kernel
theorem dX5_claimNow_4 : decode cX5_claimNow 4 = .ok (.bipush 8, 2) := by decide +kernel
theorem dX5_claimNow_6 : decode cX5_claimNow 6 = .ok (.iaload, 1) := by decide +kernel
theorem dX5_claimNow_7 : decode cX5_claimNow 7 = .ok (.istore 4, 2) := by decide +kernel
theorem dX5_claimNow_9 : decode cX5_claimNow 9 = .ok (.iconst 0, 1) := by decide +kernel
theorem dX5_claimNow_10 : decode cX5_claimNow 10 = .ok (.istore 5, 2) := by decide +kernel
theorem dX5_claimNow_12 : decode cX5_claimNow 12 = .ok (.iload 5, 2) := by decide +kernel
theorem dX5_claimNow_14 : decode cX5_claimNow 14 = .ok (.bipush 7, 2) := by decide +kernel
theorem dX5_claimNow_16 : decode cX5_claimNow 16 = .ok (.if_icmp .ge 18, 3) := by decide +kernel
theorem dX5_claimNow_19 : decode cX5_claimNow 19 = .ok (.aload_n 0, 1) := by decide +kernel
theorem dX5_claimNow_20 : decode cX5_claimNow 20 = .ok (.iload 4, 2) := by decide +kernel
theorem dX5_claimNow_22 : decode cX5_claimNow 22 = .ok (.iload 5, 2) := by decide +kernel
theorem dX5_claimNow_24 : decode cX5_claimNow 24 = .ok (.iconst 0, 1) := by decide +kernel
theorem dX5_claimNow_25 : decode cX5_claimNow 25 = .ok (.invokevirtual 103, 3) := by decide +kernel
theorem dX5_claimNow_28 : decode cX5_claimNow 28 = .ok (.iinc 5 1, 3) := by decide +kernel
theorem dX5_claimNow_31 : decode cX5_claimNow 31 = .ok (.goto (-19), 3) := by decide +kernel
theorem dX5_claimNow_34 : decode cX5_claimNow 34 = .ok (.aload_n 0, 1) := by decide +kernel
theorem dX5_claimNow_35 : decode cX5_claimNow 35 = .ok (.iload 4, 2) := by decide +kernel
theorem dX5_claimNow_37 : decode cX5_claimNow 37 = .ok (.iconst 0, 1) := by decide +kernel
theorem dX5_claimNow_38 : decode cX5_claimNow 38 = .ok (.iload_n 1, 1) := by decide +kernel
theorem dX5_claimNow_39 : decode cX5_claimNow 39 = .ok (.invokevirtual 103, 3) := by decide +kernel
theorem dX5_claimNow_42 : decode cX5_claimNow 42 = .ok (.aload_n 0, 1) := by decide +kernel
theorem dX5_claimNow_43 : decode cX5_claimNow 43 = .ok (.iload 4, 2) := by decide +kernel
theorem dX5_claimNow_45 : decode cX5_claimNow 45 = .ok (.iconst 1, 1) := by decide +kernel
theorem dX5_claimNow_46 : decode cX5_claimNow 46 = .ok (.iload_n 2, 1) := by decide +kernel
theorem dX5_claimNow_47 : decode cX5_claimNow 47 = .ok (.invokevirtual 103, 3) := by decide +kernel
theorem dX5_claimNow_50 : decode cX5_claimNow 50 = .ok (.aload_n 0, 1) := by decide +kernel
theorem dX5_claimNow_51 : decode cX5_claimNow 51 = .ok (.iload 4, 2) := by decide +kernel
theorem dX5_claimNow_53 : decode cX5_claimNow 53 = .ok (.iconst 2, 1) := by decide +kernel
theorem dX5_claimNow_54 : decode cX5_claimNow 54 = .ok (.iload_n 3, 1) := by decide +kernel
theorem dX5_claimNow_55 : decode cX5_claimNow 55 = .ok (.invokevirtual 103, 3) := by decide +kernel
theorem dX5_claimNow_58 : decode cX5_claimNow 58 = .ok (.aload_n 0, 1) := by decide +kernel
theorem dX5_claimNow_59 : decode cX5_claimNow 59 = .ok (.getfield 7, 3) := by decide +kernel
theorem dX5_claimNow_62 : decode cX5_claimNow 62 = .ok (.bipush 8, 2) := by decide +kernel
theorem dX5_claimNow_64 : decode cX5_claimNow 64 = .ok (.dup2, 1) := by decide +kernel
theorem dX5_claimNow_65 : decode cX5_claimNow 65 = .ok (.iaload, 1) := by decide +kernel
theorem dX5_claimNow_66 : decode cX5_claimNow 66 = .ok (.iconst 1, 1) := by decide +kernel
theorem dX5_claimNow_67 : decode cX5_claimNow 67 = .ok (.iadd, 1) := by decide +kernel
theorem dX5_claimNow_68 : decode cX5_claimNow 68 = .ok (.iastore, 1) := by decide +kernel
theorem dX5_claimNow_69 : decode cX5_claimNow 69 = .ok (.iload 4, 2) := by decide +kernel
theorem dX5_claimNow_71 : decode cX5_claimNow 71 = .ok (.ireturn, 1) := by decide +kernel
theorem dX5_claim_0 : decode cX5_claim 0 = .ok (.aload_n 0, 1) := by decide +kernel
theorem dX5_claim_1 : decode cX5_claim 1 = .ok (.iload_n 1, 1) := by decide +kernel
theorem dX5_claim_2 : decode cX5_claim 2 = .ok (.iload_n 2, 1) := by decide +kernel
theorem dX5_claim_3 : decode cX5_claim 3 = .ok (.iload_n 3, 1) := by decide +kernel
theorem dX5_claim_4 : decode cX5_claim 4 = .ok (.invokevirtual 106, 3) := by decide +kernel
theorem dX5_claim_7 : decode cX5_claim 7 = .ok (.istore 4, 2) := by decide +kernel
theorem dX5_claim_9 : decode cX5_claim 9 = .ok (.iload 4, 2) := by decide +kernel
theorem dX5_claim_11 : decode cX5_claim 11 = .ok (.ifCond .ge 6, 3) := by decide +kernel
theorem dX5_claim_14 : decode cX5_claim 14 = .ok (.iload 4, 2) := by decide +kernel
theorem dX5_claim_16 : decode cX5_claim 16 = .ok (.ireturn, 1) := by decide +kernel
theorem dX5_claim_17 : decode cX5_claim 17 = .ok (.aload_n 0, 1) := by decide +kernel
theorem dX5_claim_18 : decode cX5_claim 18 = .ok (.invokevirtual 44, 3) := by decide +kernel
theorem dX5_claim_21 : decode cX5_claim 21 = .ok (.aload_n 0, 1) := by decide +kernel
theorem dX5_claim_22 : decode cX5_claim 22 = .ok (.iload_n 1, 1) := by decide +kernel
theorem dX5_claim_23 : decode cX5_claim 23 = .ok (.iload_n 2, 1) := by decide +kernel
theorem dX5_claim_24 : decode cX5_claim 24 = .ok (.iload_n 3, 1) := by decide +kernel
theorem dX5_claim_25 : decode cX5_claim 25 = .ok (.invokevirtual 110, 3) := by decide +kernel
theorem dX5_claim_28 : decode cX5_claim 28 = .ok (.ireturn, 1) := by decide +kernel
theorem dX5_whyNotOpen_0 : decode cX5_whyNotOpen 0 = .ok (.aload_n 0, 1) := by decide +kernel
theorem dX5_whyNotOpen_1 : decode cX5_whyNotOpen 1 = .ok (.iload_n 1, 1) := by decide +kernel
theorem dX5_whyNotOpen_2 : decode cX5_whyNotOpen 2 = .ok (.iconst 4, 1) := by decide +kernel
theorem dX5_whyNotOpen_3 : decode cX5_whyNotOpen 3 = .ok (.invokevirtual 47, 3) := by decide +kernel
theorem dX5_whyNotOpen_6 : decode cX5_whyNotOpen 6 = .ok (.ifCond .ne 7, 3) := by decide +kernel
theorem dX5_whyNotOpen_9 : decode cX5_whyNotOpen 9 = .ok (.iconst 0, 1) := by decide +kernel
theorem dX5_whyNotOpen_10 : decode cX5_whyNotOpen 10 = .ok (.goto 5, 3) := by decide +kernel
theorem dX5_whyNotOpen_13 : decode cX5_whyNotOpen 13 = .ok (.bipush (-5), 2) := by decide +kernel
theorem dX5_whyNotOpen_15 : decode cX5_whyNotOpen 15 = .ok (.ireturn, 1) := by decide +kernel
theorem dX5_whyNotProve_0 : decode cX5_whyNotProve 0 = .ok (.aload_n 0, 1) := by decide +kernel
theorem dX5_whyNotProve_1 : decode cX5_whyNotProve 1 = .ok (.iload_n 1, 1) := by decide +kernel
theorem dX5_whyNotProve_2 : decode cX5_whyNotProve 2 = .ok (.invokevirtual 113, 3) := by decide +kernel
theorem dX5_whyNotProve_5 : decode cX5_whyNotProve 5 = .ok (.ifCond .ne 7, 3) := by decide +kernel
theorem dX5_whyNotProve_8 : decode cX5_whyNotProve 8 = .ok (.iconst (-1), 1) := by decide +kernel
theorem dX5_whyNotProve_9 : decode cX5_whyNotProve 9 = .ok (.goto 23, 3) := by decide +kernel
theorem dX5_whyNotProve_12 : decode cX5_whyNotProve 12 = .ok (.iload_n 2, 1) := by decide +kernel
theorem dX5_whyNotProve_13 : decode cX5_whyNotProve 13 = .ok (.iconst 1, 1) := by decide +kernel
theorem dX5_whyNotProve_14 : decode cX5_whyNotProve 14 = .ok (.bipush 100, 2) := by decide +kernel
theorem dX5_whyNotProve_16 : decode cX5_whyNotProve 16 = .ok (.invokestatic 32, 3) := by decide +kernel
theorem dX5_whyNotProve_19 : decode cX5_whyNotProve 19 = .ok (.ifCond .eq 11, 3) := by decide +kernel
theorem dX5_whyNotProve_22 : decode cX5_whyNotProve 22 = .ok (.aload_n 0, 1) := by decide +kernel
theorem dX5_whyNotProve_23 : decode cX5_whyNotProve 23 = .ok (.iload_n 1, 1) := by decide +kernel
theorem dX5_whyNotProve_24 : decode cX5_whyNotProve 24 = .ok (.invokevirtual 116, 3) := by decide +kernel
theorem dX5_whyNotProve_27 : decode cX5_whyNotProve 27 = .ok (.goto 5, 3) := by decide +kernel
theorem dX5_whyNotProve_30 : decode cX5_whyNotProve 30 = .ok (.bipush (-2), 2) := by decide +kernel
theorem dX5_whyNotProve_32 : decode cX5_whyNotProve 32 = .ok (.ireturn, 1) := by decide +kernel
theorem dX5_proveNow_0 : decode cX5_proveNow 0 = .ok (.aload_n 0, 1) := by decide +kernel
theorem dX5_proveNow_1 : decode cX5_proveNow 1 = .ok (.iload_n 1, 1) := by decide +kernel
theorem dX5_proveNow_2 : decode cX5_proveNow 2 = .ok (.iconst 3, 1) := by decide +kernel
theorem dX5_proveNow_3 : decode cX5_proveNow 3 = .ok (.invokevirtual 47, 3) := by decide +kernel
theorem dX5_proveNow_6 : decode cX5_proveNow 6 = .ok (.iload_n 2, 1) := by decide +kernel
theorem dX5_proveNow_7 : decode cX5_proveNow 7 = .ok (.iadd, 1) := by decide +kernel
theorem dX5_proveNow_8 : decode cX5_proveNow 8 = .ok (.istore_n 3, 1) := by decide +kernel
theorem dX5_proveNow_9 : decode cX5_proveNow 9 = .ok (.aload_n 0, 1) := by decide +kernel
theorem dX5_proveNow_10 : decode cX5_proveNow 10 = .ok (.iload_n 1, 1) := by decide +kernel
theorem dX5_proveNow_11 : decode cX5_proveNow 11 = .ok (.iconst 3, 1) := by decide +kernel
theorem dX5_proveNow_12 : decode cX5_proveNow 12 = .ok (.iload_n 3, 1) := by decide +kernel
theorem dX5_proveNow_13 : decode cX5_proveNow 13 = .ok (.bipush 100, 2) := by decide +kernel
theorem dX5_proveNow_15 : decode cX5_proveNow 15 = .ok (.if_icmp .le 8, 3) := by decide +kernel
theorem dX5_proveNow_18 : decode cX5_proveNow 18 = .ok (.bipush 100, 2) := by decide +kernel
theorem dX5_proveNow_20 : decode cX5_proveNow 20 = .ok (.goto 4, 3) := by decide +kernel
theorem dX5_proveNow_23 : decode cX5_proveNow 23 = .ok (.iload_n 3, 1) := by decide +kernel
theorem dX5_proveNow_24 : decode cX5_proveNow 24 = .ok (.invokevirtual 103, 3) := by decide +kernel
theorem dX5_proveNow_27 : decode cX5_proveNow 27 = .ok (.aload_n 0, 1) := by decide +kernel
theorem dX5_proveNow_28 : decode cX5_proveNow 28 = .ok (.iload_n 1, 1) := by decide +kernel
theorem dX5_proveNow_29 : decode cX5_proveNow 29 = .ok (.iconst 5, 1) := by decide +kernel
theorem dX5_proveNow_30 : decode cX5_proveNow 30 = .ok (.iconst 0, 1) := by decide +kernel
theorem dX5_proveNow_31 : decode cX5_proveNow 31 = .ok (.invokevirtual 103, 3) := by decide +kernel
theorem dX5_proveNow_34 : decode cX5_proveNow 34 = .ok (.aload_n 0, 1) := by decide +kernel
theorem dX5_proveNow_35 : decode cX5_proveNow 35 = .ok (.iload_n 1, 1) := by decide +kernel
theorem dX5_proveNow_36 : decode cX5_proveNow 36 = .ok (.iconst 3, 1) := by decide +kernel
theorem dX5_proveNow_37 : decode cX5_proveNow 37 = .ok (.invokevirtual 47, 3) := by decide +kernel
theorem dX5_proveNow_40 : decode cX5_proveNow 40 = .ok (.ireturn, 1) := by decide +kernel
theorem dX5_prove_0 : decode cX5_prove 0 = .ok (.aload_n 0, 1) := by decide +kernel
theorem dX5_prove_1 : decode cX5_prove 1 = .ok (.iload_n 1, 1) := by decide +kernel
theorem dX5_prove_2 : decode cX5_prove 2 = .ok (.iload_n 2, 1) := by decide +kernel
theorem dX5_prove_3 : decode cX5_prove 3 = .ok (.invokevirtual 119, 3) := by decide +kernel
theorem dX5_prove_6 : decode cX5_prove 6 = .ok (.istore_n 3, 1) := by decide +kernel
theorem dX5_prove_7 : decode cX5_prove 7 = .ok (.iload_n 3, 1) := by decide +kernel
theorem dX5_prove_8 : decode cX5_prove 8 = .ok (.ifCond .ge 5, 3) := by decide +kernel
theorem dX5_prove_11 : decode cX5_prove 11 = .ok (.iload_n 3, 1) := by decide +kernel
theorem dX5_prove_12 : decode cX5_prove 12 = .ok (.ireturn, 1) := by decide +kernel
theorem dX5_prove_13 : decode cX5_prove 13 = .ok (.aload_n 0, 1) := by decide +kernel
theorem dX5_prove_14 : decode cX5_prove 14 = .ok (.invokevirtual 44, 3) := by decide +kernel
theorem dX5_prove_17 : decode cX5_prove 17 = .ok (.aload_n 0, 1) := by decide +kernel
theorem dX5_prove_18 : decode cX5_prove 18 = .ok (.iload_n 1, 1) := by decide +kernel
theorem dX5_prove_19 : decode cX5_prove 19 = .ok (.iload_n 2, 1) := by decide +kernel
theorem dX5_prove_20 : decode cX5_prove 20 = .ok (.invokevirtual 122, 3) := by decide +kernel
theorem dX5_prove_23 : decode cX5_prove 23 = .ok (.ireturn, 1) := by decide +kernel
theorem dX5_whyNotDecide_0 : decode cX5_whyNotDecide 0 = .ok (.aload_n 0, 1) := by decide +kernel
theorem dX5_whyNotDecide_1 : decode cX5_whyNotDecide 1 = .ok (.iload_n 1, 1) := by decide +kernel
theorem dX5_whyNotDecide_2 : decode cX5_whyNotDecide 2 = .ok (.invokevirtual 113, 3) := by decide +kernel
theorem dX5_whyNotDecide_5 : decode cX5_whyNotDecide 5 = .ok (.ifCond .eq 11, 3) := by decide +kernel
theorem dX5_whyNotDecide_8 : decode cX5_whyNotDecide 8 = .ok (.aload_n 0, 1) := by decide +kernel
theorem dX5_whyNotDecide_9 : decode cX5_whyNotDecide 9 = .ok (.iload_n 1, 1) := by decide +kernel
theorem dX5_whyNotDecide_10 : decode cX5_whyNotDecide 10 = .ok (.invokevirtual 116, 3) := by decide +kernel
theorem dX5_whyNotDecide_13 : decode cX5_whyNotDecide 13 = .ok (.goto 4, 3) := by decide +kernel
theorem dX5_whyNotDecide_16 : decode cX5_whyNotDecide 16 = .ok (.iconst (-1), 1) := by decide +kernel
theorem dX5_whyNotDecide_17 : decode cX5_whyNotDecide 17 = .ok (.ireturn, 1) := by decide +kernel
theorem dX5_decideNow_0 : decode cX5_decideNow 0 = .ok (.aload_n 0, 1) := by decide +kernel
theorem dX5_decideNow_1 : decode cX5_decideNow 1 = .ok (.iload_n 1, 1) := by decide +kernel
theorem dX5_decideNow_2 : decode cX5_decideNow 2 = .ok (.iconst 4, 1) := by decide +kernel
theorem dX5_decideNow_3 : decode cX5_decideNow 3 = .ok (.aload_n 0, 1) := by decide +kernel
theorem dX5_decideNow_4 : decode cX5_decideNow 4 = .ok (.iload_n 1, 1) := by decide +kernel
theorem dX5_decideNow_5 : decode cX5_decideNow 5 = .ok (.iconst 3, 1) := by decide +kernel
theorem dX5_decideNow_6 : decode cX5_decideNow 6 = .ok (.invokevirtual 47, 3) := by decide +kernel
theorem dX5_decideNow_9 : decode cX5_decideNow 9 = .ok (.aload_n 0, 1) := by decide +kernel
theorem dX5_decideNow_10 : decode cX5_decideNow 10 = .ok (.getfield 7, 3) := by decide +kernel
theorem dX5_decideNow_13 : decode cX5_decideNow 13 = .ok (.iconst 1, 1) := by decide +kernel
theorem dX5_decideNow_14 : decode cX5_decideNow 14 = .ok (.iaload, 1) := by decide +kernel
theorem dX5_decideNow_15 : decode cX5_decideNow 15 = .ok (.if_icmp .lt 7, 3) := by decide +kernel
theorem dX5_decideNow_18 : decode cX5_decideNow 18 = .ok (.iconst 1, 1) := by decide +kernel
theorem dX5_decideNow_19 : decode cX5_decideNow 19 = .ok (.goto 4, 3) := by decide +kernel
theorem dX5_decideNow_22 : decode cX5_decideNow 22 = .ok (.iconst 2, 1) := by decide +kernel
theorem dX5_decideNow_23 : decode cX5_decideNow 23 = .ok (.invokevirtual 103, 3) := by decide +kernel
theorem dX5_decideNow_26 : decode cX5_decideNow 26 = .ok (.aload_n 0, 1) := by decide +kernel
theorem dX5_decideNow_27 : decode cX5_decideNow 27 = .ok (.iload_n 1, 1) := by decide +kernel
theorem dX5_decideNow_28 : decode cX5_decideNow 28 = .ok (.iconst 4, 1) := by decide +kernel
theorem dX5_decideNow_29 : decode cX5_decideNow 29 = .ok (.invokevirtual 47, 3) := by decide +kernel
theorem dX5_decideNow_32 : decode cX5_decideNow 32 = .ok (.ireturn, 1) := by decide +kernel
theorem dX5_decide_0 : decode cX5_decide 0 = .ok (.aload_n 0, 1) := by decide +kernel
theorem dX5_decide_1 : decode cX5_decide 1 = .ok (.iload_n 1, 1) := by decide +kernel
theorem dX5_decide_2 : decode cX5_decide 2 = .ok (.invokevirtual 125, 3) := by decide +kernel
theorem dX5_decide_5 : decode cX5_decide 5 = .ok (.istore_n 2, 1) := by decide +kernel
theorem dX5_decide_6 : decode cX5_decide 6 = .ok (.iload_n 2, 1) := by decide +kernel
theorem dX5_decide_7 : decode cX5_decide 7 = .ok (.ifCond .ge 5, 3) := by decide +kernel
theorem dX5_decide_10 : decode cX5_decide 10 = .ok (.iload_n 2, 1) := by decide +kernel
theorem dX5_decide_11 : decode cX5_decide 11 = .ok (.ireturn, 1) := by decide +kernel
theorem dX5_decide_12 : decode cX5_decide 12 = .ok (.aload_n 0, 1) := by decide +kernel
theorem dX5_decide_13 : decode cX5_decide 13 = .ok (.invokevirtual 44, 3) := by decide +kernel
theorem dX5_decide_16 : decode cX5_decide 16 = .ok (.aload_n 0, 1) := by decide +kernel
theorem dX5_decide_17 : decode cX5_decide 17 = .ok (.iload_n 1, 1) := by decide +kernel
theorem dX5_decide_18 : decode cX5_decide 18 = .ok (.invokevirtual 128, 3) := by decide +kernel
theorem dX5_decide_21 : decode cX5_decide 21 = .ok (.ireturn, 1) := by decide +kernel
theorem dX5_whyNotWithdraw_0 : decode cX5_whyNotWithdraw 0 = .ok (.aload_n 0, 1) := by decide +kernel
theorem dX5_whyNotWithdraw_1 : decode cX5_whyNotWithdraw 1 = .ok (.iload_n 1, 1) := by decide +kernel
theorem dX5_whyNotWithdraw_2 : decode cX5_whyNotWithdraw 2 = .ok (.invokevirtual 113, 3) := by decide +kernel
theorem dX5_whyNotWithdraw_5 : decode cX5_whyNotWithdraw 5 = .ok (.ifCond .ne 7, 3) := by decide +kernel
theorem dX5_whyNotWithdraw_8 : decode cX5_whyNotWithdraw 8 = .ok (.iconst (-1), 1) := by decide +kernel
theorem dX5_whyNotWithdraw_9 : decode cX5_whyNotWithdraw 9 = .ok (.goto 17, 3) := by decide +kernel
theorem dX5_whyNotWithdraw_12 : decode cX5_whyNotWithdraw 12 = .ok (.aload_n 0, 1) := by decide +kernel
theorem dX5_whyNotWithdraw_13 : decode cX5_whyNotWithdraw 13 = .ok (.iload_n 1, 1) := by decide +kernel
theorem dX5_whyNotWithdraw_14 : decode cX5_whyNotWithdraw 14 = .ok (.invokevirtual 91, 3) := by decide +kernel
theorem dX5_whyNotWithdraw_17 : decode cX5_whyNotWithdraw 17 = .ok (.ifCond .eq 7, 3) := by decide +kernel
theorem dX5_whyNotWithdraw_20 : decode cX5_whyNotWithdraw 20 = .ok (.iconst 0, 1) := by decide +kernel
theorem dX5_whyNotWithdraw_21 : decode cX5_whyNotWithdraw 21 = .ok (.goto 5, 3) := by decide +kernel
theorem dX5_whyNotWithdraw_24 : decode cX5_whyNotWithdraw 24 = .ok (.bipush (-5), 2) := by decide +kernel
theorem dX5_whyNotWithdraw_26 : decode cX5_whyNotWithdraw 26 = .ok (.ireturn, 1) := by decide +kernel
theorem dX5_withdrawNow_0 : decode cX5_withdrawNow 0 = .ok (.aload_n 0, 1) := by decide +kernel
theorem dX5_withdrawNow_1 : decode cX5_withdrawNow 1 = .ok (.iload_n 1, 1) := by decide +kernel
theorem dX5_withdrawNow_2 : decode cX5_withdrawNow 2 = .ok (.iconst 4, 1) := by decide +kernel
theorem dX5_withdrawNow_3 : decode cX5_withdrawNow 3 = .ok (.iconst 3, 1) := by decide +kernel
theorem dX5_withdrawNow_4 : decode cX5_withdrawNow 4 = .ok (.invokevirtual 103, 3) := by decide +kernel
theorem dX5_withdrawNow_7 : decode cX5_withdrawNow 7 = .ok (.aload_n 0, 1) := by decide +kernel
theorem dX5_withdrawNow_8 : decode cX5_withdrawNow 8 = .ok (.aload_n 0, 1) := by decide +kernel
theorem dX5_withdrawNow_9 : decode cX5_withdrawNow 9 = .ok (.iload_n 1, 1) := by decide +kernel
theorem dX5_withdrawNow_10 : decode cX5_withdrawNow 10 = .ok (.iconst 1, 1) := by decide +kernel
theorem dX5_withdrawNow_11 : decode cX5_withdrawNow 11 = .ok (.invokevirtual 47, 3) := by decide +kernel
theorem dX5_withdrawNow_14 : decode cX5_withdrawNow 14 = .ok (.invokevirtual 131, 3) := by decide +kernel
theorem dX5_withdrawNow_17 : decode cX5_withdrawNow 17 = .ok (.invokestatic 61, 3) := by decide +kernel
theorem dX5_withdrawNow_20 : decode cX5_withdrawNow 20 = .ok (.ireturn, 1) := by decide +kernel
theorem dX5_withdraw_0 : decode cX5_withdraw 0 = .ok (.aload_n 0, 1) := by decide +kernel
theorem dX5_withdraw_1 : decode cX5_withdraw 1 = .ok (.iload_n 1, 1) := by decide +kernel
theorem dX5_withdraw_2 : decode cX5_withdraw 2 = .ok (.invokevirtual 134, 3) := by decide +kernel
theorem dX5_withdraw_5 : decode cX5_withdraw 5 = .ok (.istore_n 2, 1) := by decide +kernel
theorem dX5_withdraw_6 : decode cX5_withdraw 6 = .ok (.iload_n 2, 1) := by decide +kernel
theorem dX5_withdraw_7 : decode cX5_withdraw 7 = .ok (.ifCond .ge 5, 3) := by decide +kernel
theorem dX5_withdraw_10 : decode cX5_withdraw 10 = .ok (.iload_n 2, 1) := by decide +kernel
theorem dX5_withdraw_11 : decode cX5_withdraw 11 = .ok (.ireturn, 1) := by decide +kernel
theorem dX5_withdraw_12 : decode cX5_withdraw 12 = .ok (.aload_n 0, 1) := by decide +kernel
theorem dX5_withdraw_13 : decode cX5_withdraw 13 = .ok (.invokevirtual 44, 3) := by decide +kernel
theorem dX5_withdraw_16 : decode cX5_withdraw 16 = .ok (.aload_n 0, 1) := by decide +kernel
theorem dX5_withdraw_17 : decode cX5_withdraw 17 = .ok (.iload_n 1, 1) := by decide +kernel
theorem dX5_withdraw_18 : decode cX5_withdraw 18 = .ok (.invokevirtual 137, 3) := by decide +kernel
theorem dX5_withdraw_21 : decode cX5_withdraw 21 = .ok (.ireturn, 1) := by decide +kernel
theorem dX5_whyNotSettle_0 : decode cX5_whyNotSettle 0 = .ok (.aload_n 0, 1) := by decide +kernel
theorem dX5_whyNotSettle_1 : decode cX5_whyNotSettle 1 = .ok (.iload_n 1, 1) := by decide +kernel
theorem dX5_whyNotSettle_2 : decode cX5_whyNotSettle 2 = .ok (.invokevirtual 78, 3) := by decide +kernel
theorem dX5_whyNotSettle_5 : decode cX5_whyNotSettle 5 = .ok (.ifCond .ne 7, 3) := by decide +kernel
theorem dX5_whyNotSettle_8 : decode cX5_whyNotSettle 8 = .ok (.iconst (-1), 1) := by decide +kernel
theorem dX5_whyNotSettle_9 : decode cX5_whyNotSettle 9 = .ok (.goto 35, 3) := by decide +kernel
theorem dX5_whyNotSettle_12 : decode cX5_whyNotSettle 12 = .ok (.aload_n 0, 1) := by decide +kernel
theorem dX5_whyNotSettle_13 : decode cX5_whyNotSettle 13 = .ok (.iload_n 1, 1) := by decide +kernel
theorem dX5_whyNotSettle_14 : decode cX5_whyNotSettle 14 = .ok (.invokevirtual 97, 3) := by decide +kernel
theorem dX5_whyNotSettle_17 : decode cX5_whyNotSettle 17 = .ok (.ifCond .ne 21, 3) := by decide +kernel
theorem dX5_whyNotSettle_20 : decode cX5_whyNotSettle 20 = .ok (.aload_n 0, 1) := by decide +kernel
theorem dX5_whyNotSettle_21 : decode cX5_whyNotSettle 21 = .ok (.iload_n 1, 1) := by decide +kernel
theorem dX5_whyNotSettle_22 : decode cX5_whyNotSettle 22 = .ok (.iconst 0, 1) := by decide +kernel
theorem dX5_whyNotSettle_23 : decode cX5_whyNotSettle 23 = .ok (.invokevirtual 51, 3) := by decide +kernel
theorem dX5_whyNotSettle_26 : decode cX5_whyNotSettle 26 = .ok (.ifCond .ne 12, 3) := by decide +kernel
theorem dX5_whyNotSettle_29 : decode cX5_whyNotSettle 29 = .ok (.aload_n 0, 1) := by decide +kernel
theorem dX5_whyNotSettle_30 : decode cX5_whyNotSettle 30 = .ok (.iload_n 1, 1) := by decide +kernel
theorem dX5_whyNotSettle_31 : decode cX5_whyNotSettle 31 = .ok (.iconst 1, 1) := by decide +kernel
theorem dX5_whyNotSettle_32 : decode cX5_whyNotSettle 32 = .ok (.invokevirtual 51, 3) := by decide +kernel
theorem dX5_whyNotSettle_35 : decode cX5_whyNotSettle 35 = .ok (.ifCond .ne 8, 3) := by decide +kernel
theorem dX5_whyNotSettle_38 : decode cX5_whyNotSettle 38 = .ok (.bipush (-5), 2) := by decide +kernel
theorem dX5_whyNotSettle_40 : decode cX5_whyNotSettle 40 = .ok (.goto 4, 3) := by decide +kernel
theorem dX5_whyNotSettle_43 : decode cX5_whyNotSettle 43 = .ok (.iconst 0, 1) := by decide +kernel
theorem dX5_whyNotSettle_44 : decode cX5_whyNotSettle 44 = .ok (.ireturn, 1) := by decide +kernel
theorem dX5_isPaid_0 : decode cX5_isPaid 0 = .ok (.iconst 0, 1) := by decide +kernel
theorem dX5_isPaid_1 : decode cX5_isPaid 1 = .ok (.istore_n 2, 1) := by decide +kernel
theorem dX5_isPaid_2 : decode cX5_isPaid 2 = .ok (.iconst 0, 1) := by decide +kernel
theorem dX5_isPaid_3 : decode cX5_isPaid 3 = .ok (.istore_n 3, 1) := by decide +kernel
theorem dX5_isPaid_4 : decode cX5_isPaid 4 = .ok (.iload_n 3, 1) := by decide +kernel
theorem dX5_isPaid_5 : decode cX5_isPaid 5 = .ok (.aload_n 0, 1) := by decide +kernel
theorem dX5_isPaid_6 : decode cX5_isPaid 6 = .ok (.getfield 7, 3) := by decide +kernel
theorem dX5_isPaid_9 : decode cX5_isPaid 9 = .ok (.bipush 9, 2) := by decide +kernel
theorem dX5_isPaid_11 : decode cX5_isPaid 11 = .ok (.iaload, 1) := by decide +kernel
theorem dX5_isPaid_12 : decode cX5_isPaid 12 = .ok (.if_icmp .ge 33, 3) := by decide +kernel
theorem dX5_isPaid_15 : decode cX5_isPaid 15 = .ok (.iload_n 2, 1) := by decide +kernel
theorem dX5_isPaid_16 : decode cX5_isPaid 16 = .ok (.ifCond .ne 17, 3) := by decide +kernel
theorem dX5_isPaid_19 : decode cX5_isPaid 19 = .ok (.aload_n 0, 1) := by decide +kernel
theorem dX5_isPaid_20 : decode cX5_isPaid 20 = .ok (.getfield 7, 3) := by decide +kernel
theorem dX5_isPaid_23 : decode cX5_isPaid 23 = .ok (.sipush 284, 3) := by decide +kernel
theorem dX5_isPaid_26 : decode cX5_isPaid 26 = .ok (.iload_n 3, 1) := by decide +kernel
theorem dX5_isPaid_27 : decode cX5_isPaid 27 = .ok (.iadd, 1) := by decide +kernel
theorem dX5_isPaid_28 : decode cX5_isPaid 28 = .ok (.iaload, 1) := by decide +kernel
theorem dX5_isPaid_29 : decode cX5_isPaid 29 = .ok (.iload_n 1, 1) := by decide +kernel
theorem dX5_isPaid_30 : decode cX5_isPaid 30 = .ok (.if_icmp .ne 7, 3) := by decide +kernel
theorem dX5_isPaid_33 : decode cX5_isPaid 33 = .ok (.iconst 1, 1) := by decide +kernel
theorem dX5_isPaid_34 : decode cX5_isPaid 34 = .ok (.goto 4, 3) := by decide +kernel
theorem dX5_isPaid_37 : decode cX5_isPaid 37 = .ok (.iconst 0, 1) := by decide +kernel
theorem dX5_isPaid_38 : decode cX5_isPaid 38 = .ok (.istore_n 2, 1) := by decide +kernel
theorem dX5_isPaid_39 : decode cX5_isPaid 39 = .ok (.iinc 3 1, 3) := by decide +kernel
theorem dX5_isPaid_42 : decode cX5_isPaid 42 = .ok (.goto (-38), 3) := by decide +kernel
theorem dX5_isPaid_45 : decode cX5_isPaid 45 = .ok (.iload_n 2, 1) := by decide +kernel
theorem dX5_isPaid_46 : decode cX5_isPaid 46 = .ok (.ireturn, 1) := by decide +kernel
theorem dX5_pay_0 : decode cX5_pay 0 = .ok (.aload_n 0, 1) := by decide +kernel
theorem dX5_pay_1 : decode cX5_pay 1 = .ok (.iload_n 1, 1) := by decide +kernel
theorem dX5_pay_2 : decode cX5_pay 2 = .ok (.iconst 0, 1) := by decide +kernel
theorem dX5_pay_3 : decode cX5_pay 3 = .ok (.invokevirtual 47, 3) := by decide +kernel
theorem dX5_pay_6 : decode cX5_pay 6 = .ok (.istore_n 3, 1) := by decide +kernel
theorem dX5_pay_7 : decode cX5_pay 7 = .ok (.aload_n 0, 1) := by decide +kernel
theorem dX5_pay_8 : decode cX5_pay 8 = .ok (.iload_n 1, 1) := by decide +kernel
theorem dX5_pay_9 : decode cX5_pay 9 = .ok (.bipush 6, 2) := by decide +kernel
theorem dX5_pay_11 : decode cX5_pay 11 = .ok (.iload_n 2, 1) := by decide +kernel
theorem dX5_pay_12 : decode cX5_pay 12 = .ok (.invokevirtual 103, 3) := by decide +kernel
theorem dX5_pay_15 : decode cX5_pay 15 = .ok (.aload_n 0, 1) := by decide +kernel
theorem dX5_pay_16 : decode cX5_pay 16 = .ok (.getfield 7, 3) := by decide +kernel
theorem dX5_pay_19 : decode cX5_pay 19 = .ok (.sipush 268, 3) := by decide +kernel
theorem dX5_pay_22 : decode cX5_pay 22 = .ok (.iload_n 3, 1) := by decide +kernel
theorem dX5_pay_23 : decode cX5_pay 23 = .ok (.iadd, 1) := by decide +kernel
theorem dX5_pay_24 : decode cX5_pay 24 = .ok (.dup2, 1) := by decide +kernel
theorem dX5_pay_25 : decode cX5_pay 25 = .ok (.iaload, 1) := by decide +kernel
theorem dX5_pay_26 : decode cX5_pay 26 = .ok (.iload_n 2, 1) := by decide +kernel
theorem dX5_pay_27 : decode cX5_pay 27 = .ok (.iadd, 1) := by decide +kernel
theorem dX5_pay_28 : decode cX5_pay 28 = .ok (.iastore, 1) := by decide +kernel
theorem dX5_pay_29 : decode cX5_pay 29 = .ok (.iload_n 2, 1) := by decide +kernel
theorem dX5_pay_30 : decode cX5_pay 30 = .ok (.ifCond .le 39, 3) := by decide +kernel
theorem dX5_pay_33 : decode cX5_pay 33 = .ok (.aload_n 0, 1) := by decide +kernel
theorem dX5_pay_34 : decode cX5_pay 34 = .ok (.iload_n 3, 1) := by decide +kernel
theorem dX5_pay_35 : decode cX5_pay 35 = .ok (.invokevirtual 140, 3) := by decide +kernel
theorem dX5_pay_38 : decode cX5_pay 38 = .ok (.ifCond .ne 31, 3) := by decide +kernel
theorem dX5_pay_41 : decode cX5_pay 41 = .ok (.aload_n 0, 1) := by decide +kernel
theorem dX5_pay_42 : decode cX5_pay 42 = .ok (.getfield 7, 3) := by decide +kernel
theorem dX5_pay_45 : decode cX5_pay 45 = .ok (.sipush 284, 3) := by decide +kernel
theorem dX5_pay_48 : decode cX5_pay 48 = .ok (.aload_n 0, 1) := by decide +kernel
theorem dX5_pay_49 : decode cX5_pay 49 = .ok (.getfield 7, 3) := by decide +kernel
theorem dX5_pay_52 : decode cX5_pay 52 = .ok (.bipush 9, 2) := by decide +kernel
theorem dX5_pay_54 : decode cX5_pay 54 = .ok (.iaload, 1) := by decide +kernel
theorem dX5_pay_55 : decode cX5_pay 55 = .ok (.iadd, 1) := by decide +kernel
theorem dX5_pay_56 : decode cX5_pay 56 = .ok (.iload_n 3, 1) := by decide +kernel
theorem dX5_pay_57 : decode cX5_pay 57 = .ok (.iastore, 1) := by decide +kernel
theorem dX5_pay_58 : decode cX5_pay 58 = .ok (.aload_n 0, 1) := by decide +kernel
theorem dX5_pay_59 : decode cX5_pay 59 = .ok (.getfield 7, 3) := by decide +kernel
theorem dX5_pay_62 : decode cX5_pay 62 = .ok (.bipush 9, 2) := by decide +kernel
theorem dX5_pay_64 : decode cX5_pay 64 = .ok (.dup2, 1) := by decide +kernel
theorem dX5_pay_65 : decode cX5_pay 65 = .ok (.iaload, 1) := by decide +kernel
theorem dX5_pay_66 : decode cX5_pay 66 = .ok (.iconst 1, 1) := by decide +kernel
theorem dX5_pay_67 : decode cX5_pay 67 = .ok (.iadd, 1) := by decide +kernel
theorem dX5_pay_68 : decode cX5_pay 68 = .ok (.iastore, 1) := by decide +kernel
theorem dX5_pay_69 : decode cX5_pay 69 = .ok (.return_, 1) := by decide +kernel
theorem dX5_settleNow_0 : decode cX5_settleNow 0 = .ok (.aload_n 0, 1) := by decide +kernel
theorem dX5_settleNow_1 : decode cX5_settleNow 1 = .ok (.iload_n 1, 1) := by decide +kernel
theorem dX5_settleNow_2 : decode cX5_settleNow 2 = .ok (.iconst 1, 1) := by decide +kernel
theorem dX5_settleNow_3 : decode cX5_settleNow 3 = .ok (.invokevirtual 51, 3) := by decide +kernel
theorem dX5_settleNow_6 : decode cX5_settleNow 6 = .ok (.istore_n 2, 1) := by decide +kernel
theorem dX5_settleNow_7 : decode cX5_settleNow 7 = .ok (.aload_n 0, 1) := by decide +kernel
theorem dX5_settleNow_8 : decode cX5_settleNow 8 = .ok (.iload_n 2, 1) := by decide +kernel
theorem dX5_settleNow_9 : decode cX5_settleNow 9 = .ok (.invokevirtual 143, 3) := by decide +kernel
theorem dX5_settleNow_12 : decode cX5_settleNow 12 = .ok (.istore_n 3, 1) := by decide +kernel
theorem dX5_settleNow_13 : decode cX5_settleNow 13 = .ok (.aload_n 0, 1) := by decide +kernel
theorem dX5_settleNow_14 : decode cX5_settleNow 14 = .ok (.iload_n 1, 1) := by decide +kernel
theorem dX5_settleNow_15 : decode cX5_settleNow 15 = .ok (.invokevirtual 146, 3) := by decide +kernel
theorem dX5_settleNow_18 : decode cX5_settleNow 18 = .ok (.istore 4, 2) := by decide +kernel
theorem dX5_settleNow_20 : decode cX5_settleNow 20 = .ok (.aload_n 0, 1) := by decide +kernel
theorem dX5_settleNow_21 : decode cX5_settleNow 21 = .ok (.iload_n 1, 1) := by decide +kernel
theorem dX5_settleNow_22 : decode cX5_settleNow 22 = .ok (.iconst 1, 1) := by decide +kernel
theorem dX5_settleNow_23 : decode cX5_settleNow 23 = .ok (.invokevirtual 58, 3) := by decide +kernel
theorem dX5_settleNow_26 : decode cX5_settleNow 26 = .ok (.iconst 3, 1) := by decide +kernel
theorem dX5_settleNow_27 : decode cX5_settleNow 27 = .ok (.if_icmp .ne 7, 3) := by decide +kernel
theorem dX5_settleNow_30 : decode cX5_settleNow 30 = .ok (.iconst 1, 1) := by decide +kernel
theorem dX5_settleNow_31 : decode cX5_settleNow 31 = .ok (.goto 4, 3) := by decide +kernel
theorem dX5_settleNow_34 : decode cX5_settleNow 34 = .ok (.iconst 0, 1) := by decide +kernel
theorem dX5_settleNow_35 : decode cX5_settleNow 35 = .ok (.istore 5, 2) := by decide +kernel
theorem dX5_settleNow_37 : decode cX5_settleNow 37 = .ok (.iconst 0, 1) := by decide +kernel
theorem dX5_settleNow_38 : decode cX5_settleNow 38 = .ok (.istore 6, 2) := by decide +kernel
theorem dX5_settleNow_40 : decode cX5_settleNow 40 = .ok (.iload 6, 2) := by decide +kernel
theorem dX5_settleNow_42 : decode cX5_settleNow 42 = .ok (.aload_n 0, 1) := by decide +kernel
theorem dX5_settleNow_43 : decode cX5_settleNow 43 = .ok (.getfield 7, 3) := by decide +kernel
theorem dX5_settleNow_46 : decode cX5_settleNow 46 = .ok (.bipush 8, 2) := by decide +kernel
theorem dX5_settleNow_48 : decode cX5_settleNow 48 = .ok (.iaload, 1) := by decide +kernel
theorem dX5_settleNow_49 : decode cX5_settleNow 49 = .ok (.if_icmp .ge 61, 3) := by decide +kernel
theorem dX5_settleNow_52 : decode cX5_settleNow 52 = .ok (.iload_n 3, 1) := by decide +kernel
theorem dX5_settleNow_53 : decode cX5_settleNow 53 = .ok (.iload 6, 2) := by decide +kernel
theorem dX5_settleNow_55 : decode cX5_settleNow 55 = .ok (.ishr, 1) := by decide +kernel
theorem dX5_settleNow_56 : decode cX5_settleNow 56 = .ok (.iconst 1, 1) := by decide +kernel
theorem dX5_settleNow_57 : decode cX5_settleNow 57 = .ok (.iand, 1) := by decide +kernel
theorem dX5_settleNow_58 : decode cX5_settleNow 58 = .ok (.iconst 1, 1) := by decide +kernel
theorem dX5_settleNow_59 : decode cX5_settleNow 59 = .ok (.if_icmp .ne 17, 3) := by decide +kernel
theorem dX5_settleNow_62 : decode cX5_settleNow 62 = .ok (.aload_n 0, 1) := by decide +kernel
theorem dX5_settleNow_63 : decode cX5_settleNow 63 = .ok (.iload 6, 2) := by decide +kernel
theorem dX5_settleNow_65 : decode cX5_settleNow 65 = .ok (.iload 6, 2) := by decide +kernel
theorem dX5_settleNow_67 : decode cX5_settleNow 67 = .ok (.iload_n 3, 1) := by decide +kernel
theorem dX5_settleNow_68 : decode cX5_settleNow 68 = .ok (.iload 4, 2) := by decide +kernel
theorem dX5_settleNow_70 : decode cX5_settleNow 70 = .ok (.invokestatic 149, 3) := by decide +kernel
theorem dX5_settleNow_73 : decode cX5_settleNow 73 = .ok (.invokevirtual 152, 3) := by decide +kernel
theorem dX5_settleNow_76 : decode cX5_settleNow 76 = .ok (.aload_n 0, 1) := by decide +kernel
theorem dX5_settleNow_77 : decode cX5_settleNow 77 = .ok (.iload 6, 2) := by decide +kernel
theorem dX5_settleNow_79 : decode cX5_settleNow 79 = .ok (.iconst 4, 1) := by decide +kernel
theorem dX5_settleNow_80 : decode cX5_settleNow 80 = .ok (.iload_n 2, 1) := by decide +kernel
theorem dX5_settleNow_81 : decode cX5_settleNow 81 = .ok (.iload 6, 2) := by decide +kernel
theorem dX5_settleNow_83 : decode cX5_settleNow 83 = .ok (.ishr, 1) := by decide +kernel
theorem dX5_settleNow_84 : decode cX5_settleNow 84 = .ok (.iconst 1, 1) := by decide +kernel
theorem dX5_settleNow_85 : decode cX5_settleNow 85 = .ok (.iand, 1) := by decide +kernel
theorem dX5_settleNow_86 : decode cX5_settleNow 86 = .ok (.iconst 1, 1) := by decide +kernel
theorem dX5_settleNow_87 : decode cX5_settleNow 87 = .ok (.if_icmp .ne 7, 3) := by decide +kernel
theorem dX5_settleNow_90 : decode cX5_settleNow 90 = .ok (.iconst 5, 1) := by decide +kernel
theorem dX5_settleNow_91 : decode cX5_settleNow 91 = .ok (.goto 10, 3) := by decide +kernel
theorem dX5_settleNow_94 : decode cX5_settleNow 94 = .ok (.aload_n 0, 1) := by decide +kernel
theorem dX5_settleNow_95 : decode cX5_settleNow 95 = .ok (.iload 6, 2) := by decide +kernel
theorem dX5_settleNow_97 : decode cX5_settleNow 97 = .ok (.iconst 4, 1) := by decide +kernel
theorem dX5_settleNow_98 : decode cX5_settleNow 98 = .ok (.invokevirtual 47, 3) := by decide +kernel
theorem dX5_settleNow_101 : decode cX5_settleNow 101 = .ok (.invokevirtual 103, 3) := by decide +kernel
theorem dX5_settleNow_104 : decode cX5_settleNow 104 = .ok (.iinc 6 1, 3) := by decide +kernel
theorem dX5_settleNow_107 : decode cX5_settleNow 107 = .ok (.goto (-67), 3) := by decide +kernel
theorem dX5_settleNow_110 : decode cX5_settleNow 110 = .ok (.aload_n 0, 1) := by decide +kernel
theorem dX5_settleNow_111 : decode cX5_settleNow 111 = .ok (.getfield 7, 3) := by decide +kernel
theorem dX5_settleNow_114 : decode cX5_settleNow 114 = .ok (.bipush 6, 2) := by decide +kernel
theorem dX5_settleNow_116 : decode cX5_settleNow 116 = .ok (.dup2, 1) := by decide +kernel
theorem dX5_settleNow_117 : decode cX5_settleNow 117 = .ok (.iaload, 1) := by decide +kernel
theorem dX5_settleNow_118 : decode cX5_settleNow 118 = .ok (.iload 5, 2) := by decide +kernel
theorem dX5_settleNow_120 : decode cX5_settleNow 120 = .ok (.ifCond .eq 8, 3) := by decide +kernel
theorem dX5_settleNow_123 : decode cX5_settleNow 123 = .ok (.iload 4, 2) := by decide +kernel
theorem dX5_settleNow_125 : decode cX5_settleNow 125 = .ok (.goto 4, 3) := by decide +kernel
theorem dX5_settleNow_128 : decode cX5_settleNow 128 = .ok (.iconst 0, 1) := by decide +kernel
theorem dX5_settleNow_129 : decode cX5_settleNow 129 = .ok (.isub, 1) := by decide +kernel
theorem dX5_settleNow_130 : decode cX5_settleNow 130 = .ok (.iastore, 1) := by decide +kernel
theorem dX5_settleNow_131 : decode cX5_settleNow 131 = .ok (.aload_n 0, 1) := by decide +kernel
theorem dX5_settleNow_132 : decode cX5_settleNow 132 = .ok (.iload_n 1, 1) := by decide +kernel
theorem dX5_settleNow_133 : decode cX5_settleNow 133 = .ok (.iconst 1, 1) := by decide +kernel
theorem dX5_settleNow_134 : decode cX5_settleNow 134 = .ok (.iload 5, 2) := by decide +kernel
theorem dX5_settleNow_136 : decode cX5_settleNow 136 = .ok (.ifCond .eq 7, 3) := by decide +kernel
theorem dX5_settleNow_139 : decode cX5_settleNow 139 = .ok (.iconst 4, 1) := by decide +kernel
theorem dX5_settleNow_140 : decode cX5_settleNow 140 = .ok (.goto 4, 3) := by decide +kernel
theorem dX5_settleNow_143 : decode cX5_settleNow 143 = .ok (.iconst 2, 1) := by decide +kernel
theorem dX5_settleNow_144 : decode cX5_settleNow 144 = .ok (.invokevirtual 68, 3) := by decide +kernel
theorem dX5_settleNow_147 : decode cX5_settleNow 147 = .ok (.iload_n 3, 1) := by decide +kernel
theorem dX5_settleNow_148 : decode cX5_settleNow 148 = .ok (.invokestatic 61, 3) := by decide +kernel
theorem dX5_settleNow_151 : decode cX5_settleNow 151 = .ok (.ireturn, 1) := by decide +kernel
theorem dX5_settle_0 : decode cX5_settle 0 = .ok (.aload_n 0, 1) := by decide +kernel
theorem dX5_settle_1 : decode cX5_settle 1 = .ok (.iload_n 1, 1) := by decide +kernel
theorem dX5_settle_2 : decode cX5_settle 2 = .ok (.invokevirtual 156, 3) := by decide +kernel
theorem dX5_settle_5 : decode cX5_settle 5 = .ok (.istore_n 2, 1) := by decide +kernel
theorem dX5_settle_6 : decode cX5_settle 6 = .ok (.iload_n 2, 1) := by decide +kernel
theorem dX5_settle_7 : decode cX5_settle 7 = .ok (.ifCond .ge 5, 3) := by decide +kernel
theorem dX5_settle_10 : decode cX5_settle 10 = .ok (.iload_n 2, 1) := by decide +kernel
theorem dX5_settle_11 : decode cX5_settle 11 = .ok (.ireturn, 1) := by decide +kernel
theorem dX5_settle_12 : decode cX5_settle 12 = .ok (.aload_n 0, 1) := by decide +kernel
theorem dX5_settle_13 : decode cX5_settle 13 = .ok (.invokevirtual 44, 3) := by decide +kernel
theorem dX5_settle_16 : decode cX5_settle 16 = .ok (.aload_n 0, 1) := by decide +kernel
theorem dX5_settle_17 : decode cX5_settle 17 = .ok (.iload_n 1, 1) := by decide +kernel
theorem dX5_settle_18 : decode cX5_settle 18 = .ok (.invokevirtual 159, 3) := by decide +kernel
theorem dX5_settle_21 : decode cX5_settle 21 = .ok (.ireturn, 1) := by decide +kernel
theorem dX5_dayOf_0 : decode cX5_dayOf 0 = .ok (.aload_n 0, 1) := by decide +kernel
theorem dX5_dayOf_1 : decode cX5_dayOf 1 = .ok (.iload_n 1, 1) := by decide +kernel
theorem dX5_dayOf_2 : decode cX5_dayOf 2 = .ok (.iconst 1, 1) := by decide +kernel
theorem dX5_dayOf_3 : decode cX5_dayOf 3 = .ok (.invokevirtual 58, 3) := by decide +kernel
theorem dX5_dayOf_6 : decode cX5_dayOf 6 = .ok (.iconst 3, 1) := by decide +kernel
theorem dX5_dayOf_7 : decode cX5_dayOf 7 = .ok (.if_icmp .ne 7, 3) := by decide +kernel
theorem dX5_dayOf_10 : decode cX5_dayOf 10 = .ok (.iconst 1, 1) := by decide +kernel
theorem dX5_dayOf_11 : decode cX5_dayOf 11 = .ok (.goto 4, 3) := by decide +kernel
theorem dX5_dayOf_14 : decode cX5_dayOf 14 = .ok (.iconst 0, 1) := by decide +kernel
theorem dX5_dayOf_15 : decode cX5_dayOf 15 = .ok (.istore_n 2, 1) := by decide +kernel
theorem dX5_dayOf_16 : decode cX5_dayOf 16 = .ok (.iconst 0, 1) := by decide +kernel
theorem dX5_dayOf_17 : decode cX5_dayOf 17 = .ok (.istore_n 3, 1) := by decide +kernel
theorem dX5_dayOf_18 : decode cX5_dayOf 18 = .ok (.iload_n 3, 1) := by decide +kernel
theorem dX5_dayOf_19 : decode cX5_dayOf 19 = .ok (.aload_n 0, 1) := by decide +kernel
theorem dX5_dayOf_20 : decode cX5_dayOf 20 = .ok (.getfield 7, 3) := by decide +kernel
theorem dX5_dayOf_23 : decode cX5_dayOf 23 = .ok (.bipush 8, 2) := by decide +kernel
theorem dX5_dayOf_25 : decode cX5_dayOf 25 = .ok (.iaload, 1) := by decide +kernel
theorem dX5_dayOf_26 : decode cX5_dayOf 26 = .ok (.if_icmp .ge 68, 3) := by decide +kernel
theorem dX5_dayOf_29 : decode cX5_dayOf 29 = .ok (.aload_n 0, 1) := by decide +kernel
theorem dX5_dayOf_30 : decode cX5_dayOf 30 = .ok (.iload_n 3, 1) := by decide +kernel
theorem dX5_dayOf_31 : decode cX5_dayOf 31 = .ok (.iconst 1, 1) := by decide +kernel
theorem dX5_dayOf_32 : decode cX5_dayOf 32 = .ok (.invokevirtual 47, 3) := by decide +kernel
theorem dX5_dayOf_35 : decode cX5_dayOf 35 = .ok (.iload_n 1, 1) := by decide +kernel
theorem dX5_dayOf_36 : decode cX5_dayOf 36 = .ok (.if_icmp .ne 52, 3) := by decide +kernel
theorem dX5_dayOf_39 : decode cX5_dayOf 39 = .ok (.aload_n 0, 1) := by decide +kernel
theorem dX5_dayOf_40 : decode cX5_dayOf 40 = .ok (.iload_n 3, 1) := by decide +kernel
theorem dX5_dayOf_41 : decode cX5_dayOf 41 = .ok (.iconst 4, 1) := by decide +kernel
theorem dX5_dayOf_42 : decode cX5_dayOf 42 = .ok (.invokevirtual 47, 3) := by decide +kernel
theorem dX5_dayOf_45 : decode cX5_dayOf 45 = .ok (.ifCond .ne 43, 3) := by decide +kernel
theorem dX5_dayOf_48 : decode cX5_dayOf 48 = .ok (.aload_n 0, 1) := by decide +kernel
theorem dX5_dayOf_49 : decode cX5_dayOf 49 = .ok (.iload_n 3, 1) := by decide +kernel
theorem dX5_dayOf_50 : decode cX5_dayOf 50 = .ok (.iconst 5, 1) := by decide +kernel
theorem dX5_dayOf_51 : decode cX5_dayOf 51 = .ok (.aload_n 0, 1) := by decide +kernel
theorem dX5_dayOf_52 : decode cX5_dayOf 52 = .ok (.iload_n 3, 1) := by decide +kernel
theorem dX5_dayOf_53 : decode cX5_dayOf 53 = .ok (.iconst 5, 1) := by decide +kernel
theorem dX5_dayOf_54 : decode cX5_dayOf 54 = .ok (.invokevirtual 47, 3) := by decide +kernel
theorem dX5_dayOf_57 : decode cX5_dayOf 57 = .ok (.iconst 1, 1) := by decide +kernel
theorem dX5_dayOf_58 : decode cX5_dayOf 58 = .ok (.iadd, 1) := by decide +kernel
theorem dX5_dayOf_59 : decode cX5_dayOf 59 = .ok (.invokevirtual 103, 3) := by decide +kernel
theorem dX5_dayOf_62 : decode cX5_dayOf 62 = .ok (.aload_n 0, 1) := by decide +kernel
theorem dX5_dayOf_63 : decode cX5_dayOf 63 = .ok (.iload_n 3, 1) := by decide +kernel
theorem dX5_dayOf_64 : decode cX5_dayOf 64 = .ok (.iconst 4, 1) := by decide +kernel
theorem dX5_dayOf_65 : decode cX5_dayOf 65 = .ok (.aload_n 0, 1) := by decide +kernel
theorem dX5_dayOf_66 : decode cX5_dayOf 66 = .ok (.iload_n 3, 1) := by decide +kernel
theorem dX5_dayOf_67 : decode cX5_dayOf 67 = .ok (.iconst 5, 1) := by decide +kernel
theorem dX5_dayOf_68 : decode cX5_dayOf 68 = .ok (.invokevirtual 47, 3) := by decide +kernel
theorem dX5_dayOf_71 : decode cX5_dayOf 71 = .ok (.aload_n 0, 1) := by decide +kernel
theorem dX5_dayOf_72 : decode cX5_dayOf 72 = .ok (.getfield 7, 3) := by decide +kernel
theorem dX5_dayOf_75 : decode cX5_dayOf 75 = .ok (.iconst 2, 1) := by decide +kernel
theorem dX5_dayOf_76 : decode cX5_dayOf 76 = .ok (.iaload, 1) := by decide +kernel
theorem dX5_dayOf_77 : decode cX5_dayOf 77 = .ok (.if_icmp .lt 7, 3) := by decide +kernel
theorem dX5_dayOf_80 : decode cX5_dayOf 80 = .ok (.iconst 4, 1) := by decide +kernel
theorem dX5_dayOf_81 : decode cX5_dayOf 81 = .ok (.goto 4, 3) := by decide +kernel
theorem dX5_dayOf_84 : decode cX5_dayOf 84 = .ok (.iconst 0, 1) := by decide +kernel
theorem dX5_dayOf_85 : decode cX5_dayOf 85 = .ok (.invokevirtual 103, 3) := by decide +kernel
theorem dX5_dayOf_88 : decode cX5_dayOf 88 = .ok (.iinc 3 1, 3) := by decide +kernel
theorem dX5_dayOf_91 : decode cX5_dayOf 91 = .ok (.goto (-73), 3) := by decide +kernel
theorem dX5_dayOf_94 : decode cX5_dayOf 94 = .ok (.aload_n 0, 1) := by decide +kernel
theorem dX5_dayOf_95 : decode cX5_dayOf 95 = .ok (.iload_n 1, 1) := by decide +kernel
theorem dX5_dayOf_96 : decode cX5_dayOf 96 = .ok (.iconst 1, 1) := by decide +kernel
theorem dX5_dayOf_97 : decode cX5_dayOf 97 = .ok (.invokevirtual 58, 3) := by decide +kernel
theorem dX5_dayOf_100 : decode cX5_dayOf 100 = .ok (.iconst 1, 1) := by decide +kernel
theorem dX5_dayOf_101 : decode cX5_dayOf 101 = .ok (.if_icmp .ne 15, 3) := by decide +kernel
theorem dX5_dayOf_104 : decode cX5_dayOf 104 = .ok (.aload_n 0, 1) := by decide +kernel
theorem dX5_dayOf_105 : decode cX5_dayOf 105 = .ok (.iload_n 1, 1) := by decide +kernel
theorem dX5_dayOf_106 : decode cX5_dayOf 106 = .ok (.invokevirtual 131, 3) := by decide +kernel
theorem dX5_dayOf_109 : decode cX5_dayOf 109 = .ok (.ifCond .ne 7, 3) := by decide +kernel
theorem dX5_dayOf_112 : decode cX5_dayOf 112 = .ok (.iconst 1, 1) := by decide +kernel
theorem dX5_dayOf_113 : decode cX5_dayOf 113 = .ok (.goto 4, 3) := by decide +kernel
theorem dX5_dayOf_116 : decode cX5_dayOf 116 = .ok (.iconst 0, 1) := by decide +kernel
theorem dX5_dayOf_117 : decode cX5_dayOf 117 = .ok (.istore_n 3, 1) := by decide +kernel
theorem dX5_dayOf_118 : decode cX5_dayOf 118 = .ok (.aload_n 0, 1) := by decide +kernel
theorem dX5_dayOf_119 : decode cX5_dayOf 119 = .ok (.iload_n 1, 1) := by decide +kernel
theorem dX5_dayOf_120 : decode cX5_dayOf 120 = .ok (.iconst 2, 1) := by decide +kernel
theorem dX5_dayOf_121 : decode cX5_dayOf 121 = .ok (.aload_n 0, 1) := by decide +kernel
theorem dX5_dayOf_122 : decode cX5_dayOf 122 = .ok (.iload_n 1, 1) := by decide +kernel
theorem dX5_dayOf_123 : decode cX5_dayOf 123 = .ok (.iconst 2, 1) := by decide +kernel
theorem dX5_dayOf_124 : decode cX5_dayOf 124 = .ok (.invokevirtual 58, 3) := by decide +kernel
theorem dX5_dayOf_127 : decode cX5_dayOf 127 = .ok (.iload_n 3, 1) := by decide +kernel
theorem dX5_dayOf_128 : decode cX5_dayOf 128 = .ok (.ifCond .eq 7, 3) := by decide +kernel
theorem dX5_dayOf_131 : decode cX5_dayOf 131 = .ok (.iconst 1, 1) := by decide +kernel
theorem dX5_dayOf_132 : decode cX5_dayOf 132 = .ok (.goto 4, 3) := by decide +kernel
theorem dX5_dayOf_135 : decode cX5_dayOf 135 = .ok (.iconst 0, 1) := by decide +kernel
theorem dX5_dayOf_136 : decode cX5_dayOf 136 = .ok (.iadd, 1) := by decide +kernel
theorem dX5_dayOf_137 : decode cX5_dayOf 137 = .ok (.invokevirtual 68, 3) := by decide +kernel
theorem dX5_dayOf_140 : decode cX5_dayOf 140 = .ok (.iload_n 3, 1) := by decide +kernel
theorem dX5_dayOf_141 : decode cX5_dayOf 141 = .ok (.ifCond .eq 22, 3) := by decide +kernel
theorem dX5_dayOf_144 : decode cX5_dayOf 144 = .ok (.aload_n 0, 1) := by decide +kernel
theorem dX5_dayOf_145 : decode cX5_dayOf 145 = .ok (.iload_n 1, 1) := by decide +kernel
theorem dX5_dayOf_146 : decode cX5_dayOf 146 = .ok (.iconst 2, 1) := by decide +kernel
theorem dX5_dayOf_147 : decode cX5_dayOf 147 = .ok (.invokevirtual 58, 3) := by decide +kernel
theorem dX5_dayOf_150 : decode cX5_dayOf 150 = .ok (.aload_n 0, 1) := by decide +kernel
theorem dX5_dayOf_151 : decode cX5_dayOf 151 = .ok (.getfield 7, 3) := by decide +kernel
theorem dX5_dayOf_154 : decode cX5_dayOf 154 = .ok (.iconst 0, 1) := by decide +kernel
theorem dX5_dayOf_155 : decode cX5_dayOf 155 = .ok (.iaload, 1) := by decide +kernel
theorem dX5_dayOf_156 : decode cX5_dayOf 156 = .ok (.if_icmp .lt 7, 3) := by decide +kernel
theorem dX5_dayOf_159 : decode cX5_dayOf 159 = .ok (.iconst 1, 1) := by decide +kernel
theorem dX5_dayOf_160 : decode cX5_dayOf 160 = .ok (.goto 4, 3) := by decide +kernel
theorem dX5_dayOf_163 : decode cX5_dayOf 163 = .ok (.iconst 0, 1) := by decide +kernel
theorem dX5_dayOf_164 : decode cX5_dayOf 164 = .ok (.istore 4, 2) := by decide +kernel
theorem dX5_dayOf_166 : decode cX5_dayOf 166 = .ok (.aload_n 0, 1) := by decide +kernel
theorem dX5_dayOf_167 : decode cX5_dayOf 167 = .ok (.iload_n 1, 1) := by decide +kernel
theorem dX5_dayOf_168 : decode cX5_dayOf 168 = .ok (.iconst 1, 1) := by decide +kernel
theorem dX5_dayOf_169 : decode cX5_dayOf 169 = .ok (.iload 4, 2) := by decide +kernel
theorem dX5_dayOf_171 : decode cX5_dayOf 171 = .ok (.ifCond .eq 7, 3) := by decide +kernel
theorem dX5_dayOf_174 : decode cX5_dayOf 174 = .ok (.iconst 3, 1) := by decide +kernel
theorem dX5_dayOf_175 : decode cX5_dayOf 175 = .ok (.goto 9, 3) := by decide +kernel
theorem dX5_dayOf_178 : decode cX5_dayOf 178 = .ok (.aload_n 0, 1) := by decide +kernel
theorem dX5_dayOf_179 : decode cX5_dayOf 179 = .ok (.iload_n 1, 1) := by decide +kernel
theorem dX5_dayOf_180 : decode cX5_dayOf 180 = .ok (.iconst 1, 1) := by decide +kernel
theorem dX5_dayOf_181 : decode cX5_dayOf 181 = .ok (.invokevirtual 58, 3) := by decide +kernel
theorem dX5_dayOf_184 : decode cX5_dayOf 184 = .ok (.invokevirtual 68, 3) := by decide +kernel
theorem dX5_dayOf_187 : decode cX5_dayOf 187 = .ok (.aload_n 0, 1) := by decide +kernel
theorem dX5_dayOf_188 : decode cX5_dayOf 188 = .ok (.getfield 7, 3) := by decide +kernel
theorem dX5_dayOf_191 : decode cX5_dayOf 191 = .ok (.bipush 6, 2) := by decide +kernel
theorem dX5_dayOf_193 : decode cX5_dayOf 193 = .ok (.dup2, 1) := by decide +kernel
theorem dX5_dayOf_194 : decode cX5_dayOf 194 = .ok (.iaload, 1) := by decide +kernel
theorem dX5_dayOf_195 : decode cX5_dayOf 195 = .ok (.iload 4, 2) := by decide +kernel
theorem dX5_dayOf_197 : decode cX5_dayOf 197 = .ok (.ifCond .eq 12, 3) := by decide +kernel
theorem dX5_dayOf_200 : decode cX5_dayOf 200 = .ok (.aload_n 0, 1) := by decide +kernel
theorem dX5_dayOf_201 : decode cX5_dayOf 201 = .ok (.iload_n 1, 1) := by decide +kernel
theorem dX5_dayOf_202 : decode cX5_dayOf 202 = .ok (.iconst 0, 1) := by decide +kernel
theorem dX5_dayOf_203 : decode cX5_dayOf 203 = .ok (.invokevirtual 58, 3) := by decide +kernel
theorem dX5_dayOf_206 : decode cX5_dayOf 206 = .ok (.goto 4, 3) := by decide +kernel
theorem dX5_dayOf_209 : decode cX5_dayOf 209 = .ok (.iconst 0, 1) := by decide +kernel
theorem dX5_dayOf_210 : decode cX5_dayOf 210 = .ok (.iadd, 1) := by decide +kernel
theorem dX5_dayOf_211 : decode cX5_dayOf 211 = .ok (.iastore, 1) := by decide +kernel
theorem dX5_dayOf_212 : decode cX5_dayOf 212 = .ok (.aload_n 0, 1) := by decide +kernel
theorem dX5_dayOf_213 : decode cX5_dayOf 213 = .ok (.iload_n 1, 1) := by decide +kernel
theorem dX5_dayOf_214 : decode cX5_dayOf 214 = .ok (.iconst 3, 1) := by decide +kernel
theorem dX5_dayOf_215 : decode cX5_dayOf 215 = .ok (.aload_n 0, 1) := by decide +kernel
theorem dX5_dayOf_216 : decode cX5_dayOf 216 = .ok (.iload_n 1, 1) := by decide +kernel
theorem dX5_dayOf_217 : decode cX5_dayOf 217 = .ok (.iconst 3, 1) := by decide +kernel
theorem dX5_dayOf_218 : decode cX5_dayOf 218 = .ok (.invokevirtual 58, 3) := by decide +kernel
theorem dX5_dayOf_221 : decode cX5_dayOf 221 = .ok (.iload_n 2, 1) := by decide +kernel
theorem dX5_dayOf_222 : decode cX5_dayOf 222 = .ok (.ifCond .eq 7, 3) := by decide +kernel
theorem dX5_dayOf_225 : decode cX5_dayOf 225 = .ok (.iconst 1, 1) := by decide +kernel
theorem dX5_dayOf_226 : decode cX5_dayOf 226 = .ok (.goto 4, 3) := by decide +kernel
theorem dX5_dayOf_229 : decode cX5_dayOf 229 = .ok (.iconst 0, 1) := by decide +kernel
theorem dX5_dayOf_230 : decode cX5_dayOf 230 = .ok (.iadd, 1) := by decide +kernel
theorem dX5_dayOf_231 : decode cX5_dayOf 231 = .ok (.invokevirtual 68, 3) := by decide +kernel
theorem dX5_dayOf_234 : decode cX5_dayOf 234 = .ok (.iload 4, 2) := by decide +kernel
theorem dX5_dayOf_236 : decode cX5_dayOf 236 = .ok (.ireturn, 1) := by decide +kernel
theorem dX5_dayNow_0 : decode cX5_dayNow 0 = .ok (.iconst 0, 1) := by decide +kernel
theorem dX5_dayNow_1 : decode cX5_dayNow 1 = .ok (.istore_n 1, 1) := by decide +kernel
theorem dX5_dayNow_2 : decode cX5_dayNow 2 = .ok (.iconst 0, 1) := by decide +kernel
theorem dX5_dayNow_3 : decode cX5_dayNow 3 = .ok (.istore_n 2, 1) := by decide +kernel
theorem dX5_dayNow_4 : decode cX5_dayNow 4 = .ok (.iload_n 2, 1) := by decide +kernel
theorem dX5_dayNow_5 : decode cX5_dayNow 5 = .ok (.aload_n 0, 1) := by decide +kernel
theorem dX5_dayNow_6 : decode cX5_dayNow 6 = .ok (.getfield 7, 3) := by decide +kernel
theorem dX5_dayNow_9 : decode cX5_dayNow 9 = .ok (.bipush 7, 2) := by decide +kernel
theorem dX5_dayNow_11 : decode cX5_dayNow 11 = .ok (.iaload, 1) := by decide +kernel
theorem dX5_dayNow_12 : decode cX5_dayNow 12 = .ok (.if_icmp .ge 25, 3) := by decide +kernel
theorem dX5_dayNow_15 : decode cX5_dayNow 15 = .ok (.iload_n 1, 1) := by decide +kernel
theorem dX5_dayNow_16 : decode cX5_dayNow 16 = .ok (.aload_n 0, 1) := by decide +kernel
theorem dX5_dayNow_17 : decode cX5_dayNow 17 = .ok (.iload_n 2, 1) := by decide +kernel
theorem dX5_dayNow_18 : decode cX5_dayNow 18 = .ok (.invokevirtual 162, 3) := by decide +kernel
theorem dX5_dayNow_21 : decode cX5_dayNow 21 = .ok (.ifCond .eq 7, 3) := by decide +kernel
theorem dX5_dayNow_24 : decode cX5_dayNow 24 = .ok (.iconst 1, 1) := by decide +kernel
theorem dX5_dayNow_25 : decode cX5_dayNow 25 = .ok (.goto 4, 3) := by decide +kernel
theorem dX5_dayNow_28 : decode cX5_dayNow 28 = .ok (.iconst 0, 1) := by decide +kernel
theorem dX5_dayNow_29 : decode cX5_dayNow 29 = .ok (.iadd, 1) := by decide +kernel
theorem dX5_dayNow_30 : decode cX5_dayNow 30 = .ok (.istore_n 1, 1) := by decide +kernel
theorem dX5_dayNow_31 : decode cX5_dayNow 31 = .ok (.iinc 2 1, 3) := by decide +kernel
theorem dX5_dayNow_34 : decode cX5_dayNow 34 = .ok (.goto (-30), 3) := by decide +kernel
theorem dX5_dayNow_37 : decode cX5_dayNow 37 = .ok (.aload_n 0, 1) := by decide +kernel
theorem dX5_dayNow_38 : decode cX5_dayNow 38 = .ok (.getfield 7, 3) := by decide +kernel
theorem dX5_dayNow_41 : decode cX5_dayNow 41 = .ok (.iconst 5, 1) := by decide +kernel
theorem dX5_dayNow_42 : decode cX5_dayNow 42 = .ok (.dup2, 1) := by decide +kernel
theorem dX5_dayNow_43 : decode cX5_dayNow 43 = .ok (.iaload, 1) := by decide +kernel
theorem dX5_dayNow_44 : decode cX5_dayNow 44 = .ok (.iconst 1, 1) := by decide +kernel
theorem dX5_dayNow_45 : decode cX5_dayNow 45 = .ok (.iadd, 1) := by decide +kernel
theorem dX5_dayNow_46 : decode cX5_dayNow 46 = .ok (.iastore, 1) := by decide +kernel
theorem dX5_dayNow_47 : decode cX5_dayNow 47 = .ok (.iload_n 1, 1) := by decide +kernel
theorem dX5_dayNow_48 : decode cX5_dayNow 48 = .ok (.ireturn, 1) := by decide +kernel
theorem dX5_whyNotPass_0 : decode cX5_whyNotPass 0 = .ok (.iload_n 1, 1) := by decide +kernel
theorem dX5_whyNotPass_1 : decode cX5_whyNotPass 1 = .ok (.iconst 1, 1) := by decide +kernel
theorem dX5_whyNotPass_2 : decode cX5_whyNotPass 2 = .ok (.sipush 400, 3) := by decide +kernel
theorem dX5_whyNotPass_5 : decode cX5_whyNotPass 5 = .ok (.invokestatic 32, 3) := by decide +kernel
theorem dX5_whyNotPass_8 : decode cX5_whyNotPass 8 = .ok (.ifCond .ne 8, 3) := by decide +kernel
theorem dX5_whyNotPass_11 : decode cX5_whyNotPass 11 = .ok (.bipush (-2), 2) := by decide +kernel
theorem dX5_whyNotPass_13 : decode cX5_whyNotPass 13 = .ok (.goto 23, 3) := by decide +kernel
theorem dX5_whyNotPass_16 : decode cX5_whyNotPass 16 = .ok (.aload_n 0, 1) := by decide +kernel
theorem dX5_whyNotPass_17 : decode cX5_whyNotPass 17 = .ok (.getfield 7, 3) := by decide +kernel
theorem dX5_whyNotPass_20 : decode cX5_whyNotPass 20 = .ok (.iconst 5, 1) := by decide +kernel
theorem dX5_whyNotPass_21 : decode cX5_whyNotPass 21 = .ok (.iaload, 1) := by decide +kernel
theorem dX5_whyNotPass_22 : decode cX5_whyNotPass 22 = .ok (.iload_n 1, 1) := by decide +kernel
theorem dX5_whyNotPass_23 : decode cX5_whyNotPass 23 = .ok (.iadd, 1) := by decide +kernel
theorem dX5_whyNotPass_24 : decode cX5_whyNotPass 24 = .ok (.sipush 9999, 3) := by decide +kernel
theorem dX5_whyNotPass_27 : decode cX5_whyNotPass 27 = .ok (.if_icmp .le 8, 3) := by decide +kernel
theorem dX5_whyNotPass_30 : decode cX5_whyNotPass 30 = .ok (.bipush (-5), 2) := by decide +kernel
theorem dX5_whyNotPass_32 : decode cX5_whyNotPass 32 = .ok (.goto 4, 3) := by decide +kernel
theorem dX5_whyNotPass_35 : decode cX5_whyNotPass 35 = .ok (.iconst 0, 1) := by decide +kernel
theorem dX5_whyNotPass_36 : decode cX5_whyNotPass 36 = .ok (.ireturn, 1) := by decide +kernel
theorem dX5_passNow_0 : decode cX5_passNow 0 = .ok (.iconst 0, 1) := by decide +kernel
theorem dX5_passNow_1 : decode cX5_passNow 1 = .ok (.istore_n 2, 1) := by decide +kernel
theorem dX5_passNow_2 : decode cX5_passNow 2 = .ok (.iconst 0, 1) := by decide +kernel
theorem dX5_passNow_3 : decode cX5_passNow 3 = .ok (.istore_n 3, 1) := by decide +kernel
theorem dX5_passNow_4 : decode cX5_passNow 4 = .ok (.iload_n 3, 1) := by decide +kernel
theorem dX5_passNow_5 : decode cX5_passNow 5 = .ok (.iload_n 1, 1) := by decide +kernel
theorem dX5_passNow_6 : decode cX5_passNow 6 = .ok (.if_icmp .ge 16, 3) := by decide +kernel
theorem dX5_passNow_9 : decode cX5_passNow 9 = .ok (.iload_n 2, 1) := by decide +kernel
theorem dX5_passNow_10 : decode cX5_passNow 10 = .ok (.aload_n 0, 1) := by decide +kernel
theorem dX5_passNow_11 : decode cX5_passNow 11 = .ok (.invokevirtual 165, 3) := by decide +kernel
theorem dX5_passNow_14 : decode cX5_passNow 14 = .ok (.iadd, 1) := by decide +kernel
theorem dX5_passNow_15 : decode cX5_passNow 15 = .ok (.istore_n 2, 1) := by decide +kernel
theorem dX5_passNow_16 : decode cX5_passNow 16 = .ok (.iinc 3 1, 3) := by decide +kernel
theorem dX5_passNow_19 : decode cX5_passNow 19 = .ok (.goto (-15), 3) := by decide +kernel
theorem dX5_passNow_22 : decode cX5_passNow 22 = .ok (.iload_n 2, 1) := by decide +kernel
theorem dX5_passNow_23 : decode cX5_passNow 23 = .ok (.ireturn, 1) := by decide +kernel
theorem dX5_pass_0 : decode cX5_pass 0 = .ok (.aload_n 0, 1) := by decide +kernel
theorem dX5_pass_1 : decode cX5_pass 1 = .ok (.iload_n 1, 1) := by decide +kernel
theorem dX5_pass_2 : decode cX5_pass 2 = .ok (.invokevirtual 169, 3) := by decide +kernel
theorem dX5_pass_5 : decode cX5_pass 5 = .ok (.istore_n 2, 1) := by decide +kernel
theorem dX5_pass_6 : decode cX5_pass 6 = .ok (.iload_n 2, 1) := by decide +kernel
theorem dX5_pass_7 : decode cX5_pass 7 = .ok (.ifCond .ge 5, 3) := by decide +kernel
theorem dX5_pass_10 : decode cX5_pass 10 = .ok (.iload_n 2, 1) := by decide +kernel
theorem dX5_pass_11 : decode cX5_pass 11 = .ok (.ireturn, 1) := by decide +kernel
theorem dX5_pass_12 : decode cX5_pass 12 = .ok (.aload_n 0, 1) := by decide +kernel
theorem dX5_pass_13 : decode cX5_pass 13 = .ok (.invokevirtual 44, 3) := by decide +kernel
theorem dX5_pass_16 : decode cX5_pass 16 = .ok (.aload_n 0, 1) := by decide +kernel
theorem dX5_pass_17 : decode cX5_pass 17 = .ok (.iload_n 1, 1) := by decide +kernel
theorem dX5_pass_18 : decode cX5_pass 18 = .ok (.invokevirtual 172, 3) := by decide +kernel
theorem dX5_pass_21 : decode cX5_pass 21 = .ok (.ireturn, 1) := by decide +kernel
theorem dX5_allClaimsTo_0 : decode cX5_allClaimsTo 0 = .ok (.iconst 0, 1) := by decide +kernel
theorem dX5_allClaimsTo_1 : decode cX5_allClaimsTo 1 = .ok (.istore_n 2, 1) := by decide +kernel
theorem dX5_allClaimsTo_2 : decode cX5_allClaimsTo 2 = .ok (.iconst 0, 1) := by decide +kernel
theorem dX5_allClaimsTo_3 : decode cX5_allClaimsTo 3 = .ok (.istore_n 3, 1) := by decide +kernel
theorem dX5_allClaimsTo_4 : decode cX5_allClaimsTo 4 = .ok (.iload_n 3, 1) := by decide +kernel
theorem dX5_allClaimsTo_5 : decode cX5_allClaimsTo 5 = .ok (.iconst 5, 1) := by decide +kernel
theorem dX5_allClaimsTo_6 : decode cX5_allClaimsTo 6 = .ok (.if_icmp .gt 18, 3) := by decide +kernel
theorem dX5_allClaimsTo_9 : decode cX5_allClaimsTo 9 = .ok (.iload_n 2, 1) := by decide +kernel
theorem dX5_allClaimsTo_10 : decode cX5_allClaimsTo 10 = .ok (.aload_n 0, 1) := by decide +kernel
theorem dX5_allClaimsTo_11 : decode cX5_allClaimsTo 11 = .ok (.iload_n 1, 1) := by decide +kernel
theorem dX5_allClaimsTo_12 : decode cX5_allClaimsTo 12 = .ok (.iload_n 3, 1) := by decide +kernel
theorem dX5_allClaimsTo_13 : decode cX5_allClaimsTo 13 = .ok (.invokevirtual 51, 3) := by decide +kernel
theorem dX5_allClaimsTo_16 : decode cX5_allClaimsTo 16 = .ok (.ior, 1) := by decide +kernel
theorem dX5_allClaimsTo_17 : decode cX5_allClaimsTo 17 = .ok (.istore_n 2, 1) := by decide +kernel
theorem dX5_allClaimsTo_18 : decode cX5_allClaimsTo 18 = .ok (.iinc 3 1, 3) := by decide +kernel
theorem dX5_allClaimsTo_21 : decode cX5_allClaimsTo 21 = .ok (.goto (-17), 3) := by decide +kernel
theorem dX5_allClaimsTo_24 : decode cX5_allClaimsTo 24 = .ok (.iload_n 2, 1) := by decide +kernel
theorem dX5_allClaimsTo_25 : decode cX5_allClaimsTo 25 = .ok (.ireturn, 1) := by decide +kernel
theorem dX5_of_0 : decode cX5_of 0 = .ok (.aload_n 0, 1) := by decide +kernel
theorem dX5_of_1 : decode cX5_of 1 = .ok (.iload_n 1, 1) := by decide +kernel
theorem dX5_of_2 : decode cX5_of 2 = .ok (.invokevirtual 78, 3) := by decide +kernel
theorem dX5_of_5 : decode cX5_of 5 = .ok (.ifCond .ne 5, 3) := by decide +kernel
theorem dX5_of_8 : decode cX5_of 8 = .ok (.iconst (-1), 1) := by decide +kernel
theorem dX5_of_9 : decode cX5_of 9 = .ok (.ireturn, 1) := by decide +kernel
theorem dX5_of_10 : decode cX5_of 10 = .ok (.iload_n 2, 1) := by decide +kernel
theorem dX5_of_11 : decode cX5_of 11 = .ok (.tableswitch 71 0 6 #[41, 41, 41, 41, 48, 54, 60], 41) := by decide +kernel
theorem dX5_of_52 : decode cX5_of 52 = .ok (.aload_n 0, 1) := by decide +kernel
theorem dX5_of_53 : decode cX5_of 53 = .ok (.iload_n 1, 1) := by decide +kernel
theorem dX5_of_54 : decode cX5_of 54 = .ok (.iload_n 2, 1) := by decide +kernel
theorem dX5_of_55 : decode cX5_of 55 = .ok (.invokevirtual 58, 3) := by decide +kernel
theorem dX5_of_58 : decode cX5_of 58 = .ok (.ireturn, 1) := by decide +kernel
theorem dX5_of_59 : decode cX5_of 59 = .ok (.aload_n 0, 1) := by decide +kernel
theorem dX5_of_60 : decode cX5_of 60 = .ok (.iload_n 1, 1) := by decide +kernel
theorem dX5_of_61 : decode cX5_of 61 = .ok (.invokevirtual 131, 3) := by decide +kernel
theorem dX5_of_64 : decode cX5_of 64 = .ok (.ireturn, 1) := by decide +kernel
theorem dX5_of_65 : decode cX5_of 65 = .ok (.aload_n 0, 1) := by decide +kernel
theorem dX5_of_66 : decode cX5_of 66 = .ok (.iload_n 1, 1) := by decide +kernel
theorem dX5_of_67 : decode cX5_of 67 = .ok (.invokevirtual 175, 3) := by decide +kernel
theorem dX5_of_70 : decode cX5_of 70 = .ok (.ireturn, 1) := by decide +kernel
theorem dX5_of_71 : decode cX5_of 71 = .ok (.aload_n 0, 1) := by decide +kernel
theorem dX5_of_72 : decode cX5_of 72 = .ok (.aload_n 0, 1) := by decide +kernel
theorem dX5_of_73 : decode cX5_of 73 = .ok (.iload_n 1, 1) := by decide +kernel
theorem dX5_of_74 : decode cX5_of 74 = .ok (.iconst 1, 1) := by decide +kernel
theorem dX5_of_75 : decode cX5_of 75 = .ok (.invokevirtual 51, 3) := by decide +kernel
theorem dX5_of_78 : decode cX5_of 78 = .ok (.invokevirtual 54, 3) := by decide +kernel
theorem dX5_of_81 : decode cX5_of 81 = .ok (.ireturn, 1) := by decide +kernel
theorem dX5_of_82 : decode cX5_of 82 = .ok (.bipush (-2), 2) := by decide +kernel
theorem dX5_of_84 : decode cX5_of 84 = .ok (.ireturn, 1) := by decide +kernel
theorem dX5_ofClaim_0 : decode cX5_ofClaim 0 = .ok (.aload_n 0, 1) := by decide +kernel
theorem dX5_ofClaim_1 : decode cX5_ofClaim 1 = .ok (.iload_n 1, 1) := by decide +kernel
theorem dX5_ofClaim_2 : decode cX5_ofClaim 2 = .ok (.invokevirtual 113, 3) := by decide +kernel
theorem dX5_ofClaim_5 : decode cX5_ofClaim 5 = .ok (.ifCond .ne 5, 3) := by decide +kernel
theorem dX5_ofClaim_8 : decode cX5_ofClaim 8 = .ok (.iconst (-1), 1) := by decide +kernel
theorem dX5_ofClaim_9 : decode cX5_ofClaim 9 = .ok (.ireturn, 1) := by decide +kernel
theorem dX5_ofClaim_10 : decode cX5_ofClaim 10 = .ok (.iload_n 2, 1) := by decide +kernel
theorem dX5_ofClaim_11 : decode cX5_ofClaim 11 = .ok (.iconst 0, 1) := by decide +kernel
theorem dX5_ofClaim_12 : decode cX5_ofClaim 12 = .ok (.bipush 6, 2) := by decide +kernel
theorem dX5_ofClaim_14 : decode cX5_ofClaim 14 = .ok (.invokestatic 32, 3) := by decide +kernel
theorem dX5_ofClaim_17 : decode cX5_ofClaim 17 = .ok (.ifCond .eq 12, 3) := by decide +kernel
theorem dX5_ofClaim_20 : decode cX5_ofClaim 20 = .ok (.aload_n 0, 1) := by decide +kernel
theorem dX5_ofClaim_21 : decode cX5_ofClaim 21 = .ok (.iload_n 1, 1) := by decide +kernel
theorem dX5_ofClaim_22 : decode cX5_ofClaim 22 = .ok (.iload_n 2, 1) := by decide +kernel
theorem dX5_ofClaim_23 : decode cX5_ofClaim 23 = .ok (.invokevirtual 47, 3) := by decide +kernel
theorem dX5_ofClaim_26 : decode cX5_ofClaim 26 = .ok (.goto 5, 3) := by decide +kernel
theorem dX5_ofClaim_29 : decode cX5_ofClaim 29 = .ok (.bipush (-2), 2) := by decide +kernel
theorem dX5_ofClaim_31 : decode cX5_ofClaim 31 = .ok (.ireturn, 1) := by decide +kernel
theorem dX5_claimsOf_0 : decode cX5_claimsOf 0 = .ok (.iconst 0, 1) := by decide +kernel
theorem dX5_claimsOf_1 : decode cX5_claimsOf 1 = .ok (.istore_n 3, 1) := by decide +kernel
theorem dX5_claimsOf_2 : decode cX5_claimsOf 2 = .ok (.iconst 0, 1) := by decide +kernel
theorem dX5_claimsOf_3 : decode cX5_claimsOf 3 = .ok (.istore 4, 2) := by decide +kernel
theorem dX5_claimsOf_5 : decode cX5_claimsOf 5 = .ok (.iload 4, 2) := by decide +kernel
theorem dX5_claimsOf_7 : decode cX5_claimsOf 7 = .ok (.aload_n 0, 1) := by decide +kernel
theorem dX5_claimsOf_8 : decode cX5_claimsOf 8 = .ok (.getfield 7, 3) := by decide +kernel
theorem dX5_claimsOf_11 : decode cX5_claimsOf 11 = .ok (.bipush 8, 2) := by decide +kernel
theorem dX5_claimsOf_13 : decode cX5_claimsOf 13 = .ok (.iaload, 1) := by decide +kernel
theorem dX5_claimsOf_14 : decode cX5_claimsOf 14 = .ok (.if_icmp .ge 44, 3) := by decide +kernel
theorem dX5_claimsOf_17 : decode cX5_claimsOf 17 = .ok (.iload_n 3, 1) := by decide +kernel
theorem dX5_claimsOf_18 : decode cX5_claimsOf 18 = .ok (.aload_n 0, 1) := by decide +kernel
theorem dX5_claimsOf_19 : decode cX5_claimsOf 19 = .ok (.iload 4, 2) := by decide +kernel
theorem dX5_claimsOf_21 : decode cX5_claimsOf 21 = .ok (.iconst 0, 1) := by decide +kernel
theorem dX5_claimsOf_22 : decode cX5_claimsOf 22 = .ok (.invokevirtual 47, 3) := by decide +kernel
theorem dX5_claimsOf_25 : decode cX5_claimsOf 25 = .ok (.iload_n 1, 1) := by decide +kernel
theorem dX5_claimsOf_26 : decode cX5_claimsOf 26 = .ok (.if_icmp .ne 23, 3) := by decide +kernel
theorem dX5_claimsOf_29 : decode cX5_claimsOf 29 = .ok (.iload_n 2, 1) := by decide +kernel
theorem dX5_claimsOf_30 : decode cX5_claimsOf 30 = .ok (.ifCond .eq 12, 3) := by decide +kernel
theorem dX5_claimsOf_33 : decode cX5_claimsOf 33 = .ok (.aload_n 0, 1) := by decide +kernel
theorem dX5_claimsOf_34 : decode cX5_claimsOf 34 = .ok (.iload 4, 2) := by decide +kernel
theorem dX5_claimsOf_36 : decode cX5_claimsOf 36 = .ok (.invokevirtual 91, 3) := by decide +kernel
theorem dX5_claimsOf_39 : decode cX5_claimsOf 39 = .ok (.ifCond .eq 10, 3) := by decide +kernel
theorem dX5_claimsOf_42 : decode cX5_claimsOf 42 = .ok (.iconst 1, 1) := by decide +kernel
theorem dX5_claimsOf_43 : decode cX5_claimsOf 43 = .ok (.iload 4, 2) := by decide +kernel
theorem dX5_claimsOf_45 : decode cX5_claimsOf 45 = .ok (.ishl, 1) := by decide +kernel
theorem dX5_claimsOf_46 : decode cX5_claimsOf 46 = .ok (.goto 4, 3) := by decide +kernel
theorem dX5_claimsOf_49 : decode cX5_claimsOf 49 = .ok (.iconst 0, 1) := by decide +kernel
theorem dX5_claimsOf_50 : decode cX5_claimsOf 50 = .ok (.ior, 1) := by decide +kernel
theorem dX5_claimsOf_51 : decode cX5_claimsOf 51 = .ok (.istore_n 3, 1) := by decide +kernel
theorem dX5_claimsOf_52 : decode cX5_claimsOf 52 = .ok (.iinc 4 1, 3) := by decide +kernel
theorem dX5_claimsOf_55 : decode cX5_claimsOf 55 = .ok (.goto (-50), 3) := by decide +kernel
theorem dX5_claimsOf_58 : decode cX5_claimsOf 58 = .ok (.iload_n 3, 1) := by decide +kernel
theorem dX5_claimsOf_59 : decode cX5_claimsOf 59 = .ok (.ireturn, 1) := by decide +kernel
theorem dX5_lotsGot_0 : decode cX5_lotsGot 0 = .ok (.iconst 0, 1) := by decide +kernel
theorem dX5_lotsGot_1 : decode cX5_lotsGot 1 = .ok (.istore_n 2, 1) := by decide +kernel
theorem dX5_lotsGot_2 : decode cX5_lotsGot 2 = .ok (.iconst 0, 1) := by decide +kernel
theorem dX5_lotsGot_3 : decode cX5_lotsGot 3 = .ok (.istore_n 3, 1) := by decide +kernel
theorem dX5_lotsGot_4 : decode cX5_lotsGot 4 = .ok (.iload_n 3, 1) := by decide +kernel
theorem dX5_lotsGot_5 : decode cX5_lotsGot 5 = .ok (.aload_n 0, 1) := by decide +kernel
theorem dX5_lotsGot_6 : decode cX5_lotsGot 6 = .ok (.getfield 7, 3) := by decide +kernel
theorem dX5_lotsGot_9 : decode cX5_lotsGot 9 = .ok (.bipush 8, 2) := by decide +kernel
theorem dX5_lotsGot_11 : decode cX5_lotsGot 11 = .ok (.iaload, 1) := by decide +kernel
theorem dX5_lotsGot_12 : decode cX5_lotsGot 12 = .ok (.if_icmp .ge 44, 3) := by decide +kernel
theorem dX5_lotsGot_15 : decode cX5_lotsGot 15 = .ok (.iload_n 2, 1) := by decide +kernel
theorem dX5_lotsGot_16 : decode cX5_lotsGot 16 = .ok (.aload_n 0, 1) := by decide +kernel
theorem dX5_lotsGot_17 : decode cX5_lotsGot 17 = .ok (.iload_n 3, 1) := by decide +kernel
theorem dX5_lotsGot_18 : decode cX5_lotsGot 18 = .ok (.iconst 0, 1) := by decide +kernel
theorem dX5_lotsGot_19 : decode cX5_lotsGot 19 = .ok (.invokevirtual 47, 3) := by decide +kernel
theorem dX5_lotsGot_22 : decode cX5_lotsGot 22 = .ok (.iload_n 1, 1) := by decide +kernel
theorem dX5_lotsGot_23 : decode cX5_lotsGot 23 = .ok (.if_icmp .ne 24, 3) := by decide +kernel
theorem dX5_lotsGot_26 : decode cX5_lotsGot 26 = .ok (.aload_n 0, 1) := by decide +kernel
theorem dX5_lotsGot_27 : decode cX5_lotsGot 27 = .ok (.iload_n 3, 1) := by decide +kernel
theorem dX5_lotsGot_28 : decode cX5_lotsGot 28 = .ok (.bipush 6, 2) := by decide +kernel
theorem dX5_lotsGot_30 : decode cX5_lotsGot 30 = .ok (.invokevirtual 47, 3) := by decide +kernel
theorem dX5_lotsGot_33 : decode cX5_lotsGot 33 = .ok (.ifCond .le 14, 3) := by decide +kernel
theorem dX5_lotsGot_36 : decode cX5_lotsGot 36 = .ok (.iconst 1, 1) := by decide +kernel
theorem dX5_lotsGot_37 : decode cX5_lotsGot 37 = .ok (.aload_n 0, 1) := by decide +kernel
theorem dX5_lotsGot_38 : decode cX5_lotsGot 38 = .ok (.iload_n 3, 1) := by decide +kernel
theorem dX5_lotsGot_39 : decode cX5_lotsGot 39 = .ok (.iconst 1, 1) := by decide +kernel
theorem dX5_lotsGot_40 : decode cX5_lotsGot 40 = .ok (.invokevirtual 47, 3) := by decide +kernel
theorem dX5_lotsGot_43 : decode cX5_lotsGot 43 = .ok (.ishl, 1) := by decide +kernel
theorem dX5_lotsGot_44 : decode cX5_lotsGot 44 = .ok (.goto 4, 3) := by decide +kernel
theorem dX5_lotsGot_47 : decode cX5_lotsGot 47 = .ok (.iconst 0, 1) := by decide +kernel
theorem dX5_lotsGot_48 : decode cX5_lotsGot 48 = .ok (.ior, 1) := by decide +kernel
theorem dX5_lotsGot_49 : decode cX5_lotsGot 49 = .ok (.istore_n 2, 1) := by decide +kernel
theorem dX5_lotsGot_50 : decode cX5_lotsGot 50 = .ok (.iinc 3 1, 3) := by decide +kernel
theorem dX5_lotsGot_53 : decode cX5_lotsGot 53 = .ok (.goto (-49), 3) := by decide +kernel
theorem dX5_lotsGot_56 : decode cX5_lotsGot 56 = .ok (.iload_n 2, 1) := by decide +kernel
theorem dX5_lotsGot_57 : decode cX5_lotsGot 57 = .ok (.ireturn, 1) := by decide +kernel
theorem dX5_heir_0 : decode cX5_heir 0 = .ok (.iload_n 1, 1) := by decide +kernel
theorem dX5_heir_1 : decode cX5_heir 1 = .ok (.invokestatic 94, 3) := by decide +kernel
theorem dX5_heir_4 : decode cX5_heir 4 = .ok (.ifCond .ne 5, 3) := by decide +kernel
theorem dX5_heir_7 : decode cX5_heir 7 = .ok (.iconst (-1), 1) := by decide +kernel
theorem dX5_heir_8 : decode cX5_heir 8 = .ok (.ireturn, 1) := by decide +kernel
theorem dX5_heir_9 : decode cX5_heir 9 = .ok (.iload_n 2, 1) := by decide +kernel
theorem dX5_heir_10 : decode cX5_heir 10 = .ok (.tableswitch 63 0 3 #[30, 41, 41, 57], 30) := by decide +kernel
theorem dX5_heir_40 : decode cX5_heir 40 = .ok (.aload_n 0, 1) := by decide +kernel
theorem dX5_heir_41 : decode cX5_heir 41 = .ok (.getfield 7, 3) := by decide +kernel
theorem dX5_heir_44 : decode cX5_heir 44 = .ok (.sipush 268, 3) := by decide +kernel
theorem dX5_heir_47 : decode cX5_heir 47 = .ok (.iload_n 1, 1) := by decide +kernel
theorem dX5_heir_48 : decode cX5_heir 48 = .ok (.iadd, 1) := by decide +kernel
theorem dX5_heir_49 : decode cX5_heir 49 = .ok (.iaload, 1) := by decide +kernel
theorem dX5_heir_50 : decode cX5_heir 50 = .ok (.ireturn, 1) := by decide +kernel
theorem dX5_heir_51 : decode cX5_heir 51 = .ok (.aload_n 0, 1) := by decide +kernel
theorem dX5_heir_52 : decode cX5_heir 52 = .ok (.iload_n 1, 1) := by decide +kernel
theorem dX5_heir_53 : decode cX5_heir 53 = .ok (.iload_n 2, 1) := by decide +kernel
theorem dX5_heir_54 : decode cX5_heir 54 = .ok (.iconst 2, 1) := by decide +kernel
theorem dX5_heir_55 : decode cX5_heir 55 = .ok (.if_icmp .ne 7, 3) := by decide +kernel
theorem dX5_heir_58 : decode cX5_heir 58 = .ok (.iconst 1, 1) := by decide +kernel
theorem dX5_heir_59 : decode cX5_heir 59 = .ok (.goto 4, 3) := by decide +kernel
theorem dX5_heir_62 : decode cX5_heir 62 = .ok (.iconst 0, 1) := by decide +kernel
theorem dX5_heir_63 : decode cX5_heir 63 = .ok (.invokevirtual 178, 3) := by decide +kernel
theorem dX5_heir_66 : decode cX5_heir 66 = .ok (.ireturn, 1) := by decide +kernel
theorem dX5_heir_67 : decode cX5_heir 67 = .ok (.aload_n 0, 1) := by decide +kernel
theorem dX5_heir_68 : decode cX5_heir 68 = .ok (.iload_n 1, 1) := by decide +kernel
theorem dX5_heir_69 : decode cX5_heir 69 = .ok (.invokevirtual 182, 3) := by decide +kernel
theorem dX5_heir_72 : decode cX5_heir 72 = .ok (.ireturn, 1) := by decide +kernel
theorem dX5_heir_73 : decode cX5_heir 73 = .ok (.bipush (-2), 2) := by decide +kernel
theorem dX5_heir_75 : decode cX5_heir 75 = .ok (.ireturn, 1) := by decide +kernel
theorem dX5_paid_0 : decode cX5_paid 0 = .ok (.iload_n 1, 1) := by decide +kernel
theorem dX5_paid_1 : decode cX5_paid 1 = .ok (.iconst 0, 1) := by decide +kernel
theorem dX5_paid_2 : decode cX5_paid 2 = .ok (.aload_n 0, 1) := by decide +kernel
theorem dX5_paid_3 : decode cX5_paid 3 = .ok (.getfield 7, 3) := by decide +kernel
theorem dX5_paid_6 : decode cX5_paid 6 = .ok (.bipush 9, 2) := by decide +kernel
theorem dX5_paid_8 : decode cX5_paid 8 = .ok (.iaload, 1) := by decide +kernel
theorem dX5_paid_9 : decode cX5_paid 9 = .ok (.iconst 1, 1) := by decide +kernel
theorem dX5_paid_10 : decode cX5_paid 10 = .ok (.isub, 1) := by decide +kernel
theorem dX5_paid_11 : decode cX5_paid 11 = .ok (.invokestatic 32, 3) := by decide +kernel
theorem dX5_paid_14 : decode cX5_paid 14 = .ok (.ifCond .eq 16, 3) := by decide +kernel
theorem dX5_paid_17 : decode cX5_paid 17 = .ok (.aload_n 0, 1) := by decide +kernel
theorem dX5_paid_18 : decode cX5_paid 18 = .ok (.getfield 7, 3) := by decide +kernel
theorem dX5_paid_21 : decode cX5_paid 21 = .ok (.sipush 284, 3) := by decide +kernel
theorem dX5_paid_24 : decode cX5_paid 24 = .ok (.iload_n 1, 1) := by decide +kernel
theorem dX5_paid_25 : decode cX5_paid 25 = .ok (.iadd, 1) := by decide +kernel
theorem dX5_paid_26 : decode cX5_paid 26 = .ok (.iaload, 1) := by decide +kernel
theorem dX5_paid_27 : decode cX5_paid 27 = .ok (.goto 4, 3) := by decide +kernel
theorem dX5_paid_30 : decode cX5_paid 30 = .ok (.iconst (-1), 1) := by decide +kernel
theorem dX5_paid_31 : decode cX5_paid 31 = .ok (.ireturn, 1) := by decide +kernel
theorem dX5_valueOf_0 : decode cX5_valueOf 0 = .ok (.iconst 0, 1) := by decide +kernel
theorem dX5_valueOf_1 : decode cX5_valueOf 1 = .ok (.istore_n 2, 1) := by decide +kernel
theorem dX5_valueOf_2 : decode cX5_valueOf 2 = .ok (.iconst 0, 1) := by decide +kernel
theorem dX5_valueOf_3 : decode cX5_valueOf 3 = .ok (.istore_n 3, 1) := by decide +kernel
theorem dX5_valueOf_4 : decode cX5_valueOf 4 = .ok (.iload_n 3, 1) := by decide +kernel
theorem dX5_valueOf_5 : decode cX5_valueOf 5 = .ok (.aload_n 0, 1) := by decide +kernel
theorem dX5_valueOf_6 : decode cX5_valueOf 6 = .ok (.getfield 7, 3) := by decide +kernel
theorem dX5_valueOf_9 : decode cX5_valueOf 9 = .ok (.bipush 7, 2) := by decide +kernel
theorem dX5_valueOf_11 : decode cX5_valueOf 11 = .ok (.iaload, 1) := by decide +kernel
theorem dX5_valueOf_12 : decode cX5_valueOf 12 = .ok (.if_icmp .ge 31, 3) := by decide +kernel
theorem dX5_valueOf_15 : decode cX5_valueOf 15 = .ok (.iload_n 2, 1) := by decide +kernel
theorem dX5_valueOf_16 : decode cX5_valueOf 16 = .ok (.iload_n 1, 1) := by decide +kernel
theorem dX5_valueOf_17 : decode cX5_valueOf 17 = .ok (.iload_n 3, 1) := by decide +kernel
theorem dX5_valueOf_18 : decode cX5_valueOf 18 = .ok (.ishr, 1) := by decide +kernel
theorem dX5_valueOf_19 : decode cX5_valueOf 19 = .ok (.iconst 1, 1) := by decide +kernel
theorem dX5_valueOf_20 : decode cX5_valueOf 20 = .ok (.iand, 1) := by decide +kernel
theorem dX5_valueOf_21 : decode cX5_valueOf 21 = .ok (.iconst 1, 1) := by decide +kernel
theorem dX5_valueOf_22 : decode cX5_valueOf 22 = .ok (.if_icmp .ne 12, 3) := by decide +kernel
theorem dX5_valueOf_25 : decode cX5_valueOf 25 = .ok (.aload_n 0, 1) := by decide +kernel
theorem dX5_valueOf_26 : decode cX5_valueOf 26 = .ok (.iload_n 3, 1) := by decide +kernel
theorem dX5_valueOf_27 : decode cX5_valueOf 27 = .ok (.iconst 0, 1) := by decide +kernel
theorem dX5_valueOf_28 : decode cX5_valueOf 28 = .ok (.invokevirtual 58, 3) := by decide +kernel
theorem dX5_valueOf_31 : decode cX5_valueOf 31 = .ok (.goto 4, 3) := by decide +kernel
theorem dX5_valueOf_34 : decode cX5_valueOf 34 = .ok (.iconst 0, 1) := by decide +kernel
theorem dX5_valueOf_35 : decode cX5_valueOf 35 = .ok (.iadd, 1) := by decide +kernel
theorem dX5_valueOf_36 : decode cX5_valueOf 36 = .ok (.istore_n 2, 1) := by decide +kernel
theorem dX5_valueOf_37 : decode cX5_valueOf 37 = .ok (.iinc 3 1, 3) := by decide +kernel
theorem dX5_valueOf_40 : decode cX5_valueOf 40 = .ok (.goto (-36), 3) := by decide +kernel
theorem dX5_valueOf_43 : decode cX5_valueOf 43 = .ok (.iload_n 2, 1) := by decide +kernel
theorem dX5_valueOf_44 : decode cX5_valueOf 44 = .ok (.ireturn, 1) := by decide +kernel
theorem dX5_purses_0 : decode cX5_purses 0 = .ok (.iconst 0, 1) := by decide +kernel
theorem dX5_purses_1 : decode cX5_purses 1 = .ok (.istore_n 1, 1) := by decide +kernel
theorem dX5_purses_2 : decode cX5_purses 2 = .ok (.iconst 0, 1) := by decide +kernel
theorem dX5_purses_3 : decode cX5_purses 3 = .ok (.istore_n 2, 1) := by decide +kernel
theorem dX5_purses_4 : decode cX5_purses 4 = .ok (.iload_n 2, 1) := by decide +kernel
theorem dX5_purses_5 : decode cX5_purses 5 = .ok (.bipush 16, 2) := by decide +kernel
theorem dX5_purses_7 : decode cX5_purses 7 = .ok (.if_icmp .ge 22, 3) := by decide +kernel
theorem dX5_purses_10 : decode cX5_purses 10 = .ok (.iload_n 1, 1) := by decide +kernel
theorem dX5_purses_11 : decode cX5_purses 11 = .ok (.aload_n 0, 1) := by decide +kernel
theorem dX5_purses_12 : decode cX5_purses 12 = .ok (.getfield 7, 3) := by decide +kernel
theorem dX5_purses_15 : decode cX5_purses 15 = .ok (.sipush 268, 3) := by decide +kernel
theorem dX5_purses_18 : decode cX5_purses 18 = .ok (.iload_n 2, 1) := by decide +kernel
theorem dX5_purses_19 : decode cX5_purses 19 = .ok (.iadd, 1) := by decide +kernel
theorem dX5_purses_20 : decode cX5_purses 20 = .ok (.iaload, 1) := by decide +kernel
theorem dX5_purses_21 : decode cX5_purses 21 = .ok (.iadd, 1) := by decide +kernel
theorem dX5_purses_22 : decode cX5_purses 22 = .ok (.istore_n 1, 1) := by decide +kernel
theorem dX5_purses_23 : decode cX5_purses 23 = .ok (.iinc 2 1, 3) := by decide +kernel
theorem dX5_purses_26 : decode cX5_purses 26 = .ok (.goto (-22), 3) := by decide +kernel
theorem dX5_purses_29 : decode cX5_purses 29 = .ok (.iload_n 1, 1) := by decide +kernel
theorem dX5_purses_30 : decode cX5_purses 30 = .ok (.ireturn, 1) := by decide +kernel
theorem dX5_standingClaims_0 : decode cX5_standingClaims 0 = .ok (.iconst 0, 1) := by decide +kernel
theorem dX5_standingClaims_1 : decode cX5_standingClaims 1 = .ok (.istore_n 1, 1) := by decide +kernel
theorem dX5_standingClaims_2 : decode cX5_standingClaims 2 = .ok (.iconst 0, 1) := by decide +kernel
theorem dX5_standingClaims_3 : decode cX5_standingClaims 3 = .ok (.istore_n 2, 1) := by decide +kernel
theorem dX5_standingClaims_4 : decode cX5_standingClaims 4 = .ok (.iload_n 2, 1) := by decide +kernel
theorem dX5_standingClaims_5 : decode cX5_standingClaims 5 = .ok (.bipush 16, 2) := by decide +kernel
theorem dX5_standingClaims_7 : decode cX5_standingClaims 7 = .ok (.if_icmp .ge 18, 3) := by decide +kernel
theorem dX5_standingClaims_10 : decode cX5_standingClaims 10 = .ok (.iload_n 1, 1) := by decide +kernel
theorem dX5_standingClaims_11 : decode cX5_standingClaims 11 = .ok (.aload_n 0, 1) := by decide +kernel
theorem dX5_standingClaims_12 : decode cX5_standingClaims 12 = .ok (.iload_n 2, 1) := by decide +kernel
theorem dX5_standingClaims_13 : decode cX5_standingClaims 13 = .ok (.iconst 1, 1) := by decide +kernel
theorem dX5_standingClaims_14 : decode cX5_standingClaims 14 = .ok (.invokevirtual 178, 3) := by decide +kernel
theorem dX5_standingClaims_17 : decode cX5_standingClaims 17 = .ok (.ior, 1) := by decide +kernel
theorem dX5_standingClaims_18 : decode cX5_standingClaims 18 = .ok (.istore_n 1, 1) := by decide +kernel
theorem dX5_standingClaims_19 : decode cX5_standingClaims 19 = .ok (.iinc 2 1, 3) := by decide +kernel
theorem dX5_standingClaims_22 : decode cX5_standingClaims 22 = .ok (.goto (-18), 3) := by decide +kernel
theorem dX5_standingClaims_25 : decode cX5_standingClaims 25 = .ok (.iload_n 1, 1) := by decide +kernel
theorem dX5_standingClaims_26 : decode cX5_standingClaims 26 = .ok (.ireturn, 1) := by decide +kernel
theorem dX5_heirsWhoClaimed_0 : decode cX5_heirsWhoClaimed 0 = .ok (.iconst 0, 1) := by decide +kernel
theorem dX5_heirsWhoClaimed_1 : decode cX5_heirsWhoClaimed 1 = .ok (.istore_n 1, 1) := by decide +kernel
theorem dX5_heirsWhoClaimed_2 : decode cX5_heirsWhoClaimed 2 = .ok (.iconst 0, 1) := by decide +kernel
theorem dX5_heirsWhoClaimed_3 : decode cX5_heirsWhoClaimed 3 = .ok (.istore_n 2, 1) := by decide +kernel
theorem dX5_heirsWhoClaimed_4 : decode cX5_heirsWhoClaimed 4 = .ok (.iload_n 2, 1) := by decide +kernel
theorem dX5_heirsWhoClaimed_5 : decode cX5_heirsWhoClaimed 5 = .ok (.bipush 16, 2) := by decide +kernel
theorem dX5_heirsWhoClaimed_7 : decode cX5_heirsWhoClaimed 7 = .ok (.if_icmp .ge 26, 3) := by decide +kernel
theorem dX5_heirsWhoClaimed_10 : decode cX5_heirsWhoClaimed 10 = .ok (.iload_n 1, 1) := by decide +kernel
theorem dX5_heirsWhoClaimed_11 : decode cX5_heirsWhoClaimed 11 = .ok (.aload_n 0, 1) := by decide +kernel
theorem dX5_heirsWhoClaimed_12 : decode cX5_heirsWhoClaimed 12 = .ok (.iload_n 2, 1) := by decide +kernel
theorem dX5_heirsWhoClaimed_13 : decode cX5_heirsWhoClaimed 13 = .ok (.iconst 0, 1) := by decide +kernel
theorem dX5_heirsWhoClaimed_14 : decode cX5_heirsWhoClaimed 14 = .ok (.invokevirtual 178, 3) := by decide +kernel
theorem dX5_heirsWhoClaimed_17 : decode cX5_heirsWhoClaimed 17 = .ok (.ifCond .eq 7, 3) := by decide +kernel
theorem dX5_heirsWhoClaimed_20 : decode cX5_heirsWhoClaimed 20 = .ok (.iconst 1, 1) := by decide +kernel
theorem dX5_heirsWhoClaimed_21 : decode cX5_heirsWhoClaimed 21 = .ok (.goto 4, 3) := by decide +kernel
theorem dX5_heirsWhoClaimed_24 : decode cX5_heirsWhoClaimed 24 = .ok (.iconst 0, 1) := by decide +kernel
theorem dX5_heirsWhoClaimed_25 : decode cX5_heirsWhoClaimed 25 = .ok (.iadd, 1) := by decide +kernel
theorem dX5_heirsWhoClaimed_26 : decode cX5_heirsWhoClaimed 26 = .ok (.istore_n 1, 1) := by decide +kernel
theorem dX5_heirsWhoClaimed_27 : decode cX5_heirsWhoClaimed 27 = .ok (.iinc 2 1, 3) := by decide +kernel
theorem dX5_heirsWhoClaimed_30 : decode cX5_heirsWhoClaimed 30 = .ok (.goto (-26), 3) := by decide +kernel
theorem dX5_heirsWhoClaimed_33 : decode cX5_heirsWhoClaimed 33 = .ok (.iload_n 1, 1) := by decide +kernel
theorem dX5_heirsWhoClaimed_34 : decode cX5_heirsWhoClaimed 34 = .ok (.ireturn, 1) := by decide +kernel
theorem dX5_count_0 : decode cX5_count 0 = .ok (.iload_n 1, 1) := by decide +kernel
theorem dX5_count_1 : decode cX5_count 1 = .ok (.tableswitch 197 0 20 #[99, 106, 114, 122, 122, 122, 122, 122, 130, 138, 154, 162, 167, 172, 177, 177, 177, 177, 177, 187, 192], 99) := by decide +kernel
theorem dX5_count_100 : decode cX5_count 100 = .ok (.aload_n 0, 1) := by decide +kernel
theorem dX5_count_101 : decode cX5_count 101 = .ok (.getfield 7, 3) := by decide +kernel
theorem dX5_count_104 : decode cX5_count 104 = .ok (.iconst 5, 1) := by decide +kernel
theorem dX5_count_105 : decode cX5_count 105 = .ok (.iaload, 1) := by decide +kernel
theorem dX5_count_106 : decode cX5_count 106 = .ok (.ireturn, 1) := by decide +kernel
theorem dX5_count_107 : decode cX5_count 107 = .ok (.aload_n 0, 1) := by decide +kernel
theorem dX5_count_108 : decode cX5_count 108 = .ok (.getfield 7, 3) := by decide +kernel
theorem dX5_count_111 : decode cX5_count 111 = .ok (.bipush 7, 2) := by decide +kernel
theorem dX5_count_113 : decode cX5_count 113 = .ok (.iaload, 1) := by decide +kernel
theorem dX5_count_114 : decode cX5_count 114 = .ok (.ireturn, 1) := by decide +kernel
theorem dX5_count_115 : decode cX5_count 115 = .ok (.aload_n 0, 1) := by decide +kernel
theorem dX5_count_116 : decode cX5_count 116 = .ok (.getfield 7, 3) := by decide +kernel
theorem dX5_count_119 : decode cX5_count 119 = .ok (.bipush 8, 2) := by decide +kernel
theorem dX5_count_121 : decode cX5_count 121 = .ok (.iaload, 1) := by decide +kernel
theorem dX5_count_122 : decode cX5_count 122 = .ok (.ireturn, 1) := by decide +kernel
theorem dX5_count_123 : decode cX5_count 123 = .ok (.aload_n 0, 1) := by decide +kernel
theorem dX5_count_124 : decode cX5_count 124 = .ok (.iload_n 1, 1) := by decide +kernel
theorem dX5_count_125 : decode cX5_count 125 = .ok (.iconst 3, 1) := by decide +kernel
theorem dX5_count_126 : decode cX5_count 126 = .ok (.isub, 1) := by decide +kernel
theorem dX5_count_127 : decode cX5_count 127 = .ok (.invokevirtual 82, 3) := by decide +kernel
theorem dX5_count_130 : decode cX5_count 130 = .ok (.ireturn, 1) := by decide +kernel
theorem dX5_count_131 : decode cX5_count 131 = .ok (.aload_n 0, 1) := by decide +kernel
theorem dX5_count_132 : decode cX5_count 132 = .ok (.sipush 4095, 3) := by decide +kernel
theorem dX5_count_135 : decode cX5_count 135 = .ok (.invokevirtual 185, 3) := by decide +kernel
theorem dX5_count_138 : decode cX5_count 138 = .ok (.ireturn, 1) := by decide +kernel
theorem dX5_count_139 : decode cX5_count 139 = .ok (.aload_n 0, 1) := by decide +kernel
theorem dX5_count_140 : decode cX5_count 140 = .ok (.aload_n 0, 1) := by decide +kernel
theorem dX5_count_141 : decode cX5_count 141 = .ok (.iconst 0, 1) := by decide +kernel
theorem dX5_count_142 : decode cX5_count 142 = .ok (.invokevirtual 82, 3) := by decide +kernel
theorem dX5_count_145 : decode cX5_count 145 = .ok (.aload_n 0, 1) := by decide +kernel
theorem dX5_count_146 : decode cX5_count 146 = .ok (.iconst 1, 1) := by decide +kernel
theorem dX5_count_147 : decode cX5_count 147 = .ok (.invokevirtual 82, 3) := by decide +kernel
theorem dX5_count_150 : decode cX5_count 150 = .ok (.ior, 1) := by decide +kernel
theorem dX5_count_151 : decode cX5_count 151 = .ok (.invokevirtual 185, 3) := by decide +kernel
theorem dX5_count_154 : decode cX5_count 154 = .ok (.ireturn, 1) := by decide +kernel
theorem dX5_count_155 : decode cX5_count 155 = .ok (.aload_n 0, 1) := by decide +kernel
theorem dX5_count_156 : decode cX5_count 156 = .ok (.getfield 7, 3) := by decide +kernel
theorem dX5_count_159 : decode cX5_count 159 = .ok (.bipush 6, 2) := by decide +kernel
theorem dX5_count_161 : decode cX5_count 161 = .ok (.iaload, 1) := by decide +kernel
theorem dX5_count_162 : decode cX5_count 162 = .ok (.ireturn, 1) := by decide +kernel
theorem dX5_count_163 : decode cX5_count 163 = .ok (.aload_n 0, 1) := by decide +kernel
theorem dX5_count_164 : decode cX5_count 164 = .ok (.invokevirtual 188, 3) := by decide +kernel
theorem dX5_count_167 : decode cX5_count 167 = .ok (.ireturn, 1) := by decide +kernel
theorem dX5_count_168 : decode cX5_count 168 = .ok (.aload_n 0, 1) := by decide +kernel
theorem dX5_count_169 : decode cX5_count 169 = .ok (.invokevirtual 191, 3) := by decide +kernel
theorem dX5_count_172 : decode cX5_count 172 = .ok (.ireturn, 1) := by decide +kernel
theorem dX5_count_173 : decode cX5_count 173 = .ok (.aload_n 0, 1) := by decide +kernel
theorem dX5_count_174 : decode cX5_count 174 = .ok (.invokevirtual 194, 3) := by decide +kernel
theorem dX5_count_177 : decode cX5_count 177 = .ok (.ireturn, 1) := by decide +kernel
theorem dX5_count_178 : decode cX5_count 178 = .ok (.aload_n 0, 1) := by decide +kernel
theorem dX5_count_179 : decode cX5_count 179 = .ok (.getfield 7, 3) := by decide +kernel
theorem dX5_count_182 : decode cX5_count 182 = .ok (.iload_n 1, 1) := by decide +kernel
theorem dX5_count_183 : decode cX5_count 183 = .ok (.bipush 14, 2) := by decide +kernel
theorem dX5_count_185 : decode cX5_count 185 = .ok (.isub, 1) := by decide +kernel
theorem dX5_count_186 : decode cX5_count 186 = .ok (.iaload, 1) := by decide +kernel
theorem dX5_count_187 : decode cX5_count 187 = .ok (.ireturn, 1) := by decide +kernel
theorem dX5_count_188 : decode cX5_count 188 = .ok (.aload_n 0, 1) := by decide +kernel
theorem dX5_count_189 : decode cX5_count 189 = .ok (.getfield 197, 3) := by decide +kernel
theorem dX5_count_192 : decode cX5_count 192 = .ok (.ireturn, 1) := by decide +kernel
theorem dX5_count_193 : decode cX5_count 193 = .ok (.aload_n 0, 1) := by decide +kernel
theorem dX5_count_194 : decode cX5_count 194 = .ok (.getfield 36, 3) := by decide +kernel
theorem dX5_count_197 : decode cX5_count 197 = .ok (.ireturn, 1) := by decide +kernel
theorem dX5_count_198 : decode cX5_count 198 = .ok (.bipush (-2), 2) := by decide +kernel
theorem dX5_count_200 : decode cX5_count 200 = .ok (.ireturn, 1) := by decide +kernel
theorem dX5_why_0 : decode cX5_why 0 = .ok (.aload_n 0, 1) := by decide +kernel
theorem dX5_why_1 : decode cX5_why 1 = .ok (.iload_n 1, 1) := by decide +kernel
theorem dX5_why_2 : decode cX5_why 2 = .ok (.invokevirtual 78, 3) := by decide +kernel
theorem dX5_why_5 : decode cX5_why 5 = .ok (.ifCond .ne 5, 3) := by decide +kernel
theorem dX5_why_8 : decode cX5_why 8 = .ok (.iconst (-1), 1) := by decide +kernel
theorem dX5_why_9 : decode cX5_why 9 = .ok (.ireturn, 1) := by decide +kernel
theorem dX5_why_10 : decode cX5_why 10 = .ok (.aload_n 0, 1) := by decide +kernel
theorem dX5_why_11 : decode cX5_why 11 = .ok (.iload_n 1, 1) := by decide +kernel
theorem dX5_why_12 : decode cX5_why 12 = .ok (.iconst 1, 1) := by decide +kernel
theorem dX5_why_13 : decode cX5_why 13 = .ok (.invokevirtual 58, 3) := by decide +kernel
theorem dX5_why_16 : decode cX5_why 16 = .ok (.iconst 1, 1) := by decide +kernel
theorem dX5_why_17 : decode cX5_why 17 = .ok (.if_icmp .eq 7, 3) := by decide +kernel
theorem dX5_why_20 : decode cX5_why 20 = .ok (.iconst 1, 1) := by decide +kernel
theorem dX5_why_21 : decode cX5_why 21 = .ok (.goto 30, 3) := by decide +kernel
theorem dX5_why_24 : decode cX5_why 24 = .ok (.aload_n 0, 1) := by decide +kernel
theorem dX5_why_25 : decode cX5_why 25 = .ok (.iload_n 1, 1) := by decide +kernel
theorem dX5_why_26 : decode cX5_why 26 = .ok (.iconst 0, 1) := by decide +kernel
theorem dX5_why_27 : decode cX5_why 27 = .ok (.invokevirtual 51, 3) := by decide +kernel
theorem dX5_why_30 : decode cX5_why 30 = .ok (.ifCond .eq 7, 3) := by decide +kernel
theorem dX5_why_33 : decode cX5_why 33 = .ok (.iconst 2, 1) := by decide +kernel
theorem dX5_why_34 : decode cX5_why 34 = .ok (.goto 17, 3) := by decide +kernel
theorem dX5_why_37 : decode cX5_why 37 = .ok (.aload_n 0, 1) := by decide +kernel
theorem dX5_why_38 : decode cX5_why 38 = .ok (.iload_n 1, 1) := by decide +kernel
theorem dX5_why_39 : decode cX5_why 39 = .ok (.iconst 1, 1) := by decide +kernel
theorem dX5_why_40 : decode cX5_why 40 = .ok (.invokevirtual 51, 3) := by decide +kernel
theorem dX5_why_43 : decode cX5_why 43 = .ok (.ifCond .eq 7, 3) := by decide +kernel
theorem dX5_why_46 : decode cX5_why 46 = .ok (.iconst 3, 1) := by decide +kernel
theorem dX5_why_47 : decode cX5_why 47 = .ok (.goto 4, 3) := by decide +kernel
theorem dX5_why_50 : decode cX5_why 50 = .ok (.iconst 0, 1) := by decide +kernel
theorem dX5_why_51 : decode cX5_why 51 = .ok (.ireturn, 1) := by decide +kernel
theorem dX5_daysToFall_0 : decode cX5_daysToFall 0 = .ok (.aload_n 0, 1) := by decide +kernel
theorem dX5_daysToFall_1 : decode cX5_daysToFall 1 = .ok (.getfield 7, 3) := by decide +kernel
theorem dX5_daysToFall_4 : decode cX5_daysToFall 4 = .ok (.iconst 0, 1) := by decide +kernel
theorem dX5_daysToFall_5 : decode cX5_daysToFall 5 = .ok (.aload_n 0, 1) := by decide +kernel
theorem dX5_daysToFall_6 : decode cX5_daysToFall 6 = .ok (.getfield 13, 3) := by decide +kernel
theorem dX5_daysToFall_9 : decode cX5_daysToFall 9 = .ok (.iconst 0, 1) := by decide +kernel
theorem dX5_daysToFall_10 : decode cX5_daysToFall 10 = .ok (.invokestatic 40, 3) := by decide +kernel
theorem dX5_daysToFall_13 : decode cX5_daysToFall 13 = .ok (.iconst 0, 1) := by decide +kernel
theorem dX5_daysToFall_14 : decode cX5_daysToFall 14 = .ok (.istore_n 2, 1) := by decide +kernel
theorem dX5_daysToFall_15 : decode cX5_daysToFall 15 = .ok (.iload_n 2, 1) := by decide +kernel
theorem dX5_daysToFall_16 : decode cX5_daysToFall 16 = .ok (.sipush 700, 3) := by decide +kernel
theorem dX5_daysToFall_19 : decode cX5_daysToFall 19 = .ok (.if_icmp .ge 25, 3) := by decide +kernel
theorem dX5_daysToFall_22 : decode cX5_daysToFall 22 = .ok (.aload_n 0, 1) := by decide +kernel
theorem dX5_daysToFall_23 : decode cX5_daysToFall 23 = .ok (.iload_n 1, 1) := by decide +kernel
theorem dX5_daysToFall_24 : decode cX5_daysToFall 24 = .ok (.iconst 1, 1) := by decide +kernel
theorem dX5_daysToFall_25 : decode cX5_daysToFall 25 = .ok (.invokevirtual 58, 3) := by decide +kernel
theorem dX5_daysToFall_28 : decode cX5_daysToFall 28 = .ok (.iconst 1, 1) := by decide +kernel
theorem dX5_daysToFall_29 : decode cX5_daysToFall 29 = .ok (.if_icmp .ne 15, 3) := by decide +kernel
theorem dX5_daysToFall_32 : decode cX5_daysToFall 32 = .ok (.aload_n 0, 1) := by decide +kernel
theorem dX5_daysToFall_33 : decode cX5_daysToFall 33 = .ok (.iload_n 1, 1) := by decide +kernel
theorem dX5_daysToFall_34 : decode cX5_daysToFall 34 = .ok (.invokevirtual 162, 3) := by decide +kernel
theorem dX5_daysToFall_37 : decode cX5_daysToFall 37 = .ok (.pop, 1) := by decide +kernel
theorem dX5_daysToFall_38 : decode cX5_daysToFall 38 = .ok (.iinc 2 1, 3) := by decide +kernel
theorem dX5_daysToFall_41 : decode cX5_daysToFall 41 = .ok (.goto (-26), 3) := by decide +kernel
theorem dX5_daysToFall_44 : decode cX5_daysToFall 44 = .ok (.aload_n 0, 1) := by decide +kernel
theorem dX5_daysToFall_45 : decode cX5_daysToFall 45 = .ok (.iload_n 1, 1) := by decide +kernel
theorem dX5_daysToFall_46 : decode cX5_daysToFall 46 = .ok (.iconst 1, 1) := by decide +kernel
theorem dX5_daysToFall_47 : decode cX5_daysToFall 47 = .ok (.invokevirtual 58, 3) := by decide +kernel
theorem dX5_daysToFall_50 : decode cX5_daysToFall 50 = .ok (.iconst 3, 1) := by decide +kernel
theorem dX5_daysToFall_51 : decode cX5_daysToFall 51 = .ok (.if_icmp .ne 7, 3) := by decide +kernel
theorem dX5_daysToFall_54 : decode cX5_daysToFall 54 = .ok (.iconst 1, 1) := by decide +kernel
theorem dX5_daysToFall_55 : decode cX5_daysToFall 55 = .ok (.goto 4, 3) := by decide +kernel
theorem dX5_daysToFall_58 : decode cX5_daysToFall 58 = .ok (.iconst 0, 1) := by decide +kernel
theorem dX5_daysToFall_59 : decode cX5_daysToFall 59 = .ok (.istore_n 3, 1) := by decide +kernel
theorem dX5_daysToFall_60 : decode cX5_daysToFall 60 = .ok (.aload_n 0, 1) := by decide +kernel
theorem dX5_daysToFall_61 : decode cX5_daysToFall 61 = .ok (.getfield 13, 3) := by decide +kernel
theorem dX5_daysToFall_64 : decode cX5_daysToFall 64 = .ok (.iconst 0, 1) := by decide +kernel
theorem dX5_daysToFall_65 : decode cX5_daysToFall 65 = .ok (.aload_n 0, 1) := by decide +kernel
theorem dX5_daysToFall_66 : decode cX5_daysToFall 66 = .ok (.getfield 7, 3) := by decide +kernel
theorem dX5_daysToFall_69 : decode cX5_daysToFall 69 = .ok (.iconst 0, 1) := by decide +kernel
theorem dX5_daysToFall_70 : decode cX5_daysToFall 70 = .ok (.invokestatic 40, 3) := by decide +kernel
theorem dX5_daysToFall_73 : decode cX5_daysToFall 73 = .ok (.iload_n 3, 1) := by decide +kernel
theorem dX5_daysToFall_74 : decode cX5_daysToFall 74 = .ok (.ifCond .eq 7, 3) := by decide +kernel
theorem dX5_daysToFall_77 : decode cX5_daysToFall 77 = .ok (.iload_n 2, 1) := by decide +kernel
theorem dX5_daysToFall_78 : decode cX5_daysToFall 78 = .ok (.goto 5, 3) := by decide +kernel
theorem dX5_daysToFall_81 : decode cX5_daysToFall 81 = .ok (.bipush (-6), 2) := by decide +kernel
theorem dX5_daysToFall_83 : decode cX5_daysToFall 83 = .ok (.ireturn, 1) := by decide +kernel
theorem dX5_fallsIn_0 : decode cX5_fallsIn 0 = .ok (.aload_n 0, 1) := by decide +kernel
theorem dX5_fallsIn_1 : decode cX5_fallsIn 1 = .ok (.iload_n 1, 1) := by decide +kernel
theorem dX5_fallsIn_2 : decode cX5_fallsIn 2 = .ok (.invokevirtual 78, 3) := by decide +kernel
theorem dX5_fallsIn_5 : decode cX5_fallsIn 5 = .ok (.ifCond .ne 7, 3) := by decide +kernel
theorem dX5_fallsIn_8 : decode cX5_fallsIn 8 = .ok (.iconst (-1), 1) := by decide +kernel
theorem dX5_fallsIn_9 : decode cX5_fallsIn 9 = .ok (.goto 23, 3) := by decide +kernel
theorem dX5_fallsIn_12 : decode cX5_fallsIn 12 = .ok (.aload_n 0, 1) := by decide +kernel
theorem dX5_fallsIn_13 : decode cX5_fallsIn 13 = .ok (.iload_n 1, 1) := by decide +kernel
theorem dX5_fallsIn_14 : decode cX5_fallsIn 14 = .ok (.iconst 1, 1) := by decide +kernel
theorem dX5_fallsIn_15 : decode cX5_fallsIn 15 = .ok (.invokevirtual 58, 3) := by decide +kernel
theorem dX5_fallsIn_18 : decode cX5_fallsIn 18 = .ok (.iconst 1, 1) := by decide +kernel
theorem dX5_fallsIn_19 : decode cX5_fallsIn 19 = .ok (.if_icmp .ne 11, 3) := by decide +kernel
theorem dX5_fallsIn_22 : decode cX5_fallsIn 22 = .ok (.aload_n 0, 1) := by decide +kernel
theorem dX5_fallsIn_23 : decode cX5_fallsIn 23 = .ok (.iload_n 1, 1) := by decide +kernel
theorem dX5_fallsIn_24 : decode cX5_fallsIn 24 = .ok (.invokevirtual 200, 3) := by decide +kernel
theorem dX5_fallsIn_27 : decode cX5_fallsIn 27 = .ok (.goto 5, 3) := by decide +kernel
theorem dX5_fallsIn_30 : decode cX5_fallsIn 30 = .ok (.bipush (-5), 2) := by decide +kernel
theorem dX5_fallsIn_32 : decode cX5_fallsIn 32 = .ok (.ireturn, 1) := by decide +kernel
theorem dX5_shareOf_0 : decode cX5_shareOf 0 = .ok (.aload_n 0, 1) := by decide +kernel
theorem dX5_shareOf_1 : decode cX5_shareOf 1 = .ok (.iload_n 3, 1) := by decide +kernel
theorem dX5_shareOf_2 : decode cX5_shareOf 2 = .ok (.invokevirtual 143, 3) := by decide +kernel
theorem dX5_shareOf_5 : decode cX5_shareOf 5 = .ok (.istore 4, 2) := by decide +kernel
theorem dX5_shareOf_7 : decode cX5_shareOf 7 = .ok (.iconst 0, 1) := by decide +kernel
theorem dX5_shareOf_8 : decode cX5_shareOf 8 = .ok (.istore 5, 2) := by decide +kernel
theorem dX5_shareOf_10 : decode cX5_shareOf 10 = .ok (.iconst 0, 1) := by decide +kernel
theorem dX5_shareOf_11 : decode cX5_shareOf 11 = .ok (.istore 6, 2) := by decide +kernel
theorem dX5_shareOf_13 : decode cX5_shareOf 13 = .ok (.iload 6, 2) := by decide +kernel
theorem dX5_shareOf_15 : decode cX5_shareOf 15 = .ok (.aload_n 0, 1) := by decide +kernel
theorem dX5_shareOf_16 : decode cX5_shareOf 16 = .ok (.getfield 7, 3) := by decide +kernel
theorem dX5_shareOf_19 : decode cX5_shareOf 19 = .ok (.bipush 8, 2) := by decide +kernel
theorem dX5_shareOf_21 : decode cX5_shareOf 21 = .ok (.iaload, 1) := by decide +kernel
theorem dX5_shareOf_22 : decode cX5_shareOf 22 = .ok (.if_icmp .ge 52, 3) := by decide +kernel
theorem dX5_shareOf_25 : decode cX5_shareOf 25 = .ok (.iload 5, 2) := by decide +kernel
theorem dX5_shareOf_27 : decode cX5_shareOf 27 = .ok (.iload 4, 2) := by decide +kernel
theorem dX5_shareOf_29 : decode cX5_shareOf 29 = .ok (.iload 6, 2) := by decide +kernel
theorem dX5_shareOf_31 : decode cX5_shareOf 31 = .ok (.ishr, 1) := by decide +kernel
theorem dX5_shareOf_32 : decode cX5_shareOf 32 = .ok (.iconst 1, 1) := by decide +kernel
theorem dX5_shareOf_33 : decode cX5_shareOf 33 = .ok (.iand, 1) := by decide +kernel
theorem dX5_shareOf_34 : decode cX5_shareOf 34 = .ok (.iconst 1, 1) := by decide +kernel
theorem dX5_shareOf_35 : decode cX5_shareOf 35 = .ok (.if_icmp .ne 29, 3) := by decide +kernel
theorem dX5_shareOf_38 : decode cX5_shareOf 38 = .ok (.aload_n 0, 1) := by decide +kernel
theorem dX5_shareOf_39 : decode cX5_shareOf 39 = .ok (.iload 6, 2) := by decide +kernel
theorem dX5_shareOf_41 : decode cX5_shareOf 41 = .ok (.iconst 0, 1) := by decide +kernel
theorem dX5_shareOf_42 : decode cX5_shareOf 42 = .ok (.invokevirtual 47, 3) := by decide +kernel
theorem dX5_shareOf_45 : decode cX5_shareOf 45 = .ok (.iload_n 2, 1) := by decide +kernel
theorem dX5_shareOf_46 : decode cX5_shareOf 46 = .ok (.if_icmp .ne 18, 3) := by decide +kernel
theorem dX5_shareOf_49 : decode cX5_shareOf 49 = .ok (.iload 6, 2) := by decide +kernel
theorem dX5_shareOf_51 : decode cX5_shareOf 51 = .ok (.iload 4, 2) := by decide +kernel
theorem dX5_shareOf_53 : decode cX5_shareOf 53 = .ok (.aload_n 0, 1) := by decide +kernel
theorem dX5_shareOf_54 : decode cX5_shareOf 54 = .ok (.iload_n 1, 1) := by decide +kernel
theorem dX5_shareOf_55 : decode cX5_shareOf 55 = .ok (.invokevirtual 146, 3) := by decide +kernel
theorem dX5_shareOf_58 : decode cX5_shareOf 58 = .ok (.invokestatic 149, 3) := by decide +kernel
theorem dX5_shareOf_61 : decode cX5_shareOf 61 = .ok (.goto 4, 3) := by decide +kernel
theorem dX5_shareOf_64 : decode cX5_shareOf 64 = .ok (.iconst 0, 1) := by decide +kernel
theorem dX5_shareOf_65 : decode cX5_shareOf 65 = .ok (.iadd, 1) := by decide +kernel
theorem dX5_shareOf_66 : decode cX5_shareOf 66 = .ok (.istore 5, 2) := by decide +kernel
theorem dX5_shareOf_68 : decode cX5_shareOf 68 = .ok (.iinc 6 1, 3) := by decide +kernel
theorem dX5_shareOf_71 : decode cX5_shareOf 71 = .ok (.goto (-58), 3) := by decide +kernel
theorem dX5_shareOf_74 : decode cX5_shareOf 74 = .ok (.iload 5, 2) := by decide +kernel
theorem dX5_shareOf_76 : decode cX5_shareOf 76 = .ok (.ireturn, 1) := by decide +kernel
theorem dX5_share_0 : decode cX5_share 0 = .ok (.aload_n 0, 1) := by decide +kernel
theorem dX5_share_1 : decode cX5_share 1 = .ok (.iload_n 1, 1) := by decide +kernel
theorem dX5_share_2 : decode cX5_share 2 = .ok (.invokevirtual 78, 3) := by decide +kernel
theorem dX5_share_5 : decode cX5_share 5 = .ok (.ifCond .eq 10, 3) := by decide +kernel
theorem dX5_share_8 : decode cX5_share 8 = .ok (.iload_n 2, 1) := by decide +kernel
theorem dX5_share_9 : decode cX5_share 9 = .ok (.invokestatic 94, 3) := by decide +kernel
theorem dX5_share_12 : decode cX5_share 12 = .ok (.ifCond .ne 5, 3) := by decide +kernel
theorem dX5_share_15 : decode cX5_share 15 = .ok (.iconst (-1), 1) := by decide +kernel
theorem dX5_share_16 : decode cX5_share 16 = .ok (.ireturn, 1) := by decide +kernel
theorem dX5_share_17 : decode cX5_share 17 = .ok (.iload_n 3, 1) := by decide +kernel
theorem dX5_share_18 : decode cX5_share 18 = .ok (.iconst 0, 1) := by decide +kernel
theorem dX5_share_19 : decode cX5_share 19 = .ok (.iconst 1, 1) := by decide +kernel
theorem dX5_share_20 : decode cX5_share 20 = .ok (.invokestatic 32, 3) := by decide +kernel
theorem dX5_share_23 : decode cX5_share 23 = .ok (.ifCond .ne 6, 3) := by decide +kernel
theorem dX5_share_26 : decode cX5_share 26 = .ok (.bipush (-2), 2) := by decide +kernel
theorem dX5_share_28 : decode cX5_share 28 = .ok (.ireturn, 1) := by decide +kernel
theorem dX5_share_29 : decode cX5_share 29 = .ok (.aload_n 0, 1) := by decide +kernel
theorem dX5_share_30 : decode cX5_share 30 = .ok (.iload_n 1, 1) := by decide +kernel
theorem dX5_share_31 : decode cX5_share 31 = .ok (.invokevirtual 97, 3) := by decide +kernel
theorem dX5_share_34 : decode cX5_share 34 = .ok (.ifCond .eq 8, 3) := by decide +kernel
theorem dX5_share_37 : decode cX5_share 37 = .ok (.bipush (-5), 2) := by decide +kernel
theorem dX5_share_39 : decode cX5_share 39 = .ok (.goto 27, 3) := by decide +kernel
theorem dX5_share_42 : decode cX5_share 42 = .ok (.aload_n 0, 1) := by decide +kernel
theorem dX5_share_43 : decode cX5_share 43 = .ok (.iload_n 1, 1) := by decide +kernel
theorem dX5_share_44 : decode cX5_share 44 = .ok (.iload_n 2, 1) := by decide +kernel
theorem dX5_share_45 : decode cX5_share 45 = .ok (.iload_n 3, 1) := by decide +kernel
theorem dX5_share_46 : decode cX5_share 46 = .ok (.ifCond .ne 12, 3) := by decide +kernel
theorem dX5_share_49 : decode cX5_share 49 = .ok (.aload_n 0, 1) := by decide +kernel
theorem dX5_share_50 : decode cX5_share 50 = .ok (.iload_n 1, 1) := by decide +kernel
theorem dX5_share_51 : decode cX5_share 51 = .ok (.iconst 1, 1) := by decide +kernel
theorem dX5_share_52 : decode cX5_share 52 = .ok (.invokevirtual 51, 3) := by decide +kernel
theorem dX5_share_55 : decode cX5_share 55 = .ok (.goto 8, 3) := by decide +kernel
theorem dX5_share_58 : decode cX5_share 58 = .ok (.aload_n 0, 1) := by decide +kernel
theorem dX5_share_59 : decode cX5_share 59 = .ok (.iload_n 1, 1) := by decide +kernel
theorem dX5_share_60 : decode cX5_share 60 = .ok (.invokevirtual 131, 3) := by decide +kernel
theorem dX5_share_63 : decode cX5_share 63 = .ok (.invokevirtual 203, 3) := by decide +kernel
theorem dX5_share_66 : decode cX5_share 66 = .ok (.ireturn, 1) := by decide +kernel
theorem dX5_nextFall_0 : decode cX5_nextFall 0 = .ok (.iload_n 1, 1) := by decide +kernel
theorem dX5_nextFall_1 : decode cX5_nextFall 1 = .ok (.iconst 0, 1) := by decide +kernel
theorem dX5_nextFall_2 : decode cX5_nextFall 2 = .ok (.iconst 1, 1) := by decide +kernel
theorem dX5_nextFall_3 : decode cX5_nextFall 3 = .ok (.invokestatic 32, 3) := by decide +kernel
theorem dX5_nextFall_6 : decode cX5_nextFall 6 = .ok (.ifCond .ne 6, 3) := by decide +kernel
theorem dX5_nextFall_9 : decode cX5_nextFall 9 = .ok (.bipush (-2), 2) := by decide +kernel
theorem dX5_nextFall_11 : decode cX5_nextFall 11 = .ok (.ireturn, 1) := by decide +kernel
theorem dX5_nextFall_12 : decode cX5_nextFall 12 = .ok (.bipush (-6), 2) := by decide +kernel
theorem dX5_nextFall_14 : decode cX5_nextFall 14 = .ok (.istore_n 2, 1) := by decide +kernel
theorem dX5_nextFall_15 : decode cX5_nextFall 15 = .ok (.bipush (-6), 2) := by decide +kernel
theorem dX5_nextFall_17 : decode cX5_nextFall 17 = .ok (.istore_n 3, 1) := by decide +kernel
theorem dX5_nextFall_18 : decode cX5_nextFall 18 = .ok (.iconst 0, 1) := by decide +kernel
theorem dX5_nextFall_19 : decode cX5_nextFall 19 = .ok (.istore 4, 2) := by decide +kernel
theorem dX5_nextFall_21 : decode cX5_nextFall 21 = .ok (.iload 4, 2) := by decide +kernel
theorem dX5_nextFall_23 : decode cX5_nextFall 23 = .ok (.aload_n 0, 1) := by decide +kernel
theorem dX5_nextFall_24 : decode cX5_nextFall 24 = .ok (.getfield 7, 3) := by decide +kernel
theorem dX5_nextFall_27 : decode cX5_nextFall 27 = .ok (.bipush 7, 2) := by decide +kernel
theorem dX5_nextFall_29 : decode cX5_nextFall 29 = .ok (.iaload, 1) := by decide +kernel
theorem dX5_nextFall_30 : decode cX5_nextFall 30 = .ok (.if_icmp .ge 83, 3) := by decide +kernel
theorem dX5_nextFall_33 : decode cX5_nextFall 33 = .ok (.aload_n 0, 1) := by decide +kernel
theorem dX5_nextFall_34 : decode cX5_nextFall 34 = .ok (.iload 4, 2) := by decide +kernel
theorem dX5_nextFall_36 : decode cX5_nextFall 36 = .ok (.iconst 1, 1) := by decide +kernel
theorem dX5_nextFall_37 : decode cX5_nextFall 37 = .ok (.invokevirtual 58, 3) := by decide +kernel
theorem dX5_nextFall_40 : decode cX5_nextFall 40 = .ok (.iconst 1, 1) := by decide +kernel
theorem dX5_nextFall_41 : decode cX5_nextFall 41 = .ok (.if_icmp .ne 12, 3) := by decide +kernel
theorem dX5_nextFall_44 : decode cX5_nextFall 44 = .ok (.aload_n 0, 1) := by decide +kernel
theorem dX5_nextFall_45 : decode cX5_nextFall 45 = .ok (.iload 4, 2) := by decide +kernel
theorem dX5_nextFall_47 : decode cX5_nextFall 47 = .ok (.invokevirtual 200, 3) := by decide +kernel
theorem dX5_nextFall_50 : decode cX5_nextFall 50 = .ok (.goto 5, 3) := by decide +kernel
theorem dX5_nextFall_53 : decode cX5_nextFall 53 = .ok (.bipush (-6), 2) := by decide +kernel
theorem dX5_nextFall_55 : decode cX5_nextFall 55 = .ok (.istore 5, 2) := by decide +kernel
theorem dX5_nextFall_57 : decode cX5_nextFall 57 = .ok (.iload 5, 2) := by decide +kernel
theorem dX5_nextFall_59 : decode cX5_nextFall 59 = .ok (.bipush (-6), 2) := by decide +kernel
theorem dX5_nextFall_61 : decode cX5_nextFall 61 = .ok (.if_icmp .eq 19, 3) := by decide +kernel
theorem dX5_nextFall_64 : decode cX5_nextFall 64 = .ok (.iload_n 3, 1) := by decide +kernel
theorem dX5_nextFall_65 : decode cX5_nextFall 65 = .ok (.bipush (-6), 2) := by decide +kernel
theorem dX5_nextFall_67 : decode cX5_nextFall 67 = .ok (.if_icmp .eq 9, 3) := by decide +kernel
theorem dX5_nextFall_70 : decode cX5_nextFall 70 = .ok (.iload 5, 2) := by decide +kernel
theorem dX5_nextFall_72 : decode cX5_nextFall 72 = .ok (.iload_n 3, 1) := by decide +kernel
theorem dX5_nextFall_73 : decode cX5_nextFall 73 = .ok (.if_icmp .ge 7, 3) := by decide +kernel
theorem dX5_nextFall_76 : decode cX5_nextFall 76 = .ok (.iconst 1, 1) := by decide +kernel
theorem dX5_nextFall_77 : decode cX5_nextFall 77 = .ok (.goto 4, 3) := by decide +kernel
theorem dX5_nextFall_80 : decode cX5_nextFall 80 = .ok (.iconst 0, 1) := by decide +kernel
theorem dX5_nextFall_81 : decode cX5_nextFall 81 = .ok (.istore 6, 2) := by decide +kernel
theorem dX5_nextFall_83 : decode cX5_nextFall 83 = .ok (.iload 6, 2) := by decide +kernel
theorem dX5_nextFall_85 : decode cX5_nextFall 85 = .ok (.ifCond .eq 8, 3) := by decide +kernel
theorem dX5_nextFall_88 : decode cX5_nextFall 88 = .ok (.iload 4, 2) := by decide +kernel
theorem dX5_nextFall_90 : decode cX5_nextFall 90 = .ok (.goto 4, 3) := by decide +kernel
theorem dX5_nextFall_93 : decode cX5_nextFall 93 = .ok (.iload_n 2, 1) := by decide +kernel
theorem dX5_nextFall_94 : decode cX5_nextFall 94 = .ok (.istore_n 2, 1) := by decide +kernel
theorem dX5_nextFall_95 : decode cX5_nextFall 95 = .ok (.iload 6, 2) := by decide +kernel
theorem dX5_nextFall_97 : decode cX5_nextFall 97 = .ok (.ifCond .eq 8, 3) := by decide +kernel
theorem dX5_nextFall_100 : decode cX5_nextFall 100 = .ok (.iload 5, 2) := by decide +kernel
theorem dX5_nextFall_102 : decode cX5_nextFall 102 = .ok (.goto 4, 3) := by decide +kernel
theorem dX5_nextFall_105 : decode cX5_nextFall 105 = .ok (.iload_n 3, 1) := by decide +kernel
theorem dX5_nextFall_106 : decode cX5_nextFall 106 = .ok (.istore_n 3, 1) := by decide +kernel
theorem dX5_nextFall_107 : decode cX5_nextFall 107 = .ok (.iinc 4 1, 3) := by decide +kernel
theorem dX5_nextFall_110 : decode cX5_nextFall 110 = .ok (.goto (-89), 3) := by decide +kernel
theorem dX5_nextFall_113 : decode cX5_nextFall 113 = .ok (.iload_n 1, 1) := by decide +kernel
theorem dX5_nextFall_114 : decode cX5_nextFall 114 = .ok (.ifCond .ne 7, 3) := by decide +kernel
theorem dX5_nextFall_117 : decode cX5_nextFall 117 = .ok (.iload_n 2, 1) := by decide +kernel
theorem dX5_nextFall_118 : decode cX5_nextFall 118 = .ok (.goto 4, 3) := by decide +kernel
theorem dX5_nextFall_121 : decode cX5_nextFall 121 = .ok (.iload_n 3, 1) := by decide +kernel
theorem dX5_nextFall_122 : decode cX5_nextFall 122 = .ok (.ireturn, 1) := by decide +kernel
theorem dX5_lapsesIn_0 : decode cX5_lapsesIn 0 = .ok (.aload_n 0, 1) := by decide +kernel
theorem dX5_lapsesIn_1 : decode cX5_lapsesIn 1 = .ok (.getfield 7, 3) := by decide +kernel
theorem dX5_lapsesIn_4 : decode cX5_lapsesIn 4 = .ok (.iconst 2, 1) := by decide +kernel
theorem dX5_lapsesIn_5 : decode cX5_lapsesIn 5 = .ok (.iaload, 1) := by decide +kernel
theorem dX5_lapsesIn_6 : decode cX5_lapsesIn 6 = .ok (.aload_n 0, 1) := by decide +kernel
theorem dX5_lapsesIn_7 : decode cX5_lapsesIn 7 = .ok (.iload_n 1, 1) := by decide +kernel
theorem dX5_lapsesIn_8 : decode cX5_lapsesIn 8 = .ok (.iconst 5, 1) := by decide +kernel
theorem dX5_lapsesIn_9 : decode cX5_lapsesIn 9 = .ok (.invokevirtual 47, 3) := by decide +kernel
theorem dX5_lapsesIn_12 : decode cX5_lapsesIn 12 = .ok (.isub, 1) := by decide +kernel
theorem dX5_lapsesIn_13 : decode cX5_lapsesIn 13 = .ok (.istore_n 2, 1) := by decide +kernel
theorem dX5_lapsesIn_14 : decode cX5_lapsesIn 14 = .ok (.iload_n 2, 1) := by decide +kernel
theorem dX5_lapsesIn_15 : decode cX5_lapsesIn 15 = .ok (.iconst 1, 1) := by decide +kernel
theorem dX5_lapsesIn_16 : decode cX5_lapsesIn 16 = .ok (.if_icmp .ge 7, 3) := by decide +kernel
theorem dX5_lapsesIn_19 : decode cX5_lapsesIn 19 = .ok (.iconst 1, 1) := by decide +kernel
theorem dX5_lapsesIn_20 : decode cX5_lapsesIn 20 = .ok (.goto 4, 3) := by decide +kernel
theorem dX5_lapsesIn_23 : decode cX5_lapsesIn 23 = .ok (.iload_n 2, 1) := by decide +kernel
theorem dX5_lapsesIn_24 : decode cX5_lapsesIn 24 = .ok (.ireturn, 1) := by decide +kernel
theorem dX5_nextLapse_0 : decode cX5_nextLapse 0 = .ok (.iload_n 1, 1) := by decide +kernel
theorem dX5_nextLapse_1 : decode cX5_nextLapse 1 = .ok (.iconst 0, 1) := by decide +kernel
theorem dX5_nextLapse_2 : decode cX5_nextLapse 2 = .ok (.iconst 1, 1) := by decide +kernel
theorem dX5_nextLapse_3 : decode cX5_nextLapse 3 = .ok (.invokestatic 32, 3) := by decide +kernel
theorem dX5_nextLapse_6 : decode cX5_nextLapse 6 = .ok (.ifCond .ne 6, 3) := by decide +kernel
theorem dX5_nextLapse_9 : decode cX5_nextLapse 9 = .ok (.bipush (-2), 2) := by decide +kernel
theorem dX5_nextLapse_11 : decode cX5_nextLapse 11 = .ok (.ireturn, 1) := by decide +kernel
theorem dX5_nextLapse_12 : decode cX5_nextLapse 12 = .ok (.bipush (-6), 2) := by decide +kernel
theorem dX5_nextLapse_14 : decode cX5_nextLapse 14 = .ok (.istore_n 2, 1) := by decide +kernel
theorem dX5_nextLapse_15 : decode cX5_nextLapse 15 = .ok (.iconst 0, 1) := by decide +kernel
theorem dX5_nextLapse_16 : decode cX5_nextLapse 16 = .ok (.istore_n 3, 1) := by decide +kernel
theorem dX5_nextLapse_17 : decode cX5_nextLapse 17 = .ok (.iload_n 3, 1) := by decide +kernel
theorem dX5_nextLapse_18 : decode cX5_nextLapse 18 = .ok (.aload_n 0, 1) := by decide +kernel
theorem dX5_nextLapse_19 : decode cX5_nextLapse 19 = .ok (.getfield 7, 3) := by decide +kernel
theorem dX5_nextLapse_22 : decode cX5_nextLapse 22 = .ok (.bipush 8, 2) := by decide +kernel
theorem dX5_nextLapse_24 : decode cX5_nextLapse 24 = .ok (.iaload, 1) := by decide +kernel
theorem dX5_nextLapse_25 : decode cX5_nextLapse 25 = .ok (.if_icmp .ge 77, 3) := by decide +kernel
theorem dX5_nextLapse_28 : decode cX5_nextLapse 28 = .ok (.aload_n 0, 1) := by decide +kernel
theorem dX5_nextLapse_29 : decode cX5_nextLapse 29 = .ok (.iload_n 3, 1) := by decide +kernel
theorem dX5_nextLapse_30 : decode cX5_nextLapse 30 = .ok (.iconst 4, 1) := by decide +kernel
theorem dX5_nextLapse_31 : decode cX5_nextLapse 31 = .ok (.invokevirtual 47, 3) := by decide +kernel
theorem dX5_nextLapse_34 : decode cX5_nextLapse 34 = .ok (.ifCond .ne 62, 3) := by decide +kernel
theorem dX5_nextLapse_37 : decode cX5_nextLapse 37 = .ok (.iload_n 2, 1) := by decide +kernel
theorem dX5_nextLapse_38 : decode cX5_nextLapse 38 = .ok (.bipush (-6), 2) := by decide +kernel
theorem dX5_nextLapse_40 : decode cX5_nextLapse 40 = .ok (.if_icmp .ne 7, 3) := by decide +kernel
theorem dX5_nextLapse_43 : decode cX5_nextLapse 43 = .ok (.iconst (-1), 1) := by decide +kernel
theorem dX5_nextLapse_44 : decode cX5_nextLapse 44 = .ok (.goto 14, 3) := by decide +kernel
theorem dX5_nextLapse_47 : decode cX5_nextLapse 47 = .ok (.aload_n 0, 1) := by decide +kernel
theorem dX5_nextLapse_48 : decode cX5_nextLapse 48 = .ok (.iload_n 3, 1) := by decide +kernel
theorem dX5_nextLapse_49 : decode cX5_nextLapse 49 = .ok (.invokevirtual 206, 3) := by decide +kernel
theorem dX5_nextLapse_52 : decode cX5_nextLapse 52 = .ok (.aload_n 0, 1) := by decide +kernel
theorem dX5_nextLapse_53 : decode cX5_nextLapse 53 = .ok (.iload_n 2, 1) := by decide +kernel
theorem dX5_nextLapse_54 : decode cX5_nextLapse 54 = .ok (.invokevirtual 206, 3) := by decide +kernel
theorem dX5_nextLapse_57 : decode cX5_nextLapse 57 = .ok (.isub, 1) := by decide +kernel
theorem dX5_nextLapse_58 : decode cX5_nextLapse 58 = .ok (.istore 4, 2) := by decide +kernel
theorem dX5_nextLapse_60 : decode cX5_nextLapse 60 = .ok (.iload 4, 2) := by decide +kernel
theorem dX5_nextLapse_62 : decode cX5_nextLapse 62 = .ok (.ifCond .ne 19, 3) := by decide +kernel
theorem dX5_nextLapse_65 : decode cX5_nextLapse 65 = .ok (.aload_n 0, 1) := by decide +kernel
theorem dX5_nextLapse_66 : decode cX5_nextLapse 66 = .ok (.iload_n 3, 1) := by decide +kernel
theorem dX5_nextLapse_67 : decode cX5_nextLapse 67 = .ok (.iconst 1, 1) := by decide +kernel
theorem dX5_nextLapse_68 : decode cX5_nextLapse 68 = .ok (.invokevirtual 47, 3) := by decide +kernel
theorem dX5_nextLapse_71 : decode cX5_nextLapse 71 = .ok (.aload_n 0, 1) := by decide +kernel
theorem dX5_nextLapse_72 : decode cX5_nextLapse 72 = .ok (.iload_n 2, 1) := by decide +kernel
theorem dX5_nextLapse_73 : decode cX5_nextLapse 73 = .ok (.iconst 1, 1) := by decide +kernel
theorem dX5_nextLapse_74 : decode cX5_nextLapse 74 = .ok (.invokevirtual 47, 3) := by decide +kernel
theorem dX5_nextLapse_77 : decode cX5_nextLapse 77 = .ok (.isub, 1) := by decide +kernel
theorem dX5_nextLapse_78 : decode cX5_nextLapse 78 = .ok (.goto 5, 3) := by decide +kernel
theorem dX5_nextLapse_81 : decode cX5_nextLapse 81 = .ok (.iload 4, 2) := by decide +kernel
theorem dX5_nextLapse_83 : decode cX5_nextLapse 83 = .ok (.istore 4, 2) := by decide +kernel
theorem dX5_nextLapse_85 : decode cX5_nextLapse 85 = .ok (.iload 4, 2) := by decide +kernel
theorem dX5_nextLapse_87 : decode cX5_nextLapse 87 = .ok (.ifCond .ge 7, 3) := by decide +kernel
theorem dX5_nextLapse_90 : decode cX5_nextLapse 90 = .ok (.iload_n 3, 1) := by decide +kernel
theorem dX5_nextLapse_91 : decode cX5_nextLapse 91 = .ok (.goto 4, 3) := by decide +kernel
theorem dX5_nextLapse_94 : decode cX5_nextLapse 94 = .ok (.iload_n 2, 1) := by decide +kernel
theorem dX5_nextLapse_95 : decode cX5_nextLapse 95 = .ok (.istore_n 2, 1) := by decide +kernel
theorem dX5_nextLapse_96 : decode cX5_nextLapse 96 = .ok (.iinc 3 1, 3) := by decide +kernel
theorem dX5_nextLapse_99 : decode cX5_nextLapse 99 = .ok (.goto (-82), 3) := by decide +kernel
theorem dX5_nextLapse_102 : decode cX5_nextLapse 102 = .ok (.iload_n 2, 1) := by decide +kernel
theorem dX5_nextLapse_103 : decode cX5_nextLapse 103 = .ok (.bipush (-6), 2) := by decide +kernel
theorem dX5_nextLapse_105 : decode cX5_nextLapse 105 = .ok (.if_icmp .eq 8, 3) := by decide +kernel
theorem dX5_nextLapse_108 : decode cX5_nextLapse 108 = .ok (.iload_n 1, 1) := by decide +kernel
theorem dX5_nextLapse_109 : decode cX5_nextLapse 109 = .ok (.iconst 1, 1) := by decide +kernel
theorem dX5_nextLapse_110 : decode cX5_nextLapse 110 = .ok (.if_icmp .ne 7, 3) := by decide +kernel
theorem dX5_nextLapse_113 : decode cX5_nextLapse 113 = .ok (.iload_n 2, 1) := by decide +kernel
theorem dX5_nextLapse_114 : decode cX5_nextLapse 114 = .ok (.goto 8, 3) := by decide +kernel
theorem dX5_nextLapse_117 : decode cX5_nextLapse 117 = .ok (.aload_n 0, 1) := by decide +kernel
theorem dX5_nextLapse_118 : decode cX5_nextLapse 118 = .ok (.iload_n 2, 1) := by decide +kernel
theorem dX5_nextLapse_119 : decode cX5_nextLapse 119 = .ok (.invokevirtual 206, 3) := by decide +kernel
theorem dX5_nextLapse_122 : decode cX5_nextLapse 122 = .ok (.ireturn, 1) := by decide +kernel
theorem dX5_put_0 : decode cX5_put 0 = .ok (.lload_n 1, 1) := by decide +kernel
theorem dX5_put_1 : decode cX5_put 1 = .ok (.lstore_n 3, 1) := by decide +kernel
theorem dX5_put_2 : decode cX5_put 2 = .ok (.iconst 0, 1) := by decide +kernel
theorem dX5_put_3 : decode cX5_put 3 = .ok (.istore 5, 2) := by decide +kernel
theorem dX5_put_5 : decode cX5_put 5 = .ok (.lload_n 3, 1) := by decide +kernel
theorem dX5_put_6 : decode cX5_put 6 = .ok (.lconst 0, 1) := by decide +kernel
theorem dX5_put_7 : decode cX5_put 7 = .ok (.lcmp, 1) := by decide +kernel
theorem dX5_put_8 : decode cX5_put 8 = .ok (.ifCond .eq 40, 3) := by decide +kernel
theorem dX5_put_11 : decode cX5_put 11 = .ok (.iload 5, 2) := by decide +kernel
theorem dX5_put_13 : decode cX5_put 13 = .ok (.bipush 8, 2) := by decide +kernel
theorem dX5_put_15 : decode cX5_put 15 = .ok (.if_icmp .ge 33, 3) := by decide +kernel
theorem dX5_put_18 : decode cX5_put 18 = .ok (.lload_n 3, 1) := by decide +kernel
theorem dX5_put_19 : decode cX5_put 19 = .ok (.ldc2_w 209, 3) := by decide +kernel
theorem dX5_put_22 : decode cX5_put 22 = .ok (.land, 1) := by decide +kernel
theorem dX5_put_23 : decode cX5_put 23 = .ok (.l2i, 1) := by decide +kernel
theorem dX5_put_24 : decode cX5_put 24 = .ok (.bipush 33, 2) := by decide +kernel
theorem dX5_put_26 : decode cX5_put 26 = .ok (.bipush 126, 2) := by decide +kernel
theorem dX5_put_28 : decode cX5_put 28 = .ok (.invokestatic 32, 3) := by decide +kernel
theorem dX5_put_31 : decode cX5_put 31 = .ok (.ifCond .ne 6, 3) := by decide +kernel
theorem dX5_put_34 : decode cX5_put 34 = .ok (.bipush (-2), 2) := by decide +kernel
theorem dX5_put_36 : decode cX5_put 36 = .ok (.ireturn, 1) := by decide +kernel
theorem dX5_put_37 : decode cX5_put 37 = .ok (.lload_n 3, 1) := by decide +kernel
theorem dX5_put_38 : decode cX5_put 38 = .ok (.bipush 8, 2) := by decide +kernel
theorem dX5_put_40 : decode cX5_put 40 = .ok (.lushr, 1) := by decide +kernel
theorem dX5_put_41 : decode cX5_put 41 = .ok (.lstore_n 3, 1) := by decide +kernel
theorem dX5_put_42 : decode cX5_put 42 = .ok (.iinc 5 1, 3) := by decide +kernel
theorem dX5_put_45 : decode cX5_put 45 = .ok (.goto (-40), 3) := by decide +kernel
theorem dX5_put_48 : decode cX5_put 48 = .ok (.iload 5, 2) := by decide +kernel
theorem dX5_put_50 : decode cX5_put 50 = .ok (.ifCond .ne 6, 3) := by decide +kernel
theorem dX5_put_53 : decode cX5_put 53 = .ok (.bipush (-2), 2) := by decide +kernel
theorem dX5_put_55 : decode cX5_put 55 = .ok (.ireturn, 1) := by decide +kernel
theorem dX5_put_56 : decode cX5_put 56 = .ok (.aload_n 0, 1) := by decide +kernel
theorem dX5_put_57 : decode cX5_put 57 = .ok (.getfield 197, 3) := by decide +kernel
theorem dX5_put_60 : decode cX5_put 60 = .ok (.iload 5, 2) := by decide +kernel
theorem dX5_put_62 : decode cX5_put 62 = .ok (.iadd, 1) := by decide +kernel
theorem dX5_put_63 : decode cX5_put 63 = .ok (.bipush 80, 2) := by decide +kernel
theorem dX5_put_65 : decode cX5_put 65 = .ok (.if_icmp .le 6, 3) := by decide +kernel
theorem dX5_put_68 : decode cX5_put 68 = .ok (.bipush (-4), 2) := by decide +kernel
theorem dX5_put_70 : decode cX5_put 70 = .ok (.ireturn, 1) := by decide +kernel
theorem dX5_put_71 : decode cX5_put 71 = .ok (.iload 5, 2) := by decide +kernel
theorem dX5_put_73 : decode cX5_put 73 = .ok (.iconst 1, 1) := by decide +kernel
theorem dX5_put_74 : decode cX5_put 74 = .ok (.isub, 1) := by decide +kernel
theorem dX5_put_75 : decode cX5_put 75 = .ok (.istore 6, 2) := by decide +kernel
theorem dX5_put_77 : decode cX5_put 77 = .ok (.iload 6, 2) := by decide +kernel
theorem dX5_put_79 : decode cX5_put 79 = .ok (.ifCond .lt 40, 3) := by decide +kernel
theorem dX5_put_82 : decode cX5_put 82 = .ok (.aload_n 0, 1) := by decide +kernel
theorem dX5_put_83 : decode cX5_put 83 = .ok (.getfield 26, 3) := by decide +kernel
theorem dX5_put_86 : decode cX5_put 86 = .ok (.aload_n 0, 1) := by decide +kernel
theorem dX5_put_87 : decode cX5_put 87 = .ok (.getfield 197, 3) := by decide +kernel
theorem dX5_put_90 : decode cX5_put 90 = .ok (.lload_n 1, 1) := by decide +kernel
theorem dX5_put_91 : decode cX5_put 91 = .ok (.bipush 8, 2) := by decide +kernel
theorem dX5_put_93 : decode cX5_put 93 = .ok (.iload 6, 2) := by decide +kernel
theorem dX5_put_95 : decode cX5_put 95 = .ok (.imul, 1) := by decide +kernel
theorem dX5_put_96 : decode cX5_put 96 = .ok (.lushr, 1) := by decide +kernel
theorem dX5_put_97 : decode cX5_put 97 = .ok (.ldc2_w 209, 3) := by decide +kernel
theorem dX5_put_100 : decode cX5_put 100 = .ok (.land, 1) := by decide +kernel
theorem dX5_put_101 : decode cX5_put 101 = .ok (.l2i, 1) := by decide +kernel
theorem dX5_put_102 : decode cX5_put 102 = .ok (.iastore, 1) := by decide +kernel
theorem dX5_put_103 : decode cX5_put 103 = .ok (.aload_n 0, 1) := by decide +kernel
theorem dX5_put_104 : decode cX5_put 104 = .ok (.dup, 1) := by decide +kernel
theorem dX5_put_105 : decode cX5_put 105 = .ok (.getfield 197, 3) := by decide +kernel
theorem dX5_put_108 : decode cX5_put 108 = .ok (.iconst 1, 1) := by decide +kernel
theorem dX5_put_109 : decode cX5_put 109 = .ok (.iadd, 1) := by decide +kernel
theorem dX5_put_110 : decode cX5_put 110 = .ok (.putfield 197, 3) := by decide +kernel
theorem dX5_put_113 : decode cX5_put 113 = .ok (.iinc 6 (-1), 3) := by decide +kernel
theorem dX5_put_116 : decode cX5_put 116 = .ok (.goto (-39), 3) := by decide +kernel
theorem dX5_put_119 : decode cX5_put 119 = .ok (.aload_n 0, 1) := by decide +kernel
theorem dX5_put_120 : decode cX5_put 120 = .ok (.getfield 197, 3) := by decide +kernel
theorem dX5_put_123 : decode cX5_put 123 = .ok (.ireturn, 1) := by decide +kernel
theorem dX5_wipe_0 : decode cX5_wipe 0 = .ok (.aload_n 0, 1) := by decide +kernel
theorem dX5_wipe_1 : decode cX5_wipe 1 = .ok (.getfield 197, 3) := by decide +kernel
theorem dX5_wipe_4 : decode cX5_wipe 4 = .ok (.istore_n 1, 1) := by decide +kernel
theorem dX5_wipe_5 : decode cX5_wipe 5 = .ok (.aload_n 0, 1) := by decide +kernel
theorem dX5_wipe_6 : decode cX5_wipe 6 = .ok (.iconst 0, 1) := by decide +kernel
theorem dX5_wipe_7 : decode cX5_wipe 7 = .ok (.putfield 197, 3) := by decide +kernel
theorem dX5_wipe_10 : decode cX5_wipe 10 = .ok (.iload_n 1, 1) := by decide +kernel
theorem dX5_wipe_11 : decode cX5_wipe 11 = .ok (.ireturn, 1) := by decide +kernel
theorem dX5_sees_0 : decode cX5_sees 0 = .ok (.aload_n 0, 1) := by decide +kernel
theorem dX5_sees_1 : decode cX5_sees 1 = .ok (.getfield 211, 3) := by decide +kernel
theorem dX5_sees_4 : decode cX5_sees 4 = .ok (.aload_n 0, 1) := by decide +kernel
theorem dX5_sees_5 : decode cX5_sees 5 = .ok (.getfield 197, 3) := by decide +kernel
theorem dX5_sees_8 : decode cX5_sees 8 = .ok (.if_icmp .ge 24, 3) := by decide +kernel
theorem dX5_sees_11 : decode cX5_sees 11 = .ok (.aload_n 0, 1) := by decide +kernel
theorem dX5_sees_12 : decode cX5_sees 12 = .ok (.getfield 26, 3) := by decide +kernel
theorem dX5_sees_15 : decode cX5_sees 15 = .ok (.aload_n 0, 1) := by decide +kernel
theorem dX5_sees_16 : decode cX5_sees 16 = .ok (.getfield 211, 3) := by decide +kernel
theorem dX5_sees_19 : decode cX5_sees 19 = .ok (.iaload, 1) := by decide +kernel
theorem dX5_sees_20 : decode cX5_sees 20 = .ok (.iload_n 1, 1) := by decide +kernel
theorem dX5_sees_21 : decode cX5_sees 21 = .ok (.iload_n 2, 1) := by decide +kernel
theorem dX5_sees_22 : decode cX5_sees 22 = .ok (.invokestatic 32, 3) := by decide +kernel
theorem dX5_sees_25 : decode cX5_sees 25 = .ok (.ifCond .eq 7, 3) := by decide +kernel
theorem dX5_sees_28 : decode cX5_sees 28 = .ok (.iconst 1, 1) := by decide +kernel
theorem dX5_sees_29 : decode cX5_sees 29 = .ok (.goto 4, 3) := by decide +kernel
theorem dX5_sees_32 : decode cX5_sees 32 = .ok (.iconst 0, 1) := by decide +kernel
theorem dX5_sees_33 : decode cX5_sees 33 = .ok (.ireturn, 1) := by decide +kernel
theorem dX5_takes_0 : decode cX5_takes 0 = .ok (.aload_n 0, 1) := by decide +kernel
theorem dX5_takes_1 : decode cX5_takes 1 = .ok (.iload_n 1, 1) := by decide +kernel
theorem dX5_takes_2 : decode cX5_takes 2 = .ok (.iload_n 1, 1) := by decide +kernel
theorem dX5_takes_3 : decode cX5_takes 3 = .ok (.invokevirtual 214, 3) := by decide +kernel
theorem dX5_takes_6 : decode cX5_takes 6 = .ok (.istore_n 2, 1) := by decide +kernel
theorem dX5_takes_7 : decode cX5_takes 7 = .ok (.aload_n 0, 1) := by decide +kernel
theorem dX5_takes_8 : decode cX5_takes 8 = .ok (.dup, 1) := by decide +kernel
theorem dX5_takes_9 : decode cX5_takes 9 = .ok (.getfield 211, 3) := by decide +kernel
theorem dX5_takes_12 : decode cX5_takes 12 = .ok (.iload_n 2, 1) := by decide +kernel
theorem dX5_takes_13 : decode cX5_takes 13 = .ok (.ifCond .eq 7, 3) := by decide +kernel
theorem dX5_takes_16 : decode cX5_takes 16 = .ok (.iconst 1, 1) := by decide +kernel
theorem dX5_takes_17 : decode cX5_takes 17 = .ok (.goto 4, 3) := by decide +kernel
theorem dX5_takes_20 : decode cX5_takes 20 = .ok (.iconst 0, 1) := by decide +kernel
theorem dX5_takes_21 : decode cX5_takes 21 = .ok (.iadd, 1) := by decide +kernel
theorem dX5_takes_22 : decode cX5_takes 22 = .ok (.putfield 211, 3) := by decide +kernel
theorem dX5_takes_25 : decode cX5_takes 25 = .ok (.iload_n 2, 1) := by decide +kernel
theorem dX5_takes_26 : decode cX5_takes 26 = .ok (.ireturn, 1) := by decide +kernel
theorem dX5_number_0 : decode cX5_number 0 = .ok (.aload_n 0, 1) := by decide +kernel
theorem dX5_number_1 : decode cX5_number 1 = .ok (.bipush 48, 2) := by decide +kernel
theorem dX5_number_3 : decode cX5_number 3 = .ok (.bipush 57, 2) := by decide +kernel
theorem dX5_number_5 : decode cX5_number 5 = .ok (.invokevirtual 214, 3) := by decide +kernel
theorem dX5_number_8 : decode cX5_number 8 = .ok (.ifCond .ne 6, 3) := by decide +kernel
theorem dX5_number_11 : decode cX5_number 11 = .ok (.bipush (-6), 2) := by decide +kernel
theorem dX5_number_13 : decode cX5_number 13 = .ok (.ireturn, 1) := by decide +kernel
theorem dX5_number_14 : decode cX5_number 14 = .ok (.aload_n 0, 1) := by decide +kernel
theorem dX5_number_15 : decode cX5_number 15 = .ok (.getfield 26, 3) := by decide +kernel
theorem dX5_number_18 : decode cX5_number 18 = .ok (.aload_n 0, 1) := by decide +kernel
theorem dX5_number_19 : decode cX5_number 19 = .ok (.getfield 211, 3) := by decide +kernel
theorem dX5_number_22 : decode cX5_number 22 = .ok (.iaload, 1) := by decide +kernel
theorem dX5_number_23 : decode cX5_number 23 = .ok (.bipush 48, 2) := by decide +kernel
theorem dX5_number_25 : decode cX5_number 25 = .ok (.isub, 1) := by decide +kernel
theorem dX5_number_26 : decode cX5_number 26 = .ok (.istore_n 2, 1) := by decide +kernel
theorem dX5_number_27 : decode cX5_number 27 = .ok (.aload_n 0, 1) := by decide +kernel
theorem dX5_number_28 : decode cX5_number 28 = .ok (.dup, 1) := by decide +kernel
theorem dX5_number_29 : decode cX5_number 29 = .ok (.getfield 211, 3) := by decide +kernel
theorem dX5_number_32 : decode cX5_number 32 = .ok (.iconst 1, 1) := by decide +kernel
theorem dX5_number_33 : decode cX5_number 33 = .ok (.iadd, 1) := by decide +kernel
theorem dX5_number_34 : decode cX5_number 34 = .ok (.putfield 211, 3) := by decide +kernel
theorem dX5_number_37 : decode cX5_number 37 = .ok (.iload_n 2, 1) := by decide +kernel
theorem dX5_number_38 : decode cX5_number 38 = .ok (.ifCond .le 66, 3) := by decide +kernel
theorem dX5_number_41 : decode cX5_number 41 = .ok (.aload_n 0, 1) := by decide +kernel
theorem dX5_number_42 : decode cX5_number 42 = .ok (.bipush 48, 2) := by decide +kernel
theorem dX5_number_44 : decode cX5_number 44 = .ok (.bipush 57, 2) := by decide +kernel
theorem dX5_number_46 : decode cX5_number 46 = .ok (.invokevirtual 214, 3) := by decide +kernel
theorem dX5_number_49 : decode cX5_number 49 = .ok (.ifCond .eq 55, 3) := by decide +kernel
theorem dX5_number_52 : decode cX5_number 52 = .ok (.bipush 10, 2) := by decide +kernel
theorem dX5_number_54 : decode cX5_number 54 = .ok (.iload_n 2, 1) := by decide +kernel
theorem dX5_number_55 : decode cX5_number 55 = .ok (.imul, 1) := by decide +kernel
theorem dX5_number_56 : decode cX5_number 56 = .ok (.aload_n 0, 1) := by decide +kernel
theorem dX5_number_57 : decode cX5_number 57 = .ok (.getfield 26, 3) := by decide +kernel
theorem dX5_number_60 : decode cX5_number 60 = .ok (.aload_n 0, 1) := by decide +kernel
theorem dX5_number_61 : decode cX5_number 61 = .ok (.getfield 211, 3) := by decide +kernel
theorem dX5_number_64 : decode cX5_number 64 = .ok (.iaload, 1) := by decide +kernel
theorem dX5_number_65 : decode cX5_number 65 = .ok (.iadd, 1) := by decide +kernel
theorem dX5_number_66 : decode cX5_number 66 = .ok (.bipush 48, 2) := by decide +kernel
theorem dX5_number_68 : decode cX5_number 68 = .ok (.isub, 1) := by decide +kernel
theorem dX5_number_69 : decode cX5_number 69 = .ok (.iload_n 1, 1) := by decide +kernel
theorem dX5_number_70 : decode cX5_number 70 = .ok (.if_icmp .gt 34, 3) := by decide +kernel
theorem dX5_number_73 : decode cX5_number 73 = .ok (.bipush 10, 2) := by decide +kernel
theorem dX5_number_75 : decode cX5_number 75 = .ok (.iload_n 2, 1) := by decide +kernel
theorem dX5_number_76 : decode cX5_number 76 = .ok (.imul, 1) := by decide +kernel
theorem dX5_number_77 : decode cX5_number 77 = .ok (.aload_n 0, 1) := by decide +kernel
theorem dX5_number_78 : decode cX5_number 78 = .ok (.getfield 26, 3) := by decide +kernel
theorem dX5_number_81 : decode cX5_number 81 = .ok (.aload_n 0, 1) := by decide +kernel
theorem dX5_number_82 : decode cX5_number 82 = .ok (.getfield 211, 3) := by decide +kernel
theorem dX5_number_85 : decode cX5_number 85 = .ok (.iaload, 1) := by decide +kernel
theorem dX5_number_86 : decode cX5_number 86 = .ok (.iadd, 1) := by decide +kernel
theorem dX5_number_87 : decode cX5_number 87 = .ok (.bipush 48, 2) := by decide +kernel
theorem dX5_number_89 : decode cX5_number 89 = .ok (.isub, 1) := by decide +kernel
theorem dX5_number_90 : decode cX5_number 90 = .ok (.istore_n 2, 1) := by decide +kernel
theorem dX5_number_91 : decode cX5_number 91 = .ok (.aload_n 0, 1) := by decide +kernel
theorem dX5_number_92 : decode cX5_number 92 = .ok (.dup, 1) := by decide +kernel
theorem dX5_number_93 : decode cX5_number 93 = .ok (.getfield 211, 3) := by decide +kernel
theorem dX5_number_96 : decode cX5_number 96 = .ok (.iconst 1, 1) := by decide +kernel
theorem dX5_number_97 : decode cX5_number 97 = .ok (.iadd, 1) := by decide +kernel
theorem dX5_number_98 : decode cX5_number 98 = .ok (.putfield 211, 3) := by decide +kernel
theorem dX5_number_101 : decode cX5_number 101 = .ok (.goto (-64), 3) := by decide +kernel
theorem dX5_number_104 : decode cX5_number 104 = .ok (.iload_n 2, 1) := by decide +kernel
theorem dX5_number_105 : decode cX5_number 105 = .ok (.ireturn, 1) := by decide +kernel
theorem dX5_isLetter_0 : decode cX5_isLetter 0 = .ok (.iload_n 0, 1) := by decide +kernel
theorem dX5_isLetter_1 : decode cX5_isLetter 1 = .ok (.bipush 108, 2) := by decide +kernel
theorem dX5_isLetter_3 : decode cX5_isLetter 3 = .ok (.if_icmp .eq 45, 3) := by decide +kernel
theorem dX5_isLetter_6 : decode cX5_isLetter 6 = .ok (.iload_n 0, 1) := by decide +kernel
theorem dX5_isLetter_7 : decode cX5_isLetter 7 = .ok (.bipush 110, 2) := by decide +kernel
theorem dX5_isLetter_9 : decode cX5_isLetter 9 = .ok (.if_icmp .eq 39, 3) := by decide +kernel
theorem dX5_isLetter_12 : decode cX5_isLetter 12 = .ok (.iload_n 0, 1) := by decide +kernel
theorem dX5_isLetter_13 : decode cX5_isLetter 13 = .ok (.bipush 99, 2) := by decide +kernel
theorem dX5_isLetter_15 : decode cX5_isLetter 15 = .ok (.if_icmp .eq 33, 3) := by decide +kernel
theorem dX5_isLetter_18 : decode cX5_isLetter 18 = .ok (.iload_n 0, 1) := by decide +kernel
theorem dX5_isLetter_19 : decode cX5_isLetter 19 = .ok (.bipush 112, 2) := by decide +kernel
theorem dX5_isLetter_21 : decode cX5_isLetter 21 = .ok (.if_icmp .eq 27, 3) := by decide +kernel
theorem dX5_isLetter_24 : decode cX5_isLetter 24 = .ok (.iload_n 0, 1) := by decide +kernel
theorem dX5_isLetter_25 : decode cX5_isLetter 25 = .ok (.bipush 100, 2) := by decide +kernel
theorem dX5_isLetter_27 : decode cX5_isLetter 27 = .ok (.if_icmp .eq 21, 3) := by decide +kernel
theorem dX5_isLetter_30 : decode cX5_isLetter 30 = .ok (.iload_n 0, 1) := by decide +kernel
theorem dX5_isLetter_31 : decode cX5_isLetter 31 = .ok (.bipush 119, 2) := by decide +kernel
theorem dX5_isLetter_33 : decode cX5_isLetter 33 = .ok (.if_icmp .eq 15, 3) := by decide +kernel
theorem dX5_isLetter_36 : decode cX5_isLetter 36 = .ok (.iload_n 0, 1) := by decide +kernel
theorem dX5_isLetter_37 : decode cX5_isLetter 37 = .ok (.bipush 115, 2) := by decide +kernel
theorem dX5_isLetter_39 : decode cX5_isLetter 39 = .ok (.if_icmp .eq 9, 3) := by decide +kernel
theorem dX5_isLetter_42 : decode cX5_isLetter 42 = .ok (.iload_n 0, 1) := by decide +kernel
theorem dX5_isLetter_43 : decode cX5_isLetter 43 = .ok (.bipush 116, 2) := by decide +kernel
theorem dX5_isLetter_45 : decode cX5_isLetter 45 = .ok (.if_icmp .ne 7, 3) := by decide +kernel
theorem dX5_isLetter_48 : decode cX5_isLetter 48 = .ok (.iconst 1, 1) := by decide +kernel
theorem dX5_isLetter_49 : decode cX5_isLetter 49 = .ok (.goto 4, 3) := by decide +kernel
theorem dX5_isLetter_52 : decode cX5_isLetter 52 = .ok (.iconst 0, 1) := by decide +kernel
theorem dX5_isLetter_53 : decode cX5_isLetter 53 = .ok (.ireturn, 1) := by decide +kernel
theorem dX5_readOrder_0 : decode cX5_readOrder 0 = .ok (.aload_n 0, 1) := by decide +kernel
theorem dX5_readOrder_1 : decode cX5_readOrder 1 = .ok (.getfield 211, 3) := by decide +kernel
theorem dX5_readOrder_4 : decode cX5_readOrder 4 = .ok (.aload_n 0, 1) := by decide +kernel
theorem dX5_readOrder_5 : decode cX5_readOrder 5 = .ok (.getfield 197, 3) := by decide +kernel
theorem dX5_readOrder_8 : decode cX5_readOrder 8 = .ok (.if_icmp .ge 15, 3) := by decide +kernel
theorem dX5_readOrder_11 : decode cX5_readOrder 11 = .ok (.aload_n 0, 1) := by decide +kernel
theorem dX5_readOrder_12 : decode cX5_readOrder 12 = .ok (.getfield 26, 3) := by decide +kernel
theorem dX5_readOrder_15 : decode cX5_readOrder 15 = .ok (.aload_n 0, 1) := by decide +kernel
theorem dX5_readOrder_16 : decode cX5_readOrder 16 = .ok (.getfield 211, 3) := by decide +kernel
theorem dX5_readOrder_19 : decode cX5_readOrder 19 = .ok (.iaload, 1) := by decide +kernel
theorem dX5_readOrder_20 : decode cX5_readOrder 20 = .ok (.goto 4, 3) := by decide +kernel
theorem dX5_readOrder_23 : decode cX5_readOrder 23 = .ok (.iconst 0, 1) := by decide +kernel
theorem dX5_readOrder_24 : decode cX5_readOrder 24 = .ok (.istore_n 1, 1) := by decide +kernel
theorem dX5_readOrder_25 : decode cX5_readOrder 25 = .ok (.iload_n 1, 1) := by decide +kernel
theorem dX5_readOrder_26 : decode cX5_readOrder 26 = .ok (.invokestatic 217, 3) := by decide +kernel
theorem dX5_readOrder_29 : decode cX5_readOrder 29 = .ok (.ifCond .ne 5, 3) := by decide +kernel
theorem dX5_readOrder_32 : decode cX5_readOrder 32 = .ok (.iconst 0, 1) := by decide +kernel
theorem dX5_readOrder_33 : decode cX5_readOrder 33 = .ok (.ireturn, 1) := by decide +kernel
theorem dX5_readOrder_34 : decode cX5_readOrder 34 = .ok (.aload_n 0, 1) := by decide +kernel
theorem dX5_readOrder_35 : decode cX5_readOrder 35 = .ok (.dup, 1) := by decide +kernel
theorem dX5_readOrder_36 : decode cX5_readOrder 36 = .ok (.getfield 211, 3) := by decide +kernel
theorem dX5_readOrder_39 : decode cX5_readOrder 39 = .ok (.iconst 1, 1) := by decide +kernel
theorem dX5_readOrder_40 : decode cX5_readOrder 40 = .ok (.iadd, 1) := by decide +kernel
theorem dX5_readOrder_41 : decode cX5_readOrder 41 = .ok (.putfield 211, 3) := by decide +kernel
theorem dX5_readOrder_44 : decode cX5_readOrder 44 = .ok (.aload_n 0, 1) := by decide +kernel
theorem dX5_readOrder_45 : decode cX5_readOrder 45 = .ok (.sipush 9999, 3) := by decide +kernel
theorem dX5_readOrder_48 : decode cX5_readOrder 48 = .ok (.invokevirtual 220, 3) := by decide +kernel
theorem dX5_readOrder_51 : decode cX5_readOrder 51 = .ok (.istore_n 2, 1) := by decide +kernel
theorem dX5_readOrder_52 : decode cX5_readOrder 52 = .ok (.iconst 0, 1) := by decide +kernel
theorem dX5_readOrder_53 : decode cX5_readOrder 53 = .ok (.istore_n 3, 1) := by decide +kernel
theorem dX5_readOrder_54 : decode cX5_readOrder 54 = .ok (.iconst 0, 1) := by decide +kernel
theorem dX5_readOrder_55 : decode cX5_readOrder 55 = .ok (.istore 4, 2) := by decide +kernel
theorem dX5_readOrder_57 : decode cX5_readOrder 57 = .ok (.iload_n 2, 1) := by decide +kernel
theorem dX5_readOrder_58 : decode cX5_readOrder 58 = .ok (.bipush (-6), 2) := by decide +kernel
theorem dX5_readOrder_60 : decode cX5_readOrder 60 = .ok (.if_icmp .eq 59, 3) := by decide +kernel
theorem dX5_readOrder_63 : decode cX5_readOrder 63 = .ok (.iload_n 1, 1) := by decide +kernel
theorem dX5_readOrder_64 : decode cX5_readOrder 64 = .ok (.bipush 99, 2) := by decide +kernel
theorem dX5_readOrder_66 : decode cX5_readOrder 66 = .ok (.if_icmp .ne 53, 3) := by decide +kernel
theorem dX5_readOrder_69 : decode cX5_readOrder 69 = .ok (.aload_n 0, 1) := by decide +kernel
theorem dX5_readOrder_70 : decode cX5_readOrder 70 = .ok (.bipush 64, 2) := by decide +kernel
theorem dX5_readOrder_72 : decode cX5_readOrder 72 = .ok (.invokevirtual 223, 3) := by decide +kernel
theorem dX5_readOrder_75 : decode cX5_readOrder 75 = .ok (.ifCond .eq 13, 3) := by decide +kernel
theorem dX5_readOrder_78 : decode cX5_readOrder 78 = .ok (.aload_n 0, 1) := by decide +kernel
theorem dX5_readOrder_79 : decode cX5_readOrder 79 = .ok (.sipush 9999, 3) := by decide +kernel
theorem dX5_readOrder_82 : decode cX5_readOrder 82 = .ok (.invokevirtual 220, 3) := by decide +kernel
theorem dX5_readOrder_85 : decode cX5_readOrder 85 = .ok (.goto 5, 3) := by decide +kernel
theorem dX5_readOrder_88 : decode cX5_readOrder 88 = .ok (.bipush (-6), 2) := by decide +kernel
theorem dX5_readOrder_90 : decode cX5_readOrder 90 = .ok (.istore_n 3, 1) := by decide +kernel
theorem dX5_readOrder_91 : decode cX5_readOrder 91 = .ok (.iload_n 3, 1) := by decide +kernel
theorem dX5_readOrder_92 : decode cX5_readOrder 92 = .ok (.bipush (-6), 2) := by decide +kernel
theorem dX5_readOrder_94 : decode cX5_readOrder 94 = .ok (.if_icmp .eq 21, 3) := by decide +kernel
theorem dX5_readOrder_97 : decode cX5_readOrder 97 = .ok (.aload_n 0, 1) := by decide +kernel
theorem dX5_readOrder_98 : decode cX5_readOrder 98 = .ok (.bipush 47, 2) := by decide +kernel
theorem dX5_readOrder_100 : decode cX5_readOrder 100 = .ok (.invokevirtual 223, 3) := by decide +kernel
theorem dX5_readOrder_103 : decode cX5_readOrder 103 = .ok (.ifCond .eq 12, 3) := by decide +kernel
theorem dX5_readOrder_106 : decode cX5_readOrder 106 = .ok (.aload_n 0, 1) := by decide +kernel
theorem dX5_readOrder_107 : decode cX5_readOrder 107 = .ok (.bipush 9, 2) := by decide +kernel
theorem dX5_readOrder_109 : decode cX5_readOrder 109 = .ok (.invokevirtual 220, 3) := by decide +kernel
theorem dX5_readOrder_112 : decode cX5_readOrder 112 = .ok (.goto 5, 3) := by decide +kernel
theorem dX5_readOrder_115 : decode cX5_readOrder 115 = .ok (.bipush (-6), 2) := by decide +kernel
theorem dX5_readOrder_117 : decode cX5_readOrder 117 = .ok (.istore 4, 2) := by decide +kernel
theorem dX5_readOrder_119 : decode cX5_readOrder 119 = .ok (.iload_n 2, 1) := by decide +kernel
theorem dX5_readOrder_120 : decode cX5_readOrder 120 = .ok (.bipush (-6), 2) := by decide +kernel
theorem dX5_readOrder_122 : decode cX5_readOrder 122 = .ok (.if_icmp .eq 31, 3) := by decide +kernel
theorem dX5_readOrder_125 : decode cX5_readOrder 125 = .ok (.iload_n 1, 1) := by decide +kernel
theorem dX5_readOrder_126 : decode cX5_readOrder 126 = .ok (.bipush 112, 2) := by decide +kernel
theorem dX5_readOrder_128 : decode cX5_readOrder 128 = .ok (.if_icmp .ne 25, 3) := by decide +kernel
theorem dX5_readOrder_131 : decode cX5_readOrder 131 = .ok (.aload_n 0, 1) := by decide +kernel
theorem dX5_readOrder_132 : decode cX5_readOrder 132 = .ok (.bipush 43, 2) := by decide +kernel
theorem dX5_readOrder_134 : decode cX5_readOrder 134 = .ok (.invokevirtual 223, 3) := by decide +kernel
theorem dX5_readOrder_137 : decode cX5_readOrder 137 = .ok (.ifCond .eq 13, 3) := by decide +kernel
theorem dX5_readOrder_140 : decode cX5_readOrder 140 = .ok (.aload_n 0, 1) := by decide +kernel
theorem dX5_readOrder_141 : decode cX5_readOrder 141 = .ok (.sipush 9999, 3) := by decide +kernel
theorem dX5_readOrder_144 : decode cX5_readOrder 144 = .ok (.invokevirtual 220, 3) := by decide +kernel
theorem dX5_readOrder_147 : decode cX5_readOrder 147 = .ok (.goto 5, 3) := by decide +kernel
theorem dX5_readOrder_150 : decode cX5_readOrder 150 = .ok (.bipush (-6), 2) := by decide +kernel
theorem dX5_readOrder_152 : decode cX5_readOrder 152 = .ok (.istore_n 3, 1) := by decide +kernel
theorem dX5_readOrder_153 : decode cX5_readOrder 153 = .ok (.aload_n 0, 1) := by decide +kernel
theorem dX5_readOrder_154 : decode cX5_readOrder 154 = .ok (.getfield 29, 3) := by decide +kernel
theorem dX5_readOrder_157 : decode cX5_readOrder 157 = .ok (.iconst 4, 1) := by decide +kernel
theorem dX5_readOrder_158 : decode cX5_readOrder 158 = .ok (.aload_n 0, 1) := by decide +kernel
theorem dX5_readOrder_159 : decode cX5_readOrder 159 = .ok (.getfield 226, 3) := by decide +kernel
theorem dX5_readOrder_162 : decode cX5_readOrder 162 = .ok (.imul, 1) := by decide +kernel
theorem dX5_readOrder_163 : decode cX5_readOrder 163 = .ok (.iload_n 1, 1) := by decide +kernel
theorem dX5_readOrder_164 : decode cX5_readOrder 164 = .ok (.iastore, 1) := by decide +kernel
theorem dX5_readOrder_165 : decode cX5_readOrder 165 = .ok (.aload_n 0, 1) := by decide +kernel
theorem dX5_readOrder_166 : decode cX5_readOrder 166 = .ok (.getfield 29, 3) := by decide +kernel
theorem dX5_readOrder_169 : decode cX5_readOrder 169 = .ok (.iconst 4, 1) := by decide +kernel
theorem dX5_readOrder_170 : decode cX5_readOrder 170 = .ok (.aload_n 0, 1) := by decide +kernel
theorem dX5_readOrder_171 : decode cX5_readOrder 171 = .ok (.getfield 226, 3) := by decide +kernel
theorem dX5_readOrder_174 : decode cX5_readOrder 174 = .ok (.imul, 1) := by decide +kernel
theorem dX5_readOrder_175 : decode cX5_readOrder 175 = .ok (.iconst 1, 1) := by decide +kernel
theorem dX5_readOrder_176 : decode cX5_readOrder 176 = .ok (.iadd, 1) := by decide +kernel
theorem dX5_readOrder_177 : decode cX5_readOrder 177 = .ok (.iload_n 2, 1) := by decide +kernel
theorem dX5_readOrder_178 : decode cX5_readOrder 178 = .ok (.iastore, 1) := by decide +kernel
theorem dX5_readOrder_179 : decode cX5_readOrder 179 = .ok (.aload_n 0, 1) := by decide +kernel
theorem dX5_readOrder_180 : decode cX5_readOrder 180 = .ok (.getfield 29, 3) := by decide +kernel
theorem dX5_readOrder_183 : decode cX5_readOrder 183 = .ok (.iconst 4, 1) := by decide +kernel
theorem dX5_readOrder_184 : decode cX5_readOrder 184 = .ok (.aload_n 0, 1) := by decide +kernel
theorem dX5_readOrder_185 : decode cX5_readOrder 185 = .ok (.getfield 226, 3) := by decide +kernel
theorem dX5_readOrder_188 : decode cX5_readOrder 188 = .ok (.imul, 1) := by decide +kernel
theorem dX5_readOrder_189 : decode cX5_readOrder 189 = .ok (.iconst 2, 1) := by decide +kernel
theorem dX5_readOrder_190 : decode cX5_readOrder 190 = .ok (.iadd, 1) := by decide +kernel
theorem dX5_readOrder_191 : decode cX5_readOrder 191 = .ok (.iload_n 3, 1) := by decide +kernel
theorem dX5_readOrder_192 : decode cX5_readOrder 192 = .ok (.iastore, 1) := by decide +kernel
theorem dX5_readOrder_193 : decode cX5_readOrder 193 = .ok (.aload_n 0, 1) := by decide +kernel
theorem dX5_readOrder_194 : decode cX5_readOrder 194 = .ok (.getfield 29, 3) := by decide +kernel
theorem dX5_readOrder_197 : decode cX5_readOrder 197 = .ok (.iconst 4, 1) := by decide +kernel
theorem dX5_readOrder_198 : decode cX5_readOrder 198 = .ok (.aload_n 0, 1) := by decide +kernel
theorem dX5_readOrder_199 : decode cX5_readOrder 199 = .ok (.getfield 226, 3) := by decide +kernel
theorem dX5_readOrder_202 : decode cX5_readOrder 202 = .ok (.imul, 1) := by decide +kernel
theorem dX5_readOrder_203 : decode cX5_readOrder 203 = .ok (.iconst 3, 1) := by decide +kernel
theorem dX5_readOrder_204 : decode cX5_readOrder 204 = .ok (.iadd, 1) := by decide +kernel
theorem dX5_readOrder_205 : decode cX5_readOrder 205 = .ok (.iload 4, 2) := by decide +kernel
theorem dX5_readOrder_207 : decode cX5_readOrder 207 = .ok (.iastore, 1) := by decide +kernel
theorem dX5_readOrder_208 : decode cX5_readOrder 208 = .ok (.aload_n 0, 1) := by decide +kernel
theorem dX5_readOrder_209 : decode cX5_readOrder 209 = .ok (.dup, 1) := by decide +kernel
theorem dX5_readOrder_210 : decode cX5_readOrder 210 = .ok (.getfield 226, 3) := by decide +kernel
theorem dX5_readOrder_213 : decode cX5_readOrder 213 = .ok (.iconst 1, 1) := by decide +kernel
theorem dX5_readOrder_214 : decode cX5_readOrder 214 = .ok (.iadd, 1) := by decide +kernel
theorem dX5_readOrder_215 : decode cX5_readOrder 215 = .ok (.putfield 226, 3) := by decide +kernel
theorem dX5_readOrder_218 : decode cX5_readOrder 218 = .ok (.iload_n 2, 1) := by decide +kernel
theorem dX5_readOrder_219 : decode cX5_readOrder 219 = .ok (.bipush (-6), 2) := by decide +kernel
theorem dX5_readOrder_221 : decode cX5_readOrder 221 = .ok (.if_icmp .eq 20, 3) := by decide +kernel
theorem dX5_readOrder_224 : decode cX5_readOrder 224 = .ok (.iload_n 3, 1) := by decide +kernel
theorem dX5_readOrder_225 : decode cX5_readOrder 225 = .ok (.bipush (-6), 2) := by decide +kernel
theorem dX5_readOrder_227 : decode cX5_readOrder 227 = .ok (.if_icmp .eq 14, 3) := by decide +kernel
theorem dX5_readOrder_230 : decode cX5_readOrder 230 = .ok (.iload 4, 2) := by decide +kernel
theorem dX5_readOrder_232 : decode cX5_readOrder 232 = .ok (.bipush (-6), 2) := by decide +kernel
theorem dX5_readOrder_234 : decode cX5_readOrder 234 = .ok (.if_icmp .eq 7, 3) := by decide +kernel
theorem dX5_readOrder_237 : decode cX5_readOrder 237 = .ok (.iconst 1, 1) := by decide +kernel
theorem dX5_readOrder_238 : decode cX5_readOrder 238 = .ok (.goto 4, 3) := by decide +kernel
theorem dX5_readOrder_241 : decode cX5_readOrder 241 = .ok (.iconst 0, 1) := by decide +kernel
theorem dX5_readOrder_242 : decode cX5_readOrder 242 = .ok (.ireturn, 1) := by decide +kernel
theorem dX5_readPad_0 : decode cX5_readPad 0 = .ok (.aload_n 0, 1) := by decide +kernel
theorem dX5_readPad_1 : decode cX5_readPad 1 = .ok (.iconst 0, 1) := by decide +kernel
theorem dX5_readPad_2 : decode cX5_readPad 2 = .ok (.putfield 211, 3) := by decide +kernel
theorem dX5_readPad_5 : decode cX5_readPad 5 = .ok (.aload_n 0, 1) := by decide +kernel
theorem dX5_readPad_6 : decode cX5_readPad 6 = .ok (.iconst 0, 1) := by decide +kernel
theorem dX5_readPad_7 : decode cX5_readPad 7 = .ok (.putfield 226, 3) := by decide +kernel
theorem dX5_readPad_10 : decode cX5_readPad 10 = .ok (.aload_n 0, 1) := by decide +kernel
theorem dX5_readPad_11 : decode cX5_readPad 11 = .ok (.invokevirtual 229, 3) := by decide +kernel
theorem dX5_readPad_14 : decode cX5_readPad 14 = .ok (.istore_n 1, 1) := by decide +kernel
theorem dX5_readPad_15 : decode cX5_readPad 15 = .ok (.iload_n 1, 1) := by decide +kernel
theorem dX5_readPad_16 : decode cX5_readPad 16 = .ok (.ifCond .eq 39, 3) := by decide +kernel
theorem dX5_readPad_19 : decode cX5_readPad 19 = .ok (.aload_n 0, 1) := by decide +kernel
theorem dX5_readPad_20 : decode cX5_readPad 20 = .ok (.getfield 211, 3) := by decide +kernel
theorem dX5_readPad_23 : decode cX5_readPad 23 = .ok (.aload_n 0, 1) := by decide +kernel
theorem dX5_readPad_24 : decode cX5_readPad 24 = .ok (.getfield 197, 3) := by decide +kernel
theorem dX5_readPad_27 : decode cX5_readPad 27 = .ok (.if_icmp .ge 28, 3) := by decide +kernel
theorem dX5_readPad_30 : decode cX5_readPad 30 = .ok (.aload_n 0, 1) := by decide +kernel
theorem dX5_readPad_31 : decode cX5_readPad 31 = .ok (.bipush 59, 2) := by decide +kernel
theorem dX5_readPad_33 : decode cX5_readPad 33 = .ok (.invokevirtual 223, 3) := by decide +kernel
theorem dX5_readPad_36 : decode cX5_readPad 36 = .ok (.ifCond .eq 14, 3) := by decide +kernel
theorem dX5_readPad_39 : decode cX5_readPad 39 = .ok (.aload_n 0, 1) := by decide +kernel
theorem dX5_readPad_40 : decode cX5_readPad 40 = .ok (.invokevirtual 229, 3) := by decide +kernel
theorem dX5_readPad_43 : decode cX5_readPad 43 = .ok (.ifCond .eq 7, 3) := by decide +kernel
theorem dX5_readPad_46 : decode cX5_readPad 46 = .ok (.iconst 1, 1) := by decide +kernel
theorem dX5_readPad_47 : decode cX5_readPad 47 = .ok (.goto 4, 3) := by decide +kernel
theorem dX5_readPad_50 : decode cX5_readPad 50 = .ok (.iconst 0, 1) := by decide +kernel
theorem dX5_readPad_51 : decode cX5_readPad 51 = .ok (.istore_n 1, 1) := by decide +kernel
theorem dX5_readPad_52 : decode cX5_readPad 52 = .ok (.goto (-37), 3) := by decide +kernel
theorem dX5_readPad_55 : decode cX5_readPad 55 = .ok (.iload_n 1, 1) := by decide +kernel
theorem dX5_readPad_56 : decode cX5_readPad 56 = .ok (.ireturn, 1) := by decide +kernel
theorem dX5_fault_0 : decode cX5_fault 0 = .ok (.aload_n 0, 1) := by decide +kernel
theorem dX5_fault_1 : decode cX5_fault 1 = .ok (.invokevirtual 233, 3) := by decide +kernel
theorem dX5_fault_4 : decode cX5_fault 4 = .ok (.ifCond .eq 8, 3) := by decide +kernel
theorem dX5_fault_7 : decode cX5_fault 7 = .ok (.bipush (-6), 2) := by decide +kernel
theorem dX5_fault_9 : decode cX5_fault 9 = .ok (.goto 7, 3) := by decide +kernel
theorem dX5_fault_12 : decode cX5_fault 12 = .ok (.aload_n 0, 1) := by decide +kernel
theorem dX5_fault_13 : decode cX5_fault 13 = .ok (.getfield 211, 3) := by decide +kernel
theorem dX5_fault_16 : decode cX5_fault 16 = .ok (.ireturn, 1) := by decide +kernel
theorem dX5_whyNot_0 : decode cX5_whyNot 0 = .ok (.aload_n 0, 1) := by decide +kernel
theorem dX5_whyNot_1 : decode cX5_whyNot 1 = .ok (.getfield 29, 3) := by decide +kernel
theorem dX5_whyNot_4 : decode cX5_whyNot 4 = .ok (.iconst 4, 1) := by decide +kernel
theorem dX5_whyNot_5 : decode cX5_whyNot 5 = .ok (.iload_n 1, 1) := by decide +kernel
theorem dX5_whyNot_6 : decode cX5_whyNot 6 = .ok (.imul, 1) := by decide +kernel
theorem dX5_whyNot_7 : decode cX5_whyNot 7 = .ok (.iconst 1, 1) := by decide +kernel
theorem dX5_whyNot_8 : decode cX5_whyNot 8 = .ok (.iadd, 1) := by decide +kernel
theorem dX5_whyNot_9 : decode cX5_whyNot 9 = .ok (.iaload, 1) := by decide +kernel
theorem dX5_whyNot_10 : decode cX5_whyNot 10 = .ok (.istore_n 2, 1) := by decide +kernel
theorem dX5_whyNot_11 : decode cX5_whyNot 11 = .ok (.aload_n 0, 1) := by decide +kernel
theorem dX5_whyNot_12 : decode cX5_whyNot 12 = .ok (.getfield 29, 3) := by decide +kernel
theorem dX5_whyNot_15 : decode cX5_whyNot 15 = .ok (.iconst 4, 1) := by decide +kernel
theorem dX5_whyNot_16 : decode cX5_whyNot 16 = .ok (.iload_n 1, 1) := by decide +kernel
theorem dX5_whyNot_17 : decode cX5_whyNot 17 = .ok (.imul, 1) := by decide +kernel
theorem dX5_whyNot_18 : decode cX5_whyNot 18 = .ok (.iaload, 1) := by decide +kernel
theorem dX5_whyNot_19 : decode cX5_whyNot 19 = .ok (.tableswitch 169 99 119 #[109, 151, 169, 169, 169, 169, 169, 169, 169, 97, 169, 103, 169, 135, 169, 169, 163, 169, 169, 169, 157], 97) := by decide +kernel
theorem dX5_whyNot_116 : decode cX5_whyNot 116 = .ok (.aload_n 0, 1) := by decide +kernel
theorem dX5_whyNot_117 : decode cX5_whyNot 117 = .ok (.iload_n 2, 1) := by decide +kernel
theorem dX5_whyNot_118 : decode cX5_whyNot 118 = .ok (.invokevirtual 72, 3) := by decide +kernel
theorem dX5_whyNot_121 : decode cX5_whyNot 121 = .ok (.ireturn, 1) := by decide +kernel
theorem dX5_whyNot_122 : decode cX5_whyNot 122 = .ok (.aload_n 0, 1) := by decide +kernel
theorem dX5_whyNot_123 : decode cX5_whyNot 123 = .ok (.iload_n 2, 1) := by decide +kernel
theorem dX5_whyNot_124 : decode cX5_whyNot 124 = .ok (.invokevirtual 85, 3) := by decide +kernel
theorem dX5_whyNot_127 : decode cX5_whyNot 127 = .ok (.ireturn, 1) := by decide +kernel
theorem dX5_whyNot_128 : decode cX5_whyNot 128 = .ok (.aload_n 0, 1) := by decide +kernel
theorem dX5_whyNot_129 : decode cX5_whyNot 129 = .ok (.iload_n 2, 1) := by decide +kernel
theorem dX5_whyNot_130 : decode cX5_whyNot 130 = .ok (.aload_n 0, 1) := by decide +kernel
theorem dX5_whyNot_131 : decode cX5_whyNot 131 = .ok (.getfield 29, 3) := by decide +kernel
theorem dX5_whyNot_134 : decode cX5_whyNot 134 = .ok (.iconst 4, 1) := by decide +kernel
theorem dX5_whyNot_135 : decode cX5_whyNot 135 = .ok (.iload_n 1, 1) := by decide +kernel
theorem dX5_whyNot_136 : decode cX5_whyNot 136 = .ok (.imul, 1) := by decide +kernel
theorem dX5_whyNot_137 : decode cX5_whyNot 137 = .ok (.iconst 2, 1) := by decide +kernel
theorem dX5_whyNot_138 : decode cX5_whyNot 138 = .ok (.iadd, 1) := by decide +kernel
theorem dX5_whyNot_139 : decode cX5_whyNot 139 = .ok (.iaload, 1) := by decide +kernel
theorem dX5_whyNot_140 : decode cX5_whyNot 140 = .ok (.aload_n 0, 1) := by decide +kernel
theorem dX5_whyNot_141 : decode cX5_whyNot 141 = .ok (.getfield 29, 3) := by decide +kernel
theorem dX5_whyNot_144 : decode cX5_whyNot 144 = .ok (.iconst 4, 1) := by decide +kernel
theorem dX5_whyNot_145 : decode cX5_whyNot 145 = .ok (.iload_n 1, 1) := by decide +kernel
theorem dX5_whyNot_146 : decode cX5_whyNot 146 = .ok (.imul, 1) := by decide +kernel
theorem dX5_whyNot_147 : decode cX5_whyNot 147 = .ok (.iconst 3, 1) := by decide +kernel
theorem dX5_whyNot_148 : decode cX5_whyNot 148 = .ok (.iadd, 1) := by decide +kernel
theorem dX5_whyNot_149 : decode cX5_whyNot 149 = .ok (.iaload, 1) := by decide +kernel
theorem dX5_whyNot_150 : decode cX5_whyNot 150 = .ok (.invokevirtual 106, 3) := by decide +kernel
theorem dX5_whyNot_153 : decode cX5_whyNot 153 = .ok (.ireturn, 1) := by decide +kernel
theorem dX5_whyNot_154 : decode cX5_whyNot 154 = .ok (.aload_n 0, 1) := by decide +kernel
theorem dX5_whyNot_155 : decode cX5_whyNot 155 = .ok (.iload_n 2, 1) := by decide +kernel
theorem dX5_whyNot_156 : decode cX5_whyNot 156 = .ok (.aload_n 0, 1) := by decide +kernel
theorem dX5_whyNot_157 : decode cX5_whyNot 157 = .ok (.getfield 29, 3) := by decide +kernel
theorem dX5_whyNot_160 : decode cX5_whyNot 160 = .ok (.iconst 4, 1) := by decide +kernel
theorem dX5_whyNot_161 : decode cX5_whyNot 161 = .ok (.iload_n 1, 1) := by decide +kernel
theorem dX5_whyNot_162 : decode cX5_whyNot 162 = .ok (.imul, 1) := by decide +kernel
theorem dX5_whyNot_163 : decode cX5_whyNot 163 = .ok (.iconst 2, 1) := by decide +kernel
theorem dX5_whyNot_164 : decode cX5_whyNot 164 = .ok (.iadd, 1) := by decide +kernel
theorem dX5_whyNot_165 : decode cX5_whyNot 165 = .ok (.iaload, 1) := by decide +kernel
theorem dX5_whyNot_166 : decode cX5_whyNot 166 = .ok (.invokevirtual 119, 3) := by decide +kernel
theorem dX5_whyNot_169 : decode cX5_whyNot 169 = .ok (.ireturn, 1) := by decide +kernel
theorem dX5_whyNot_170 : decode cX5_whyNot 170 = .ok (.aload_n 0, 1) := by decide +kernel
theorem dX5_whyNot_171 : decode cX5_whyNot 171 = .ok (.iload_n 2, 1) := by decide +kernel
theorem dX5_whyNot_172 : decode cX5_whyNot 172 = .ok (.invokevirtual 125, 3) := by decide +kernel
theorem dX5_whyNot_175 : decode cX5_whyNot 175 = .ok (.ireturn, 1) := by decide +kernel
theorem dX5_whyNot_176 : decode cX5_whyNot 176 = .ok (.aload_n 0, 1) := by decide +kernel
theorem dX5_whyNot_177 : decode cX5_whyNot 177 = .ok (.iload_n 2, 1) := by decide +kernel
theorem dX5_whyNot_178 : decode cX5_whyNot 178 = .ok (.invokevirtual 134, 3) := by decide +kernel
theorem dX5_whyNot_181 : decode cX5_whyNot 181 = .ok (.ireturn, 1) := by decide +kernel
theorem dX5_whyNot_182 : decode cX5_whyNot 182 = .ok (.aload_n 0, 1) := by decide +kernel
theorem dX5_whyNot_183 : decode cX5_whyNot 183 = .ok (.iload_n 2, 1) := by decide +kernel
theorem dX5_whyNot_184 : decode cX5_whyNot 184 = .ok (.invokevirtual 156, 3) := by decide +kernel
theorem dX5_whyNot_187 : decode cX5_whyNot 187 = .ok (.ireturn, 1) := by decide +kernel
theorem dX5_whyNot_188 : decode cX5_whyNot 188 = .ok (.aload_n 0, 1) := by decide +kernel
theorem dX5_whyNot_189 : decode cX5_whyNot 189 = .ok (.iload_n 2, 1) := by decide +kernel
theorem dX5_whyNot_190 : decode cX5_whyNot 190 = .ok (.invokevirtual 169, 3) := by decide +kernel
theorem dX5_whyNot_193 : decode cX5_whyNot 193 = .ok (.ireturn, 1) := by decide +kernel
theorem dX5_doOrder_0 : decode cX5_doOrder 0 = .ok (.aload_n 0, 1) := by decide +kernel
theorem dX5_doOrder_1 : decode cX5_doOrder 1 = .ok (.getfield 29, 3) := by decide +kernel
theorem dX5_doOrder_4 : decode cX5_doOrder 4 = .ok (.iconst 4, 1) := by decide +kernel
theorem dX5_doOrder_5 : decode cX5_doOrder 5 = .ok (.iload_n 1, 1) := by decide +kernel
theorem dX5_doOrder_6 : decode cX5_doOrder 6 = .ok (.imul, 1) := by decide +kernel
theorem dX5_doOrder_7 : decode cX5_doOrder 7 = .ok (.iconst 1, 1) := by decide +kernel
theorem dX5_doOrder_8 : decode cX5_doOrder 8 = .ok (.iadd, 1) := by decide +kernel
theorem dX5_doOrder_9 : decode cX5_doOrder 9 = .ok (.iaload, 1) := by decide +kernel
theorem dX5_doOrder_10 : decode cX5_doOrder 10 = .ok (.istore_n 2, 1) := by decide +kernel
theorem dX5_doOrder_11 : decode cX5_doOrder 11 = .ok (.aload_n 0, 1) := by decide +kernel
theorem dX5_doOrder_12 : decode cX5_doOrder 12 = .ok (.getfield 29, 3) := by decide +kernel
theorem dX5_doOrder_15 : decode cX5_doOrder 15 = .ok (.iconst 4, 1) := by decide +kernel
theorem dX5_doOrder_16 : decode cX5_doOrder 16 = .ok (.iload_n 1, 1) := by decide +kernel
theorem dX5_doOrder_17 : decode cX5_doOrder 17 = .ok (.imul, 1) := by decide +kernel
theorem dX5_doOrder_18 : decode cX5_doOrder 18 = .ok (.iaload, 1) := by decide +kernel
theorem dX5_doOrder_19 : decode cX5_doOrder 19 = .ok (.tableswitch 169 99 119 #[109, 151, 169, 169, 169, 169, 169, 169, 169, 97, 169, 103, 169, 135, 169, 169, 163, 169, 169, 169, 157], 97) := by decide +kernel
theorem dX5_doOrder_116 : decode cX5_doOrder 116 = .ok (.aload_n 0, 1) := by decide +kernel
theorem dX5_doOrder_117 : decode cX5_doOrder 117 = .ok (.iload_n 2, 1) := by decide +kernel
theorem dX5_doOrder_118 : decode cX5_doOrder 118 = .ok (.invokevirtual 75, 3) := by decide +kernel
theorem dX5_doOrder_121 : decode cX5_doOrder 121 = .ok (.ireturn, 1) := by decide +kernel
theorem dX5_doOrder_122 : decode cX5_doOrder 122 = .ok (.aload_n 0, 1) := by decide +kernel
theorem dX5_doOrder_123 : decode cX5_doOrder 123 = .ok (.iload_n 2, 1) := by decide +kernel
theorem dX5_doOrder_124 : decode cX5_doOrder 124 = .ok (.invokevirtual 88, 3) := by decide +kernel
theorem dX5_doOrder_127 : decode cX5_doOrder 127 = .ok (.ireturn, 1) := by decide +kernel
theorem dX5_doOrder_128 : decode cX5_doOrder 128 = .ok (.aload_n 0, 1) := by decide +kernel
theorem dX5_doOrder_129 : decode cX5_doOrder 129 = .ok (.iload_n 2, 1) := by decide +kernel
theorem dX5_doOrder_130 : decode cX5_doOrder 130 = .ok (.aload_n 0, 1) := by decide +kernel
theorem dX5_doOrder_131 : decode cX5_doOrder 131 = .ok (.getfield 29, 3) := by decide +kernel
theorem dX5_doOrder_134 : decode cX5_doOrder 134 = .ok (.iconst 4, 1) := by decide +kernel
theorem dX5_doOrder_135 : decode cX5_doOrder 135 = .ok (.iload_n 1, 1) := by decide +kernel
theorem dX5_doOrder_136 : decode cX5_doOrder 136 = .ok (.imul, 1) := by decide +kernel
theorem dX5_doOrder_137 : decode cX5_doOrder 137 = .ok (.iconst 2, 1) := by decide +kernel
theorem dX5_doOrder_138 : decode cX5_doOrder 138 = .ok (.iadd, 1) := by decide +kernel
theorem dX5_doOrder_139 : decode cX5_doOrder 139 = .ok (.iaload, 1) := by decide +kernel
theorem dX5_doOrder_140 : decode cX5_doOrder 140 = .ok (.aload_n 0, 1) := by decide +kernel
theorem dX5_doOrder_141 : decode cX5_doOrder 141 = .ok (.getfield 29, 3) := by decide +kernel
theorem dX5_doOrder_144 : decode cX5_doOrder 144 = .ok (.iconst 4, 1) := by decide +kernel
theorem dX5_doOrder_145 : decode cX5_doOrder 145 = .ok (.iload_n 1, 1) := by decide +kernel
theorem dX5_doOrder_146 : decode cX5_doOrder 146 = .ok (.imul, 1) := by decide +kernel
theorem dX5_doOrder_147 : decode cX5_doOrder 147 = .ok (.iconst 3, 1) := by decide +kernel
theorem dX5_doOrder_148 : decode cX5_doOrder 148 = .ok (.iadd, 1) := by decide +kernel
theorem dX5_doOrder_149 : decode cX5_doOrder 149 = .ok (.iaload, 1) := by decide +kernel
theorem dX5_doOrder_150 : decode cX5_doOrder 150 = .ok (.invokevirtual 110, 3) := by decide +kernel
theorem dX5_doOrder_153 : decode cX5_doOrder 153 = .ok (.ireturn, 1) := by decide +kernel
theorem dX5_doOrder_154 : decode cX5_doOrder 154 = .ok (.aload_n 0, 1) := by decide +kernel
theorem dX5_doOrder_155 : decode cX5_doOrder 155 = .ok (.iload_n 2, 1) := by decide +kernel
theorem dX5_doOrder_156 : decode cX5_doOrder 156 = .ok (.aload_n 0, 1) := by decide +kernel
theorem dX5_doOrder_157 : decode cX5_doOrder 157 = .ok (.getfield 29, 3) := by decide +kernel
theorem dX5_doOrder_160 : decode cX5_doOrder 160 = .ok (.iconst 4, 1) := by decide +kernel
theorem dX5_doOrder_161 : decode cX5_doOrder 161 = .ok (.iload_n 1, 1) := by decide +kernel
theorem dX5_doOrder_162 : decode cX5_doOrder 162 = .ok (.imul, 1) := by decide +kernel
theorem dX5_doOrder_163 : decode cX5_doOrder 163 = .ok (.iconst 2, 1) := by decide +kernel
theorem dX5_doOrder_164 : decode cX5_doOrder 164 = .ok (.iadd, 1) := by decide +kernel
theorem dX5_doOrder_165 : decode cX5_doOrder 165 = .ok (.iaload, 1) := by decide +kernel
theorem dX5_doOrder_166 : decode cX5_doOrder 166 = .ok (.invokevirtual 122, 3) := by decide +kernel
theorem dX5_doOrder_169 : decode cX5_doOrder 169 = .ok (.ireturn, 1) := by decide +kernel
theorem dX5_doOrder_170 : decode cX5_doOrder 170 = .ok (.aload_n 0, 1) := by decide +kernel
theorem dX5_doOrder_171 : decode cX5_doOrder 171 = .ok (.iload_n 2, 1) := by decide +kernel
theorem dX5_doOrder_172 : decode cX5_doOrder 172 = .ok (.invokevirtual 128, 3) := by decide +kernel
theorem dX5_doOrder_175 : decode cX5_doOrder 175 = .ok (.ireturn, 1) := by decide +kernel
theorem dX5_doOrder_176 : decode cX5_doOrder 176 = .ok (.aload_n 0, 1) := by decide +kernel
theorem dX5_doOrder_177 : decode cX5_doOrder 177 = .ok (.iload_n 2, 1) := by decide +kernel
theorem dX5_doOrder_178 : decode cX5_doOrder 178 = .ok (.invokevirtual 137, 3) := by decide +kernel
theorem dX5_doOrder_181 : decode cX5_doOrder 181 = .ok (.ireturn, 1) := by decide +kernel
theorem dX5_doOrder_182 : decode cX5_doOrder 182 = .ok (.aload_n 0, 1) := by decide +kernel
theorem dX5_doOrder_183 : decode cX5_doOrder 183 = .ok (.iload_n 2, 1) := by decide +kernel
theorem dX5_doOrder_184 : decode cX5_doOrder 184 = .ok (.invokevirtual 159, 3) := by decide +kernel
theorem dX5_doOrder_187 : decode cX5_doOrder 187 = .ok (.ireturn, 1) := by decide +kernel
theorem dX5_doOrder_188 : decode cX5_doOrder 188 = .ok (.aload_n 0, 1) := by decide +kernel
theorem dX5_doOrder_189 : decode cX5_doOrder 189 = .ok (.iload_n 2, 1) := by decide +kernel
theorem dX5_doOrder_190 : decode cX5_doOrder 190 = .ok (.invokevirtual 172, 3) := by decide +kernel
theorem dX5_doOrder_193 : decode cX5_doOrder 193 = .ok (.ireturn, 1) := by decide +kernel
theorem dX5_carryOut_0 : decode cX5_carryOut 0 = .ok (.aload_n 0, 1) := by decide +kernel
theorem dX5_carryOut_1 : decode cX5_carryOut 1 = .ok (.invokevirtual 233, 3) := by decide +kernel
theorem dX5_carryOut_4 : decode cX5_carryOut 4 = .ok (.ifCond .ne 6, 3) := by decide +kernel
theorem dX5_carryOut_7 : decode cX5_carryOut 7 = .ok (.bipush (-3), 2) := by decide +kernel
theorem dX5_carryOut_9 : decode cX5_carryOut 9 = .ok (.ireturn, 1) := by decide +kernel
theorem dX5_carryOut_10 : decode cX5_carryOut 10 = .ok (.aload_n 0, 1) := by decide +kernel
theorem dX5_carryOut_11 : decode cX5_carryOut 11 = .ok (.invokevirtual 44, 3) := by decide +kernel
theorem dX5_carryOut_14 : decode cX5_carryOut 14 = .ok (.iconst 0, 1) := by decide +kernel
theorem dX5_carryOut_15 : decode cX5_carryOut 15 = .ok (.istore_n 1, 1) := by decide +kernel
theorem dX5_carryOut_16 : decode cX5_carryOut 16 = .ok (.iload_n 1, 1) := by decide +kernel
theorem dX5_carryOut_17 : decode cX5_carryOut 17 = .ok (.aload_n 0, 1) := by decide +kernel
theorem dX5_carryOut_18 : decode cX5_carryOut 18 = .ok (.getfield 226, 3) := by decide +kernel
theorem dX5_carryOut_21 : decode cX5_carryOut 21 = .ok (.if_icmp .ge 23, 3) := by decide +kernel
theorem dX5_carryOut_24 : decode cX5_carryOut 24 = .ok (.aload_n 0, 1) := by decide +kernel
theorem dX5_carryOut_25 : decode cX5_carryOut 25 = .ok (.iload_n 1, 1) := by decide +kernel
theorem dX5_carryOut_26 : decode cX5_carryOut 26 = .ok (.invokevirtual 236, 3) := by decide +kernel
theorem dX5_carryOut_29 : decode cX5_carryOut 29 = .ok (.ifCond .ne 15, 3) := by decide +kernel
theorem dX5_carryOut_32 : decode cX5_carryOut 32 = .ok (.aload_n 0, 1) := by decide +kernel
theorem dX5_carryOut_33 : decode cX5_carryOut 33 = .ok (.iload_n 1, 1) := by decide +kernel
theorem dX5_carryOut_34 : decode cX5_carryOut 34 = .ok (.invokevirtual 239, 3) := by decide +kernel
theorem dX5_carryOut_37 : decode cX5_carryOut 37 = .ok (.pop, 1) := by decide +kernel
theorem dX5_carryOut_38 : decode cX5_carryOut 38 = .ok (.iinc 1 1, 3) := by decide +kernel
theorem dX5_carryOut_41 : decode cX5_carryOut 41 = .ok (.goto (-25), 3) := by decide +kernel
theorem dX5_carryOut_44 : decode cX5_carryOut 44 = .ok (.aload_n 0, 1) := by decide +kernel
theorem dX5_carryOut_45 : decode cX5_carryOut 45 = .ok (.iconst 0, 1) := by decide +kernel
theorem dX5_carryOut_46 : decode cX5_carryOut 46 = .ok (.putfield 197, 3) := by decide +kernel
theorem dX5_carryOut_49 : decode cX5_carryOut 49 = .ok (.iload_n 1, 1) := by decide +kernel
theorem dX5_carryOut_50 : decode cX5_carryOut 50 = .ok (.ireturn, 1) := by decide +kernel
end
section
theorem dL_law_0 : decode cL_law 0 = .ok (.new 7, 3) := by decide +kernel
theorem dL_law_3 : decode cL_law 3 = .ok (.dup, 1) := by decide +kernel
theorem dL_law_4 : decode cL_law 4 = .ok (.invokespecial 9, 3) := by decide +kernel
theorem dL_law_7 : decode cL_law 7 = .ok (.astore_n 1, 1) := by decide +kernel
theorem dL_law_8 : decode cL_law 8 = .ok (.new 10, 3) := by decide +kernel
theorem dL_law_11 : decode cL_law 11 = .ok (.dup, 1) := by decide +kernel
theorem dL_law_12 : decode cL_law 12 = .ok (.invokespecial 12, 3) := by decide +kernel
theorem dL_law_15 : decode cL_law 15 = .ok (.astore_n 2, 1) := by decide +kernel
theorem dL_law_16 : decode cL_law 16 = .ok (.iconst 0, 1) := by decide +kernel
theorem dL_law_17 : decode cL_law 17 = .ok (.istore_n 3, 1) := by decide +kernel
theorem dL_law_18 : decode cL_law 18 = .ok (.iload_n 3, 1) := by decide +kernel
theorem dL_law_19 : decode cL_law 19 = .ok (.aload_n 0, 1) := by decide +kernel
theorem dL_law_20 : decode cL_law 20 = .ok (.arraylength, 1) := by decide +kernel
theorem dL_law_21 : decode cL_law 21 = .ok (.iconst 4, 1) := by decide +kernel
theorem dL_law_22 : decode cL_law 22 = .ok (.isub, 1) := by decide +kernel
theorem dL_law_23 : decode cL_law 23 = .ok (.if_icmp .gt 813, 3) := by decide +kernel
theorem dL_law_26 : decode cL_law 26 = .ok (.aload_n 0, 1) := by decide +kernel
theorem dL_law_27 : decode cL_law 27 = .ok (.iload_n 3, 1) := by decide +kernel
theorem dL_law_28 : decode cL_law 28 = .ok (.iaload, 1) := by decide +kernel
theorem dL_law_29 : decode cL_law 29 = .ok (.bipush 31, 2) := by decide +kernel
theorem dL_law_31 : decode cL_law 31 = .ok (.iand, 1) := by decide +kernel
theorem dL_law_32 : decode cL_law 32 = .ok (.tableswitch 798 0 25 #[120, 153, 176, 199, 242, 275, 298, 321, 344, 367, 400, 433, 466, 489, 512, 535, 558, 601, 624, 647, 700, 713, 726, 739, 752, 775], 120) := by decide +kernel
theorem dL_law_152 : decode cL_law 152 = .ok (.aload_n 1, 1) := by decide +kernel
theorem dL_law_153 : decode cL_law 153 = .ok (.aload_n 0, 1) := by decide +kernel
theorem dL_law_154 : decode cL_law 154 = .ok (.iload_n 3, 1) := by decide +kernel
theorem dL_law_155 : decode cL_law 155 = .ok (.iconst 1, 1) := by decide +kernel
theorem dL_law_156 : decode cL_law 156 = .ok (.iadd, 1) := by decide +kernel
theorem dL_law_157 : decode cL_law 157 = .ok (.iaload, 1) := by decide +kernel
theorem dL_law_158 : decode cL_law 158 = .ok (.aload_n 0, 1) := by decide +kernel
theorem dL_law_159 : decode cL_law 159 = .ok (.iload_n 3, 1) := by decide +kernel
theorem dL_law_160 : decode cL_law 160 = .ok (.iconst 2, 1) := by decide +kernel
theorem dL_law_161 : decode cL_law 161 = .ok (.iadd, 1) := by decide +kernel
theorem dL_law_162 : decode cL_law 162 = .ok (.iaload, 1) := by decide +kernel
theorem dL_law_163 : decode cL_law 163 = .ok (.invokevirtual 13, 3) := by decide +kernel
theorem dL_law_166 : decode cL_law 166 = .ok (.aload_n 2, 1) := by decide +kernel
theorem dL_law_167 : decode cL_law 167 = .ok (.aload_n 0, 1) := by decide +kernel
theorem dL_law_168 : decode cL_law 168 = .ok (.iload_n 3, 1) := by decide +kernel
theorem dL_law_169 : decode cL_law 169 = .ok (.iconst 1, 1) := by decide +kernel
theorem dL_law_170 : decode cL_law 170 = .ok (.iadd, 1) := by decide +kernel
theorem dL_law_171 : decode cL_law 171 = .ok (.iaload, 1) := by decide +kernel
theorem dL_law_172 : decode cL_law 172 = .ok (.aload_n 0, 1) := by decide +kernel
theorem dL_law_173 : decode cL_law 173 = .ok (.iload_n 3, 1) := by decide +kernel
theorem dL_law_174 : decode cL_law 174 = .ok (.iconst 2, 1) := by decide +kernel
theorem dL_law_175 : decode cL_law 175 = .ok (.iadd, 1) := by decide +kernel
theorem dL_law_176 : decode cL_law 176 = .ok (.iaload, 1) := by decide +kernel
theorem dL_law_177 : decode cL_law 177 = .ok (.invokevirtual 17, 3) := by decide +kernel
theorem dL_law_180 : decode cL_law 180 = .ok (.if_icmp .eq 650, 3) := by decide +kernel
theorem dL_law_183 : decode cL_law 183 = .ok (.iconst 0, 1) := by decide +kernel
theorem dL_law_184 : decode cL_law 184 = .ok (.ireturn, 1) := by decide +kernel
theorem dL_law_185 : decode cL_law 185 = .ok (.aload_n 1, 1) := by decide +kernel
theorem dL_law_186 : decode cL_law 186 = .ok (.aload_n 0, 1) := by decide +kernel
theorem dL_law_187 : decode cL_law 187 = .ok (.iload_n 3, 1) := by decide +kernel
theorem dL_law_188 : decode cL_law 188 = .ok (.iconst 1, 1) := by decide +kernel
theorem dL_law_189 : decode cL_law 189 = .ok (.iadd, 1) := by decide +kernel
theorem dL_law_190 : decode cL_law 190 = .ok (.iaload, 1) := by decide +kernel
theorem dL_law_191 : decode cL_law 191 = .ok (.invokevirtual 18, 3) := by decide +kernel
theorem dL_law_194 : decode cL_law 194 = .ok (.aload_n 2, 1) := by decide +kernel
theorem dL_law_195 : decode cL_law 195 = .ok (.aload_n 0, 1) := by decide +kernel
theorem dL_law_196 : decode cL_law 196 = .ok (.iload_n 3, 1) := by decide +kernel
theorem dL_law_197 : decode cL_law 197 = .ok (.iconst 1, 1) := by decide +kernel
theorem dL_law_198 : decode cL_law 198 = .ok (.iadd, 1) := by decide +kernel
theorem dL_law_199 : decode cL_law 199 = .ok (.iaload, 1) := by decide +kernel
theorem dL_law_200 : decode cL_law 200 = .ok (.invokevirtual 22, 3) := by decide +kernel
theorem dL_law_203 : decode cL_law 203 = .ok (.if_icmp .eq 627, 3) := by decide +kernel
theorem dL_law_206 : decode cL_law 206 = .ok (.iconst 0, 1) := by decide +kernel
theorem dL_law_207 : decode cL_law 207 = .ok (.ireturn, 1) := by decide +kernel
theorem dL_law_208 : decode cL_law 208 = .ok (.aload_n 1, 1) := by decide +kernel
theorem dL_law_209 : decode cL_law 209 = .ok (.aload_n 0, 1) := by decide +kernel
theorem dL_law_210 : decode cL_law 210 = .ok (.iload_n 3, 1) := by decide +kernel
theorem dL_law_211 : decode cL_law 211 = .ok (.iconst 1, 1) := by decide +kernel
theorem dL_law_212 : decode cL_law 212 = .ok (.iadd, 1) := by decide +kernel
theorem dL_law_213 : decode cL_law 213 = .ok (.iaload, 1) := by decide +kernel
theorem dL_law_214 : decode cL_law 214 = .ok (.invokevirtual 23, 3) := by decide +kernel
theorem dL_law_217 : decode cL_law 217 = .ok (.aload_n 2, 1) := by decide +kernel
theorem dL_law_218 : decode cL_law 218 = .ok (.aload_n 0, 1) := by decide +kernel
theorem dL_law_219 : decode cL_law 219 = .ok (.iload_n 3, 1) := by decide +kernel
theorem dL_law_220 : decode cL_law 220 = .ok (.iconst 1, 1) := by decide +kernel
theorem dL_law_221 : decode cL_law 221 = .ok (.iadd, 1) := by decide +kernel
theorem dL_law_222 : decode cL_law 222 = .ok (.iaload, 1) := by decide +kernel
theorem dL_law_223 : decode cL_law 223 = .ok (.invokevirtual 26, 3) := by decide +kernel
theorem dL_law_226 : decode cL_law 226 = .ok (.if_icmp .eq 604, 3) := by decide +kernel
theorem dL_law_229 : decode cL_law 229 = .ok (.iconst 0, 1) := by decide +kernel
theorem dL_law_230 : decode cL_law 230 = .ok (.ireturn, 1) := by decide +kernel
theorem dL_law_231 : decode cL_law 231 = .ok (.aload_n 1, 1) := by decide +kernel
theorem dL_law_232 : decode cL_law 232 = .ok (.aload_n 0, 1) := by decide +kernel
theorem dL_law_233 : decode cL_law 233 = .ok (.iload_n 3, 1) := by decide +kernel
theorem dL_law_234 : decode cL_law 234 = .ok (.iconst 1, 1) := by decide +kernel
theorem dL_law_235 : decode cL_law 235 = .ok (.iadd, 1) := by decide +kernel
theorem dL_law_236 : decode cL_law 236 = .ok (.iaload, 1) := by decide +kernel
theorem dL_law_237 : decode cL_law 237 = .ok (.aload_n 0, 1) := by decide +kernel
theorem dL_law_238 : decode cL_law 238 = .ok (.iload_n 3, 1) := by decide +kernel
theorem dL_law_239 : decode cL_law 239 = .ok (.iconst 2, 1) := by decide +kernel
theorem dL_law_240 : decode cL_law 240 = .ok (.iadd, 1) := by decide +kernel
theorem dL_law_241 : decode cL_law 241 = .ok (.iaload, 1) := by decide +kernel
theorem dL_law_242 : decode cL_law 242 = .ok (.aload_n 0, 1) := by decide +kernel
theorem dL_law_243 : decode cL_law 243 = .ok (.iload_n 3, 1) := by decide +kernel
theorem dL_law_244 : decode cL_law 244 = .ok (.iconst 3, 1) := by decide +kernel
theorem dL_law_245 : decode cL_law 245 = .ok (.iadd, 1) := by decide +kernel
theorem dL_law_246 : decode cL_law 246 = .ok (.iaload, 1) := by decide +kernel
theorem dL_law_247 : decode cL_law 247 = .ok (.invokevirtual 27, 3) := by decide +kernel
theorem dL_law_250 : decode cL_law 250 = .ok (.aload_n 2, 1) := by decide +kernel
theorem dL_law_251 : decode cL_law 251 = .ok (.aload_n 0, 1) := by decide +kernel
theorem dL_law_252 : decode cL_law 252 = .ok (.iload_n 3, 1) := by decide +kernel
theorem dL_law_253 : decode cL_law 253 = .ok (.iconst 1, 1) := by decide +kernel
theorem dL_law_254 : decode cL_law 254 = .ok (.iadd, 1) := by decide +kernel
theorem dL_law_255 : decode cL_law 255 = .ok (.iaload, 1) := by decide +kernel
theorem dL_law_256 : decode cL_law 256 = .ok (.aload_n 0, 1) := by decide +kernel
theorem dL_law_257 : decode cL_law 257 = .ok (.iload_n 3, 1) := by decide +kernel
theorem dL_law_258 : decode cL_law 258 = .ok (.iconst 2, 1) := by decide +kernel
theorem dL_law_259 : decode cL_law 259 = .ok (.iadd, 1) := by decide +kernel
theorem dL_law_260 : decode cL_law 260 = .ok (.iaload, 1) := by decide +kernel
theorem dL_law_261 : decode cL_law 261 = .ok (.aload_n 0, 1) := by decide +kernel
theorem dL_law_262 : decode cL_law 262 = .ok (.iload_n 3, 1) := by decide +kernel
theorem dL_law_263 : decode cL_law 263 = .ok (.iconst 3, 1) := by decide +kernel
theorem dL_law_264 : decode cL_law 264 = .ok (.iadd, 1) := by decide +kernel
theorem dL_law_265 : decode cL_law 265 = .ok (.iaload, 1) := by decide +kernel
theorem dL_law_266 : decode cL_law 266 = .ok (.invokevirtual 31, 3) := by decide +kernel
theorem dL_law_269 : decode cL_law 269 = .ok (.if_icmp .eq 561, 3) := by decide +kernel
theorem dL_law_272 : decode cL_law 272 = .ok (.iconst 0, 1) := by decide +kernel
theorem dL_law_273 : decode cL_law 273 = .ok (.ireturn, 1) := by decide +kernel
theorem dL_law_274 : decode cL_law 274 = .ok (.aload_n 1, 1) := by decide +kernel
theorem dL_law_275 : decode cL_law 275 = .ok (.aload_n 0, 1) := by decide +kernel
theorem dL_law_276 : decode cL_law 276 = .ok (.iload_n 3, 1) := by decide +kernel
theorem dL_law_277 : decode cL_law 277 = .ok (.iconst 1, 1) := by decide +kernel
theorem dL_law_278 : decode cL_law 278 = .ok (.iadd, 1) := by decide +kernel
theorem dL_law_279 : decode cL_law 279 = .ok (.iaload, 1) := by decide +kernel
theorem dL_law_280 : decode cL_law 280 = .ok (.aload_n 0, 1) := by decide +kernel
theorem dL_law_281 : decode cL_law 281 = .ok (.iload_n 3, 1) := by decide +kernel
theorem dL_law_282 : decode cL_law 282 = .ok (.iconst 2, 1) := by decide +kernel
theorem dL_law_283 : decode cL_law 283 = .ok (.iadd, 1) := by decide +kernel
theorem dL_law_284 : decode cL_law 284 = .ok (.iaload, 1) := by decide +kernel
theorem dL_law_285 : decode cL_law 285 = .ok (.invokevirtual 32, 3) := by decide +kernel
theorem dL_law_288 : decode cL_law 288 = .ok (.aload_n 2, 1) := by decide +kernel
theorem dL_law_289 : decode cL_law 289 = .ok (.aload_n 0, 1) := by decide +kernel
theorem dL_law_290 : decode cL_law 290 = .ok (.iload_n 3, 1) := by decide +kernel
theorem dL_law_291 : decode cL_law 291 = .ok (.iconst 1, 1) := by decide +kernel
theorem dL_law_292 : decode cL_law 292 = .ok (.iadd, 1) := by decide +kernel
theorem dL_law_293 : decode cL_law 293 = .ok (.iaload, 1) := by decide +kernel
theorem dL_law_294 : decode cL_law 294 = .ok (.aload_n 0, 1) := by decide +kernel
theorem dL_law_295 : decode cL_law 295 = .ok (.iload_n 3, 1) := by decide +kernel
theorem dL_law_296 : decode cL_law 296 = .ok (.iconst 2, 1) := by decide +kernel
theorem dL_law_297 : decode cL_law 297 = .ok (.iadd, 1) := by decide +kernel
theorem dL_law_298 : decode cL_law 298 = .ok (.iaload, 1) := by decide +kernel
theorem dL_law_299 : decode cL_law 299 = .ok (.invokevirtual 35, 3) := by decide +kernel
theorem dL_law_302 : decode cL_law 302 = .ok (.if_icmp .eq 528, 3) := by decide +kernel
theorem dL_law_305 : decode cL_law 305 = .ok (.iconst 0, 1) := by decide +kernel
theorem dL_law_306 : decode cL_law 306 = .ok (.ireturn, 1) := by decide +kernel
theorem dL_law_307 : decode cL_law 307 = .ok (.aload_n 1, 1) := by decide +kernel
theorem dL_law_308 : decode cL_law 308 = .ok (.aload_n 0, 1) := by decide +kernel
theorem dL_law_309 : decode cL_law 309 = .ok (.iload_n 3, 1) := by decide +kernel
theorem dL_law_310 : decode cL_law 310 = .ok (.iconst 1, 1) := by decide +kernel
theorem dL_law_311 : decode cL_law 311 = .ok (.iadd, 1) := by decide +kernel
theorem dL_law_312 : decode cL_law 312 = .ok (.iaload, 1) := by decide +kernel
theorem dL_law_313 : decode cL_law 313 = .ok (.invokevirtual 36, 3) := by decide +kernel
theorem dL_law_316 : decode cL_law 316 = .ok (.aload_n 2, 1) := by decide +kernel
theorem dL_law_317 : decode cL_law 317 = .ok (.aload_n 0, 1) := by decide +kernel
theorem dL_law_318 : decode cL_law 318 = .ok (.iload_n 3, 1) := by decide +kernel
theorem dL_law_319 : decode cL_law 319 = .ok (.iconst 1, 1) := by decide +kernel
theorem dL_law_320 : decode cL_law 320 = .ok (.iadd, 1) := by decide +kernel
theorem dL_law_321 : decode cL_law 321 = .ok (.iaload, 1) := by decide +kernel
theorem dL_law_322 : decode cL_law 322 = .ok (.invokevirtual 39, 3) := by decide +kernel
theorem dL_law_325 : decode cL_law 325 = .ok (.if_icmp .eq 505, 3) := by decide +kernel
theorem dL_law_328 : decode cL_law 328 = .ok (.iconst 0, 1) := by decide +kernel
theorem dL_law_329 : decode cL_law 329 = .ok (.ireturn, 1) := by decide +kernel
theorem dL_law_330 : decode cL_law 330 = .ok (.aload_n 1, 1) := by decide +kernel
theorem dL_law_331 : decode cL_law 331 = .ok (.aload_n 0, 1) := by decide +kernel
theorem dL_law_332 : decode cL_law 332 = .ok (.iload_n 3, 1) := by decide +kernel
theorem dL_law_333 : decode cL_law 333 = .ok (.iconst 1, 1) := by decide +kernel
theorem dL_law_334 : decode cL_law 334 = .ok (.iadd, 1) := by decide +kernel
theorem dL_law_335 : decode cL_law 335 = .ok (.iaload, 1) := by decide +kernel
theorem dL_law_336 : decode cL_law 336 = .ok (.invokevirtual 40, 3) := by decide +kernel
theorem dL_law_339 : decode cL_law 339 = .ok (.aload_n 2, 1) := by decide +kernel
theorem dL_law_340 : decode cL_law 340 = .ok (.aload_n 0, 1) := by decide +kernel
theorem dL_law_341 : decode cL_law 341 = .ok (.iload_n 3, 1) := by decide +kernel
theorem dL_law_342 : decode cL_law 342 = .ok (.iconst 1, 1) := by decide +kernel
theorem dL_law_343 : decode cL_law 343 = .ok (.iadd, 1) := by decide +kernel
theorem dL_law_344 : decode cL_law 344 = .ok (.iaload, 1) := by decide +kernel
theorem dL_law_345 : decode cL_law 345 = .ok (.invokevirtual 43, 3) := by decide +kernel
theorem dL_law_348 : decode cL_law 348 = .ok (.if_icmp .eq 482, 3) := by decide +kernel
theorem dL_law_351 : decode cL_law 351 = .ok (.iconst 0, 1) := by decide +kernel
theorem dL_law_352 : decode cL_law 352 = .ok (.ireturn, 1) := by decide +kernel
theorem dL_law_353 : decode cL_law 353 = .ok (.aload_n 1, 1) := by decide +kernel
theorem dL_law_354 : decode cL_law 354 = .ok (.aload_n 0, 1) := by decide +kernel
theorem dL_law_355 : decode cL_law 355 = .ok (.iload_n 3, 1) := by decide +kernel
theorem dL_law_356 : decode cL_law 356 = .ok (.iconst 1, 1) := by decide +kernel
theorem dL_law_357 : decode cL_law 357 = .ok (.iadd, 1) := by decide +kernel
theorem dL_law_358 : decode cL_law 358 = .ok (.iaload, 1) := by decide +kernel
theorem dL_law_359 : decode cL_law 359 = .ok (.invokevirtual 44, 3) := by decide +kernel
theorem dL_law_362 : decode cL_law 362 = .ok (.aload_n 2, 1) := by decide +kernel
theorem dL_law_363 : decode cL_law 363 = .ok (.aload_n 0, 1) := by decide +kernel
theorem dL_law_364 : decode cL_law 364 = .ok (.iload_n 3, 1) := by decide +kernel
theorem dL_law_365 : decode cL_law 365 = .ok (.iconst 1, 1) := by decide +kernel
theorem dL_law_366 : decode cL_law 366 = .ok (.iadd, 1) := by decide +kernel
theorem dL_law_367 : decode cL_law 367 = .ok (.iaload, 1) := by decide +kernel
theorem dL_law_368 : decode cL_law 368 = .ok (.invokevirtual 47, 3) := by decide +kernel
theorem dL_law_371 : decode cL_law 371 = .ok (.if_icmp .eq 459, 3) := by decide +kernel
theorem dL_law_374 : decode cL_law 374 = .ok (.iconst 0, 1) := by decide +kernel
theorem dL_law_375 : decode cL_law 375 = .ok (.ireturn, 1) := by decide +kernel
theorem dL_law_376 : decode cL_law 376 = .ok (.aload_n 1, 1) := by decide +kernel
theorem dL_law_377 : decode cL_law 377 = .ok (.aload_n 0, 1) := by decide +kernel
theorem dL_law_378 : decode cL_law 378 = .ok (.iload_n 3, 1) := by decide +kernel
theorem dL_law_379 : decode cL_law 379 = .ok (.iconst 1, 1) := by decide +kernel
theorem dL_law_380 : decode cL_law 380 = .ok (.iadd, 1) := by decide +kernel
theorem dL_law_381 : decode cL_law 381 = .ok (.iaload, 1) := by decide +kernel
theorem dL_law_382 : decode cL_law 382 = .ok (.invokevirtual 48, 3) := by decide +kernel
theorem dL_law_385 : decode cL_law 385 = .ok (.aload_n 2, 1) := by decide +kernel
theorem dL_law_386 : decode cL_law 386 = .ok (.aload_n 0, 1) := by decide +kernel
theorem dL_law_387 : decode cL_law 387 = .ok (.iload_n 3, 1) := by decide +kernel
theorem dL_law_388 : decode cL_law 388 = .ok (.iconst 1, 1) := by decide +kernel
theorem dL_law_389 : decode cL_law 389 = .ok (.iadd, 1) := by decide +kernel
theorem dL_law_390 : decode cL_law 390 = .ok (.iaload, 1) := by decide +kernel
theorem dL_law_391 : decode cL_law 391 = .ok (.invokevirtual 51, 3) := by decide +kernel
theorem dL_law_394 : decode cL_law 394 = .ok (.if_icmp .eq 436, 3) := by decide +kernel
theorem dL_law_397 : decode cL_law 397 = .ok (.iconst 0, 1) := by decide +kernel
theorem dL_law_398 : decode cL_law 398 = .ok (.ireturn, 1) := by decide +kernel
theorem dL_law_399 : decode cL_law 399 = .ok (.aload_n 1, 1) := by decide +kernel
theorem dL_law_400 : decode cL_law 400 = .ok (.aload_n 0, 1) := by decide +kernel
theorem dL_law_401 : decode cL_law 401 = .ok (.iload_n 3, 1) := by decide +kernel
theorem dL_law_402 : decode cL_law 402 = .ok (.iconst 1, 1) := by decide +kernel
theorem dL_law_403 : decode cL_law 403 = .ok (.iadd, 1) := by decide +kernel
theorem dL_law_404 : decode cL_law 404 = .ok (.iaload, 1) := by decide +kernel
theorem dL_law_405 : decode cL_law 405 = .ok (.aload_n 0, 1) := by decide +kernel
theorem dL_law_406 : decode cL_law 406 = .ok (.iload_n 3, 1) := by decide +kernel
theorem dL_law_407 : decode cL_law 407 = .ok (.iconst 2, 1) := by decide +kernel
theorem dL_law_408 : decode cL_law 408 = .ok (.iadd, 1) := by decide +kernel
theorem dL_law_409 : decode cL_law 409 = .ok (.iaload, 1) := by decide +kernel
theorem dL_law_410 : decode cL_law 410 = .ok (.invokevirtual 52, 3) := by decide +kernel
theorem dL_law_413 : decode cL_law 413 = .ok (.aload_n 2, 1) := by decide +kernel
theorem dL_law_414 : decode cL_law 414 = .ok (.aload_n 0, 1) := by decide +kernel
theorem dL_law_415 : decode cL_law 415 = .ok (.iload_n 3, 1) := by decide +kernel
theorem dL_law_416 : decode cL_law 416 = .ok (.iconst 1, 1) := by decide +kernel
theorem dL_law_417 : decode cL_law 417 = .ok (.iadd, 1) := by decide +kernel
theorem dL_law_418 : decode cL_law 418 = .ok (.iaload, 1) := by decide +kernel
theorem dL_law_419 : decode cL_law 419 = .ok (.aload_n 0, 1) := by decide +kernel
theorem dL_law_420 : decode cL_law 420 = .ok (.iload_n 3, 1) := by decide +kernel
theorem dL_law_421 : decode cL_law 421 = .ok (.iconst 2, 1) := by decide +kernel
theorem dL_law_422 : decode cL_law 422 = .ok (.iadd, 1) := by decide +kernel
theorem dL_law_423 : decode cL_law 423 = .ok (.iaload, 1) := by decide +kernel
theorem dL_law_424 : decode cL_law 424 = .ok (.invokevirtual 55, 3) := by decide +kernel
theorem dL_law_427 : decode cL_law 427 = .ok (.if_icmp .eq 403, 3) := by decide +kernel
theorem dL_law_430 : decode cL_law 430 = .ok (.iconst 0, 1) := by decide +kernel
theorem dL_law_431 : decode cL_law 431 = .ok (.ireturn, 1) := by decide +kernel
theorem dL_law_432 : decode cL_law 432 = .ok (.aload_n 1, 1) := by decide +kernel
theorem dL_law_433 : decode cL_law 433 = .ok (.aload_n 0, 1) := by decide +kernel
theorem dL_law_434 : decode cL_law 434 = .ok (.iload_n 3, 1) := by decide +kernel
theorem dL_law_435 : decode cL_law 435 = .ok (.iconst 1, 1) := by decide +kernel
theorem dL_law_436 : decode cL_law 436 = .ok (.iadd, 1) := by decide +kernel
theorem dL_law_437 : decode cL_law 437 = .ok (.iaload, 1) := by decide +kernel
theorem dL_law_438 : decode cL_law 438 = .ok (.aload_n 0, 1) := by decide +kernel
theorem dL_law_439 : decode cL_law 439 = .ok (.iload_n 3, 1) := by decide +kernel
theorem dL_law_440 : decode cL_law 440 = .ok (.iconst 2, 1) := by decide +kernel
theorem dL_law_441 : decode cL_law 441 = .ok (.iadd, 1) := by decide +kernel
theorem dL_law_442 : decode cL_law 442 = .ok (.iaload, 1) := by decide +kernel
theorem dL_law_443 : decode cL_law 443 = .ok (.invokevirtual 56, 3) := by decide +kernel
theorem dL_law_446 : decode cL_law 446 = .ok (.aload_n 2, 1) := by decide +kernel
theorem dL_law_447 : decode cL_law 447 = .ok (.aload_n 0, 1) := by decide +kernel
theorem dL_law_448 : decode cL_law 448 = .ok (.iload_n 3, 1) := by decide +kernel
theorem dL_law_449 : decode cL_law 449 = .ok (.iconst 1, 1) := by decide +kernel
theorem dL_law_450 : decode cL_law 450 = .ok (.iadd, 1) := by decide +kernel
theorem dL_law_451 : decode cL_law 451 = .ok (.iaload, 1) := by decide +kernel
theorem dL_law_452 : decode cL_law 452 = .ok (.aload_n 0, 1) := by decide +kernel
theorem dL_law_453 : decode cL_law 453 = .ok (.iload_n 3, 1) := by decide +kernel
theorem dL_law_454 : decode cL_law 454 = .ok (.iconst 2, 1) := by decide +kernel
theorem dL_law_455 : decode cL_law 455 = .ok (.iadd, 1) := by decide +kernel
theorem dL_law_456 : decode cL_law 456 = .ok (.iaload, 1) := by decide +kernel
theorem dL_law_457 : decode cL_law 457 = .ok (.invokevirtual 59, 3) := by decide +kernel
theorem dL_law_460 : decode cL_law 460 = .ok (.if_icmp .eq 370, 3) := by decide +kernel
theorem dL_law_463 : decode cL_law 463 = .ok (.iconst 0, 1) := by decide +kernel
theorem dL_law_464 : decode cL_law 464 = .ok (.ireturn, 1) := by decide +kernel
theorem dL_law_465 : decode cL_law 465 = .ok (.aload_n 1, 1) := by decide +kernel
theorem dL_law_466 : decode cL_law 466 = .ok (.aload_n 0, 1) := by decide +kernel
theorem dL_law_467 : decode cL_law 467 = .ok (.iload_n 3, 1) := by decide +kernel
theorem dL_law_468 : decode cL_law 468 = .ok (.iconst 1, 1) := by decide +kernel
theorem dL_law_469 : decode cL_law 469 = .ok (.iadd, 1) := by decide +kernel
theorem dL_law_470 : decode cL_law 470 = .ok (.iaload, 1) := by decide +kernel
theorem dL_law_471 : decode cL_law 471 = .ok (.aload_n 0, 1) := by decide +kernel
theorem dL_law_472 : decode cL_law 472 = .ok (.iload_n 3, 1) := by decide +kernel
theorem dL_law_473 : decode cL_law 473 = .ok (.iconst 2, 1) := by decide +kernel
theorem dL_law_474 : decode cL_law 474 = .ok (.iadd, 1) := by decide +kernel
theorem dL_law_475 : decode cL_law 475 = .ok (.iaload, 1) := by decide +kernel
theorem dL_law_476 : decode cL_law 476 = .ok (.invokevirtual 60, 3) := by decide +kernel
theorem dL_law_479 : decode cL_law 479 = .ok (.aload_n 2, 1) := by decide +kernel
theorem dL_law_480 : decode cL_law 480 = .ok (.aload_n 0, 1) := by decide +kernel
theorem dL_law_481 : decode cL_law 481 = .ok (.iload_n 3, 1) := by decide +kernel
theorem dL_law_482 : decode cL_law 482 = .ok (.iconst 1, 1) := by decide +kernel
theorem dL_law_483 : decode cL_law 483 = .ok (.iadd, 1) := by decide +kernel
theorem dL_law_484 : decode cL_law 484 = .ok (.iaload, 1) := by decide +kernel
theorem dL_law_485 : decode cL_law 485 = .ok (.aload_n 0, 1) := by decide +kernel
theorem dL_law_486 : decode cL_law 486 = .ok (.iload_n 3, 1) := by decide +kernel
theorem dL_law_487 : decode cL_law 487 = .ok (.iconst 2, 1) := by decide +kernel
theorem dL_law_488 : decode cL_law 488 = .ok (.iadd, 1) := by decide +kernel
theorem dL_law_489 : decode cL_law 489 = .ok (.iaload, 1) := by decide +kernel
theorem dL_law_490 : decode cL_law 490 = .ok (.invokevirtual 63, 3) := by decide +kernel
theorem dL_law_493 : decode cL_law 493 = .ok (.if_icmp .eq 337, 3) := by decide +kernel
theorem dL_law_496 : decode cL_law 496 = .ok (.iconst 0, 1) := by decide +kernel
theorem dL_law_497 : decode cL_law 497 = .ok (.ireturn, 1) := by decide +kernel
theorem dL_law_498 : decode cL_law 498 = .ok (.aload_n 1, 1) := by decide +kernel
theorem dL_law_499 : decode cL_law 499 = .ok (.aload_n 0, 1) := by decide +kernel
theorem dL_law_500 : decode cL_law 500 = .ok (.iload_n 3, 1) := by decide +kernel
theorem dL_law_501 : decode cL_law 501 = .ok (.iconst 1, 1) := by decide +kernel
theorem dL_law_502 : decode cL_law 502 = .ok (.iadd, 1) := by decide +kernel
theorem dL_law_503 : decode cL_law 503 = .ok (.iaload, 1) := by decide +kernel
theorem dL_law_504 : decode cL_law 504 = .ok (.invokevirtual 64, 3) := by decide +kernel
theorem dL_law_507 : decode cL_law 507 = .ok (.aload_n 2, 1) := by decide +kernel
theorem dL_law_508 : decode cL_law 508 = .ok (.aload_n 0, 1) := by decide +kernel
theorem dL_law_509 : decode cL_law 509 = .ok (.iload_n 3, 1) := by decide +kernel
theorem dL_law_510 : decode cL_law 510 = .ok (.iconst 1, 1) := by decide +kernel
theorem dL_law_511 : decode cL_law 511 = .ok (.iadd, 1) := by decide +kernel
theorem dL_law_512 : decode cL_law 512 = .ok (.iaload, 1) := by decide +kernel
theorem dL_law_513 : decode cL_law 513 = .ok (.invokevirtual 67, 3) := by decide +kernel
theorem dL_law_516 : decode cL_law 516 = .ok (.if_icmp .eq 314, 3) := by decide +kernel
theorem dL_law_519 : decode cL_law 519 = .ok (.iconst 0, 1) := by decide +kernel
theorem dL_law_520 : decode cL_law 520 = .ok (.ireturn, 1) := by decide +kernel
theorem dL_law_521 : decode cL_law 521 = .ok (.aload_n 1, 1) := by decide +kernel
theorem dL_law_522 : decode cL_law 522 = .ok (.aload_n 0, 1) := by decide +kernel
theorem dL_law_523 : decode cL_law 523 = .ok (.iload_n 3, 1) := by decide +kernel
theorem dL_law_524 : decode cL_law 524 = .ok (.iconst 1, 1) := by decide +kernel
theorem dL_law_525 : decode cL_law 525 = .ok (.iadd, 1) := by decide +kernel
theorem dL_law_526 : decode cL_law 526 = .ok (.iaload, 1) := by decide +kernel
theorem dL_law_527 : decode cL_law 527 = .ok (.invokevirtual 68, 3) := by decide +kernel
theorem dL_law_530 : decode cL_law 530 = .ok (.aload_n 2, 1) := by decide +kernel
theorem dL_law_531 : decode cL_law 531 = .ok (.aload_n 0, 1) := by decide +kernel
theorem dL_law_532 : decode cL_law 532 = .ok (.iload_n 3, 1) := by decide +kernel
theorem dL_law_533 : decode cL_law 533 = .ok (.iconst 1, 1) := by decide +kernel
theorem dL_law_534 : decode cL_law 534 = .ok (.iadd, 1) := by decide +kernel
theorem dL_law_535 : decode cL_law 535 = .ok (.iaload, 1) := by decide +kernel
theorem dL_law_536 : decode cL_law 536 = .ok (.invokevirtual 71, 3) := by decide +kernel
theorem dL_law_539 : decode cL_law 539 = .ok (.if_icmp .eq 291, 3) := by decide +kernel
theorem dL_law_542 : decode cL_law 542 = .ok (.iconst 0, 1) := by decide +kernel
theorem dL_law_543 : decode cL_law 543 = .ok (.ireturn, 1) := by decide +kernel
theorem dL_law_544 : decode cL_law 544 = .ok (.aload_n 1, 1) := by decide +kernel
theorem dL_law_545 : decode cL_law 545 = .ok (.aload_n 0, 1) := by decide +kernel
theorem dL_law_546 : decode cL_law 546 = .ok (.iload_n 3, 1) := by decide +kernel
theorem dL_law_547 : decode cL_law 547 = .ok (.iconst 1, 1) := by decide +kernel
theorem dL_law_548 : decode cL_law 548 = .ok (.iadd, 1) := by decide +kernel
theorem dL_law_549 : decode cL_law 549 = .ok (.iaload, 1) := by decide +kernel
theorem dL_law_550 : decode cL_law 550 = .ok (.invokevirtual 72, 3) := by decide +kernel
theorem dL_law_553 : decode cL_law 553 = .ok (.aload_n 2, 1) := by decide +kernel
theorem dL_law_554 : decode cL_law 554 = .ok (.aload_n 0, 1) := by decide +kernel
theorem dL_law_555 : decode cL_law 555 = .ok (.iload_n 3, 1) := by decide +kernel
theorem dL_law_556 : decode cL_law 556 = .ok (.iconst 1, 1) := by decide +kernel
theorem dL_law_557 : decode cL_law 557 = .ok (.iadd, 1) := by decide +kernel
theorem dL_law_558 : decode cL_law 558 = .ok (.iaload, 1) := by decide +kernel
theorem dL_law_559 : decode cL_law 559 = .ok (.invokevirtual 75, 3) := by decide +kernel
theorem dL_law_562 : decode cL_law 562 = .ok (.if_icmp .eq 268, 3) := by decide +kernel
theorem dL_law_565 : decode cL_law 565 = .ok (.iconst 0, 1) := by decide +kernel
theorem dL_law_566 : decode cL_law 566 = .ok (.ireturn, 1) := by decide +kernel
theorem dL_law_567 : decode cL_law 567 = .ok (.aload_n 1, 1) := by decide +kernel
theorem dL_law_568 : decode cL_law 568 = .ok (.aload_n 0, 1) := by decide +kernel
theorem dL_law_569 : decode cL_law 569 = .ok (.iload_n 3, 1) := by decide +kernel
theorem dL_law_570 : decode cL_law 570 = .ok (.iconst 1, 1) := by decide +kernel
theorem dL_law_571 : decode cL_law 571 = .ok (.iadd, 1) := by decide +kernel
theorem dL_law_572 : decode cL_law 572 = .ok (.iaload, 1) := by decide +kernel
theorem dL_law_573 : decode cL_law 573 = .ok (.invokevirtual 76, 3) := by decide +kernel
theorem dL_law_576 : decode cL_law 576 = .ok (.aload_n 2, 1) := by decide +kernel
theorem dL_law_577 : decode cL_law 577 = .ok (.aload_n 0, 1) := by decide +kernel
theorem dL_law_578 : decode cL_law 578 = .ok (.iload_n 3, 1) := by decide +kernel
theorem dL_law_579 : decode cL_law 579 = .ok (.iconst 1, 1) := by decide +kernel
theorem dL_law_580 : decode cL_law 580 = .ok (.iadd, 1) := by decide +kernel
theorem dL_law_581 : decode cL_law 581 = .ok (.iaload, 1) := by decide +kernel
theorem dL_law_582 : decode cL_law 582 = .ok (.invokevirtual 79, 3) := by decide +kernel
theorem dL_law_585 : decode cL_law 585 = .ok (.if_icmp .eq 245, 3) := by decide +kernel
theorem dL_law_588 : decode cL_law 588 = .ok (.iconst 0, 1) := by decide +kernel
theorem dL_law_589 : decode cL_law 589 = .ok (.ireturn, 1) := by decide +kernel
theorem dL_law_590 : decode cL_law 590 = .ok (.aload_n 1, 1) := by decide +kernel
theorem dL_law_591 : decode cL_law 591 = .ok (.aload_n 0, 1) := by decide +kernel
theorem dL_law_592 : decode cL_law 592 = .ok (.iload_n 3, 1) := by decide +kernel
theorem dL_law_593 : decode cL_law 593 = .ok (.iconst 1, 1) := by decide +kernel
theorem dL_law_594 : decode cL_law 594 = .ok (.iadd, 1) := by decide +kernel
theorem dL_law_595 : decode cL_law 595 = .ok (.iaload, 1) := by decide +kernel
theorem dL_law_596 : decode cL_law 596 = .ok (.aload_n 0, 1) := by decide +kernel
theorem dL_law_597 : decode cL_law 597 = .ok (.iload_n 3, 1) := by decide +kernel
theorem dL_law_598 : decode cL_law 598 = .ok (.iconst 2, 1) := by decide +kernel
theorem dL_law_599 : decode cL_law 599 = .ok (.iadd, 1) := by decide +kernel
theorem dL_law_600 : decode cL_law 600 = .ok (.iaload, 1) := by decide +kernel
theorem dL_law_601 : decode cL_law 601 = .ok (.aload_n 0, 1) := by decide +kernel
theorem dL_law_602 : decode cL_law 602 = .ok (.iload_n 3, 1) := by decide +kernel
theorem dL_law_603 : decode cL_law 603 = .ok (.iconst 3, 1) := by decide +kernel
theorem dL_law_604 : decode cL_law 604 = .ok (.iadd, 1) := by decide +kernel
theorem dL_law_605 : decode cL_law 605 = .ok (.iaload, 1) := by decide +kernel
theorem dL_law_606 : decode cL_law 606 = .ok (.invokevirtual 80, 3) := by decide +kernel
theorem dL_law_609 : decode cL_law 609 = .ok (.aload_n 2, 1) := by decide +kernel
theorem dL_law_610 : decode cL_law 610 = .ok (.aload_n 0, 1) := by decide +kernel
theorem dL_law_611 : decode cL_law 611 = .ok (.iload_n 3, 1) := by decide +kernel
theorem dL_law_612 : decode cL_law 612 = .ok (.iconst 1, 1) := by decide +kernel
theorem dL_law_613 : decode cL_law 613 = .ok (.iadd, 1) := by decide +kernel
theorem dL_law_614 : decode cL_law 614 = .ok (.iaload, 1) := by decide +kernel
theorem dL_law_615 : decode cL_law 615 = .ok (.aload_n 0, 1) := by decide +kernel
theorem dL_law_616 : decode cL_law 616 = .ok (.iload_n 3, 1) := by decide +kernel
theorem dL_law_617 : decode cL_law 617 = .ok (.iconst 2, 1) := by decide +kernel
theorem dL_law_618 : decode cL_law 618 = .ok (.iadd, 1) := by decide +kernel
theorem dL_law_619 : decode cL_law 619 = .ok (.iaload, 1) := by decide +kernel
theorem dL_law_620 : decode cL_law 620 = .ok (.aload_n 0, 1) := by decide +kernel
theorem dL_law_621 : decode cL_law 621 = .ok (.iload_n 3, 1) := by decide +kernel
theorem dL_law_622 : decode cL_law 622 = .ok (.iconst 3, 1) := by decide +kernel
theorem dL_law_623 : decode cL_law 623 = .ok (.iadd, 1) := by decide +kernel
theorem dL_law_624 : decode cL_law 624 = .ok (.iaload, 1) := by decide +kernel
theorem dL_law_625 : decode cL_law 625 = .ok (.invokevirtual 83, 3) := by decide +kernel
theorem dL_law_628 : decode cL_law 628 = .ok (.if_icmp .eq 202, 3) := by decide +kernel
theorem dL_law_631 : decode cL_law 631 = .ok (.iconst 0, 1) := by decide +kernel
theorem dL_law_632 : decode cL_law 632 = .ok (.ireturn, 1) := by decide +kernel
theorem dL_law_633 : decode cL_law 633 = .ok (.aload_n 1, 1) := by decide +kernel
theorem dL_law_634 : decode cL_law 634 = .ok (.aload_n 0, 1) := by decide +kernel
theorem dL_law_635 : decode cL_law 635 = .ok (.iload_n 3, 1) := by decide +kernel
theorem dL_law_636 : decode cL_law 636 = .ok (.iconst 1, 1) := by decide +kernel
theorem dL_law_637 : decode cL_law 637 = .ok (.iadd, 1) := by decide +kernel
theorem dL_law_638 : decode cL_law 638 = .ok (.iaload, 1) := by decide +kernel
theorem dL_law_639 : decode cL_law 639 = .ok (.invokevirtual 84, 3) := by decide +kernel
theorem dL_law_642 : decode cL_law 642 = .ok (.aload_n 2, 1) := by decide +kernel
theorem dL_law_643 : decode cL_law 643 = .ok (.aload_n 0, 1) := by decide +kernel
theorem dL_law_644 : decode cL_law 644 = .ok (.iload_n 3, 1) := by decide +kernel
theorem dL_law_645 : decode cL_law 645 = .ok (.iconst 1, 1) := by decide +kernel
theorem dL_law_646 : decode cL_law 646 = .ok (.iadd, 1) := by decide +kernel
theorem dL_law_647 : decode cL_law 647 = .ok (.iaload, 1) := by decide +kernel
theorem dL_law_648 : decode cL_law 648 = .ok (.invokevirtual 87, 3) := by decide +kernel
theorem dL_law_651 : decode cL_law 651 = .ok (.if_icmp .eq 179, 3) := by decide +kernel
theorem dL_law_654 : decode cL_law 654 = .ok (.iconst 0, 1) := by decide +kernel
theorem dL_law_655 : decode cL_law 655 = .ok (.ireturn, 1) := by decide +kernel
theorem dL_law_656 : decode cL_law 656 = .ok (.aload_n 1, 1) := by decide +kernel
theorem dL_law_657 : decode cL_law 657 = .ok (.aload_n 0, 1) := by decide +kernel
theorem dL_law_658 : decode cL_law 658 = .ok (.iload_n 3, 1) := by decide +kernel
theorem dL_law_659 : decode cL_law 659 = .ok (.iconst 1, 1) := by decide +kernel
theorem dL_law_660 : decode cL_law 660 = .ok (.iadd, 1) := by decide +kernel
theorem dL_law_661 : decode cL_law 661 = .ok (.iaload, 1) := by decide +kernel
theorem dL_law_662 : decode cL_law 662 = .ok (.invokevirtual 88, 3) := by decide +kernel
theorem dL_law_665 : decode cL_law 665 = .ok (.aload_n 2, 1) := by decide +kernel
theorem dL_law_666 : decode cL_law 666 = .ok (.aload_n 0, 1) := by decide +kernel
theorem dL_law_667 : decode cL_law 667 = .ok (.iload_n 3, 1) := by decide +kernel
theorem dL_law_668 : decode cL_law 668 = .ok (.iconst 1, 1) := by decide +kernel
theorem dL_law_669 : decode cL_law 669 = .ok (.iadd, 1) := by decide +kernel
theorem dL_law_670 : decode cL_law 670 = .ok (.iaload, 1) := by decide +kernel
theorem dL_law_671 : decode cL_law 671 = .ok (.invokevirtual 91, 3) := by decide +kernel
theorem dL_law_674 : decode cL_law 674 = .ok (.if_icmp .eq 156, 3) := by decide +kernel
theorem dL_law_677 : decode cL_law 677 = .ok (.iconst 0, 1) := by decide +kernel
theorem dL_law_678 : decode cL_law 678 = .ok (.ireturn, 1) := by decide +kernel
theorem dL_law_679 : decode cL_law 679 = .ok (.aload_n 1, 1) := by decide +kernel
theorem dL_law_680 : decode cL_law 680 = .ok (.aload_n 0, 1) := by decide +kernel
theorem dL_law_681 : decode cL_law 681 = .ok (.iload_n 3, 1) := by decide +kernel
theorem dL_law_682 : decode cL_law 682 = .ok (.iconst 1, 1) := by decide +kernel
theorem dL_law_683 : decode cL_law 683 = .ok (.iadd, 1) := by decide +kernel
theorem dL_law_684 : decode cL_law 684 = .ok (.iaload, 1) := by decide +kernel
theorem dL_law_685 : decode cL_law 685 = .ok (.i2l, 1) := by decide +kernel
theorem dL_law_686 : decode cL_law 686 = .ok (.bipush 32, 2) := by decide +kernel
theorem dL_law_688 : decode cL_law 688 = .ok (.lshl, 1) := by decide +kernel
theorem dL_law_689 : decode cL_law 689 = .ok (.aload_n 0, 1) := by decide +kernel
theorem dL_law_690 : decode cL_law 690 = .ok (.iload_n 3, 1) := by decide +kernel
theorem dL_law_691 : decode cL_law 691 = .ok (.iconst 2, 1) := by decide +kernel
theorem dL_law_692 : decode cL_law 692 = .ok (.iadd, 1) := by decide +kernel
theorem dL_law_693 : decode cL_law 693 = .ok (.iaload, 1) := by decide +kernel
theorem dL_law_694 : decode cL_law 694 = .ok (.i2l, 1) := by decide +kernel
theorem dL_law_695 : decode cL_law 695 = .ok (.ldc2_w 92, 3) := by decide +kernel
theorem dL_law_698 : decode cL_law 698 = .ok (.land, 1) := by decide +kernel
theorem dL_law_699 : decode cL_law 699 = .ok (.lor, 1) := by decide +kernel
theorem dL_law_700 : decode cL_law 700 = .ok (.invokevirtual 94, 3) := by decide +kernel
theorem dL_law_703 : decode cL_law 703 = .ok (.aload_n 2, 1) := by decide +kernel
theorem dL_law_704 : decode cL_law 704 = .ok (.aload_n 0, 1) := by decide +kernel
theorem dL_law_705 : decode cL_law 705 = .ok (.iload_n 3, 1) := by decide +kernel
theorem dL_law_706 : decode cL_law 706 = .ok (.iconst 1, 1) := by decide +kernel
theorem dL_law_707 : decode cL_law 707 = .ok (.iadd, 1) := by decide +kernel
theorem dL_law_708 : decode cL_law 708 = .ok (.iaload, 1) := by decide +kernel
theorem dL_law_709 : decode cL_law 709 = .ok (.i2l, 1) := by decide +kernel
theorem dL_law_710 : decode cL_law 710 = .ok (.bipush 32, 2) := by decide +kernel
theorem dL_law_712 : decode cL_law 712 = .ok (.lshl, 1) := by decide +kernel
theorem dL_law_713 : decode cL_law 713 = .ok (.aload_n 0, 1) := by decide +kernel
theorem dL_law_714 : decode cL_law 714 = .ok (.iload_n 3, 1) := by decide +kernel
theorem dL_law_715 : decode cL_law 715 = .ok (.iconst 2, 1) := by decide +kernel
theorem dL_law_716 : decode cL_law 716 = .ok (.iadd, 1) := by decide +kernel
theorem dL_law_717 : decode cL_law 717 = .ok (.iaload, 1) := by decide +kernel
theorem dL_law_718 : decode cL_law 718 = .ok (.i2l, 1) := by decide +kernel
theorem dL_law_719 : decode cL_law 719 = .ok (.ldc2_w 92, 3) := by decide +kernel
theorem dL_law_722 : decode cL_law 722 = .ok (.land, 1) := by decide +kernel
theorem dL_law_723 : decode cL_law 723 = .ok (.lor, 1) := by decide +kernel
theorem dL_law_724 : decode cL_law 724 = .ok (.invokevirtual 98, 3) := by decide +kernel
theorem dL_law_727 : decode cL_law 727 = .ok (.if_icmp .eq 103, 3) := by decide +kernel
theorem dL_law_730 : decode cL_law 730 = .ok (.iconst 0, 1) := by decide +kernel
theorem dL_law_731 : decode cL_law 731 = .ok (.ireturn, 1) := by decide +kernel
theorem dL_law_732 : decode cL_law 732 = .ok (.aload_n 1, 1) := by decide +kernel
theorem dL_law_733 : decode cL_law 733 = .ok (.invokevirtual 99, 3) := by decide +kernel
theorem dL_law_736 : decode cL_law 736 = .ok (.aload_n 2, 1) := by decide +kernel
theorem dL_law_737 : decode cL_law 737 = .ok (.invokevirtual 103, 3) := by decide +kernel
theorem dL_law_740 : decode cL_law 740 = .ok (.if_icmp .eq 90, 3) := by decide +kernel
theorem dL_law_743 : decode cL_law 743 = .ok (.iconst 0, 1) := by decide +kernel
theorem dL_law_744 : decode cL_law 744 = .ok (.ireturn, 1) := by decide +kernel
theorem dL_law_745 : decode cL_law 745 = .ok (.aload_n 1, 1) := by decide +kernel
theorem dL_law_746 : decode cL_law 746 = .ok (.invokevirtual 104, 3) := by decide +kernel
theorem dL_law_749 : decode cL_law 749 = .ok (.aload_n 2, 1) := by decide +kernel
theorem dL_law_750 : decode cL_law 750 = .ok (.invokevirtual 107, 3) := by decide +kernel
theorem dL_law_753 : decode cL_law 753 = .ok (.if_icmp .eq 77, 3) := by decide +kernel
theorem dL_law_756 : decode cL_law 756 = .ok (.iconst 0, 1) := by decide +kernel
theorem dL_law_757 : decode cL_law 757 = .ok (.ireturn, 1) := by decide +kernel
theorem dL_law_758 : decode cL_law 758 = .ok (.aload_n 1, 1) := by decide +kernel
theorem dL_law_759 : decode cL_law 759 = .ok (.invokevirtual 108, 3) := by decide +kernel
theorem dL_law_762 : decode cL_law 762 = .ok (.aload_n 2, 1) := by decide +kernel
theorem dL_law_763 : decode cL_law 763 = .ok (.invokevirtual 111, 3) := by decide +kernel
theorem dL_law_766 : decode cL_law 766 = .ok (.if_icmp .eq 64, 3) := by decide +kernel
theorem dL_law_769 : decode cL_law 769 = .ok (.iconst 0, 1) := by decide +kernel
theorem dL_law_770 : decode cL_law 770 = .ok (.ireturn, 1) := by decide +kernel
theorem dL_law_771 : decode cL_law 771 = .ok (.aload_n 1, 1) := by decide +kernel
theorem dL_law_772 : decode cL_law 772 = .ok (.invokevirtual 112, 3) := by decide +kernel
theorem dL_law_775 : decode cL_law 775 = .ok (.aload_n 2, 1) := by decide +kernel
theorem dL_law_776 : decode cL_law 776 = .ok (.invokevirtual 115, 3) := by decide +kernel
theorem dL_law_779 : decode cL_law 779 = .ok (.if_icmp .eq 51, 3) := by decide +kernel
theorem dL_law_782 : decode cL_law 782 = .ok (.iconst 0, 1) := by decide +kernel
theorem dL_law_783 : decode cL_law 783 = .ok (.ireturn, 1) := by decide +kernel
theorem dL_law_784 : decode cL_law 784 = .ok (.aload_n 1, 1) := by decide +kernel
theorem dL_law_785 : decode cL_law 785 = .ok (.aload_n 0, 1) := by decide +kernel
theorem dL_law_786 : decode cL_law 786 = .ok (.iload_n 3, 1) := by decide +kernel
theorem dL_law_787 : decode cL_law 787 = .ok (.iconst 1, 1) := by decide +kernel
theorem dL_law_788 : decode cL_law 788 = .ok (.iadd, 1) := by decide +kernel
theorem dL_law_789 : decode cL_law 789 = .ok (.iaload, 1) := by decide +kernel
theorem dL_law_790 : decode cL_law 790 = .ok (.invokevirtual 116, 3) := by decide +kernel
theorem dL_law_793 : decode cL_law 793 = .ok (.aload_n 2, 1) := by decide +kernel
theorem dL_law_794 : decode cL_law 794 = .ok (.aload_n 0, 1) := by decide +kernel
theorem dL_law_795 : decode cL_law 795 = .ok (.iload_n 3, 1) := by decide +kernel
theorem dL_law_796 : decode cL_law 796 = .ok (.iconst 1, 1) := by decide +kernel
theorem dL_law_797 : decode cL_law 797 = .ok (.iadd, 1) := by decide +kernel
theorem dL_law_798 : decode cL_law 798 = .ok (.iaload, 1) := by decide +kernel
theorem dL_law_799 : decode cL_law 799 = .ok (.invokevirtual 119, 3) := by decide +kernel
theorem dL_law_802 : decode cL_law 802 = .ok (.if_icmp .eq 28, 3) := by decide +kernel
theorem dL_law_805 : decode cL_law 805 = .ok (.iconst 0, 1) := by decide +kernel
theorem dL_law_806 : decode cL_law 806 = .ok (.ireturn, 1) := by decide +kernel
theorem dL_law_807 : decode cL_law 807 = .ok (.aload_n 1, 1) := by decide +kernel
theorem dL_law_808 : decode cL_law 808 = .ok (.aload_n 0, 1) := by decide +kernel
theorem dL_law_809 : decode cL_law 809 = .ok (.iload_n 3, 1) := by decide +kernel
theorem dL_law_810 : decode cL_law 810 = .ok (.iconst 1, 1) := by decide +kernel
theorem dL_law_811 : decode cL_law 811 = .ok (.iadd, 1) := by decide +kernel
theorem dL_law_812 : decode cL_law 812 = .ok (.iaload, 1) := by decide +kernel
theorem dL_law_813 : decode cL_law 813 = .ok (.invokevirtual 120, 3) := by decide +kernel
theorem dL_law_816 : decode cL_law 816 = .ok (.aload_n 2, 1) := by decide +kernel
theorem dL_law_817 : decode cL_law 817 = .ok (.aload_n 0, 1) := by decide +kernel
theorem dL_law_818 : decode cL_law 818 = .ok (.iload_n 3, 1) := by decide +kernel
theorem dL_law_819 : decode cL_law 819 = .ok (.iconst 1, 1) := by decide +kernel
theorem dL_law_820 : decode cL_law 820 = .ok (.iadd, 1) := by decide +kernel
theorem dL_law_821 : decode cL_law 821 = .ok (.iaload, 1) := by decide +kernel
theorem dL_law_822 : decode cL_law 822 = .ok (.invokevirtual 123, 3) := by decide +kernel
theorem dL_law_825 : decode cL_law 825 = .ok (.if_icmp .eq 5, 3) := by decide +kernel
theorem dL_law_828 : decode cL_law 828 = .ok (.iconst 0, 1) := by decide +kernel
theorem dL_law_829 : decode cL_law 829 = .ok (.ireturn, 1) := by decide +kernel
theorem dL_law_830 : decode cL_law 830 = .ok (.iinc 3 4, 3) := by decide +kernel
theorem dL_law_833 : decode cL_law 833 = .ok (.goto (-815), 3) := by decide +kernel
theorem dL_law_836 : decode cL_law 836 = .ok (.iconst 1, 1) := by decide +kernel
theorem dL_law_837 : decode cL_law 837 = .ok (.ireturn, 1) := by decide +kernel
end
section
/-! THE ABSTRACT MACHINE: a method's world is the whole heap from 'base' on, and three static rows of numbers below it.
A heap here is its size and its cells by address; a cell is an array (tag 0 int, 1 boolean, 2 char, 3 Office[], 4 a static int[]) or an object (class by place, fields). -/
abbrev Hp : Type := Nat × (Nat → Option va_E)
def ax_f (j i : Nat) : Int32 := match j with
  | 0 => ([1, 1, 1, 0, 0] : List Int32).getD i 0
  | 1 => ([400, 100, 200, 400, 50] : List Int32).getD i 0
  | _ => ([366, 60, 90, 30, 5] : List Int32).getD i 0
def ax_n (j : Nat) : String := match j with
  | 0 => "LEAST"
  | 1 => "MOST"
  | _ => "AT_FIRST"
def ax_cell (tA : Nat → ClassId) (e : va_E) : va_E := match e with
  | .inl x => .inl (tA x.1, x.2)
  | .inr o => .inr o
def ax_isS (e : va_E) : Bool := match e with
  | .inl x => x.1 == 4
  | .inr _ => false
abbrev ax_tys (tA : Nat → ClassId) : List (ClassId × FieldType) := [(tA 0, .int), (tA 1, .boolean), (tA 2, .char), (tA 3, .object "EscheatLots$Office")]
def ax_ws (tA : Nat → ClassId) (h : Nat → Option va_E) (base n : Nat) : va_W := (List.range n).map (fun i => (base + i, ax_cell tA ((h (base + i)).getD (.inr (0, [])))))
def hset (h : Nat → Option va_E) (a : Nat) (e : va_E) : Nat → Option va_E := fun q => if q = a then some e else h q
theorem hset_s (h : Nat → Option va_E) (a : Nat) (e : va_E) : hset h a e a = some e := if_pos rfl
theorem hset_n {h : Nat → Option va_E} {a q : Nat} (e : va_E) (hq : q ≠ a) : hset h a e q = h q := if_neg hq
theorem ax_ws_at {tA : Nat → ClassId} {h : Nat → Option va_E} {base n a : Nat} {e : va_E} (he : h a = some e) (h1 : base ≤ a) (h2 : a < base + n) : (ax_ws tA h base n)[a - base]? = some (a, ax_cell tA e) := by
  unfold ax_ws
  rw [List.getElem?_map, List.getElem?_range (by omega)]
  show some (base + (a - base), _) = _
  rw [show base + (a - base) = a by omega, he]
  rfl
theorem ax_ws_get {tA : Nat → ClassId} {h : Nat → Option va_E} {base n k : Nat} {q : Nat × va_E} (hk : (ax_ws tA h base n)[k]? = some q) : k < n ∧ q = (base + k, ax_cell tA ((h (base + k)).getD (.inr (0, [])))) := by
  unfold ax_ws at hk
  rw [List.getElem?_map] at hk
  by_cases hl : k < n
  · rw [List.getElem?_range hl] at hk
    exact ⟨hl, (Option.some.inj hk).symm⟩
  · rw [List.getElem?_eq_none (by simpa using hl)] at hk
    cases hk
theorem ax_ws_set {tA : Nat → ClassId} {h : Nat → Option va_E} {base n a : Nat} (e : va_E) (h1 : base ≤ a) : (ax_ws tA h base n).set (a - base) (a, ax_cell tA e) = ax_ws tA (hset h a e) base n := by
  apply List.ext_getElem?
  intro k
  rw [List.getElem?_set]
  unfold ax_ws
  rw [List.getElem?_map, List.getElem?_map, List.length_map, List.length_range]
  by_cases hl : k < n
  · rw [List.getElem?_range hl]
    by_cases hk : a - base = k
    · rw [if_pos hk, if_pos (by omega)]
      have ha : base + k = a := by omega
      show _ = some (base + k, _)
      rw [ha, hset_s]
      rfl
    · rw [if_neg hk]
      show some (base + k, _) = some (base + k, _)
      rw [hset_n e (by omega)]
  · rw [List.getElem?_eq_none (by simpa using hl)]
    by_cases hk : a - base = k
    · rw [if_pos hk, if_neg (by omega)]
      rfl
    · rw [if_neg hk]
      rfl
theorem ax_ws_push {tA : Nat → ClassId} {h : Nat → Option va_E} {base n : Nat} (e : va_E) : ax_ws tA h base n ++ [(base + n, ax_cell tA e)] = ax_ws tA (hset h (base + n) e) base (n + 1) := by
  unfold ax_ws
  rw [List.range_succ, List.map_append]
  congr 1
  · apply List.map_congr_left
    intro i hi
    have := List.mem_range.mp hi
    rw [hset_n e (by omega)]
  · show _ = [(base + n, _)]
    rw [hset_s]
    rfl
theorem ax_D (tA : Nat → ClassId) (h : Nat → Option va_E) (base n : Nat) : va_D (fun q : Nat => base ≤ q) (ax_ws tA h base n) := by
  refine ⟨fun i j x y hi hj hxy => ?_, fun k q hk => ?_⟩
  · obtain ⟨-, rfl⟩ := ax_ws_get hi
    obtain ⟨-, rfl⟩ := ax_ws_get hj
    exact Nat.add_left_cancel hxy
  · obtain ⟨-, rfl⟩ := ax_ws_get hk
    exact Nat.le_add_right _ _
/-- the heap holds it -/
def ax_H (D : va_G) (tA : Nat → ClassId) (base : Nat) (hp : Hp) (H : Heap) : Prop := H.size = hp.1 ∧ base ≤ hp.1 ∧ va_P D vwCl (ax_ws tA hp.2 base (hp.1 - base)) H
/-- which addresses hold what: the static rows as they are, all else from base on -/
def ax_C (base : Nat) (st : Nat → Nat) (hp : Hp) : Prop := (∀ j, j < 3 → hp.2 (st j) = some (.inl (4, 5, .inl (ax_f j)))) ∧ ∀ a e, hp.2 a = some e → (ax_isS e = false ∧ base ≤ a ∧ a < hp.1) ∨ ∃ j, j < 3 ∧ a = st j ∧ e = .inl (4, 5, .inl (ax_f j))
def ax_N (U : State) : Prop := (∀ w ∈ NB, va_Nw w U) ∧ va_AO "EscheatLots$Office" U
/-- what the machine knows, whatever the heap holds -/
def ax_I (D : va_G) (tA : Nat → ClassId) (base : Nat) (st : Nat → Nat) (U : State) : Prop := va_K D vwCl (ax_tys tA) U ∧ (∀ j, j < 3 → va_T .int (st j) 5 (fun i => .int (ax_f j i)) (fun q => base ≤ q) U U.heap ∧ va_Z "EscheatLots" (ax_n j) "[I" (.ref (st j)) (fun q => base ≤ q) U U.heap) ∧ ax_N U
def ax_U (D : va_G) (tA : Nat → ClassId) (base : Nat) (st : Nat → Nat) (hp : Hp) (U : State) : Prop := ax_H D tA base hp U.heap ∧ ax_C base st hp ∧ ax_I D tA base st U
def ax_Q (D : va_G) (tA : Nat → ClassId) (base : Nat) (st : Nat → Nat) (mc : Nat) (Q : Option Value → Hp → Prop) : Array Value → State → Outcome → State → Prop := fun _ s oc t => (∃ r hp', oc = .returned r ∧ Q r hp' ∧ hp'.1 = s.heap.size + mc ∧ ax_H D tA base hp' t.heap ∧ ax_C base st hp') ∧ va_F (fun q => base ≤ q) s t
def ax_R (k mc ms : Nat) : Room := { frames := k, cells := mc, slots := ms, locals := 26 * k }
/-- A METHOD'S CONTRACT: with k frames of room, from hp with these arguments it returns, and Q holds of the answer and the heap behind it; mc new cells of ms slots -/
def CT (st : Nat → Nat) (k : Nat) (y : MethodName) (cc : ByteArray) (nL : Nat) (ret : Option FieldType) (av : List Value) (hp : Hp) (mc ms : Nat) (Q : Option Value → Hp → Prop) : Prop :=
  ∀ (l : Launch) (D : va_G) (tA : Nat → ClassId) (base : Nat), Met l y (.code y cc nL ret :: TB) (ax_R k mc ms) (va_Pc av (ax_U D tA base st hp)) (ax_Q D tA base st mc Q) mc ms (fun q => base ≤ q)
/-- the locals: a place that holds null is not told -/
def ax_nn (v : Value) : Bool := match v with
  | .null => false
  | _ => true
def ax_as (lv : List Value) : List (Nat × Value) := (lv.zipIdx.map (fun q => (q.2, q.1))).filter (fun q => ax_nn q.2)
def ax_L (ls : Array Slot) (nL : Nat) (lv : List Value) : Prop := lv.length = nL ∧ lv_has ls nL (ax_as lv)
theorem ax_as_mem {lv : List Value} {q : Nat × Value} : q ∈ ax_as lv ↔ lv[q.1]? = some q.2 ∧ ax_nn q.2 = true := by
  unfold ax_as
  rw [List.mem_filter, List.mem_map]
  constructor
  · rintro ⟨⟨x, hx, rfl⟩, hn⟩
    have := List.mem_zipIdx_iff_getElem?.mp hx
    exact ⟨this, hn⟩
  · rintro ⟨h1, h2⟩
    exact ⟨⟨(q.2, q.1), List.mem_zipIdx_iff_getElem?.mpr h1, rfl⟩, h2⟩
theorem ax_L.get {ls : Array Slot} {nL : Nat} {lv : List Value} {i : Nat} {v : Value} (h : ax_L ls nL lv) (hi : lv[i]? = some v) (hv : ax_nn v = true) : ls[i]? = some (.val v) := h.2.2.2 (i, v) (ax_as_mem.mpr ⟨hi, hv⟩)
/-- a store at i may stand: the place before it holds no long -/
def ax_ok (lv : List Value) (i : Nat) : Bool := match i with
  | 0 => true
  | j + 1 => match lv[j]? with
    | some (.long _) => false
    | some (.double _) => false
    | _ => true
theorem ax_ok_at {lv : List Value} {i j : Nat} {v : Value} (h : ax_ok lv i = true) (hj : lv[j]? = some v) (hij : j + 1 = i) : v.category ≠ 2 := by
  subst hij
  cases v with
  | long z => simp [ax_ok, hj] at h
  | double z => simp [ax_ok, hj] at h
  | _ => simp [Value.category]
theorem ax_L.put {ls ls' : Array Slot} {nL : Nat} {lv : List Value} {i : Nat} {x : Value} (h : ax_L ls nL lv) (ho : ax_ok lv i = true) (h' : lv_has ls' nL ((i, x) :: (ax_as lv).filter (fun q => !(q.1 == i) && !(q.1 + 1 == i && q.2.category == 2)))) : ax_L ls' nL (lv.set i x) := by
  refine ⟨by rw [List.length_set]; exact h.1, h'.1, h'.2.1, fun q hq => h'.2.2 q ?_⟩
  obtain ⟨h1, h2⟩ := ax_as_mem.mp hq
  rw [List.getElem?_set] at h1
  by_cases hi : i = q.1
  · rw [if_pos hi] at h1
    split at h1
    · obtain ⟨q1, q2⟩ := q
      dsimp only at h1 hi
      subst hi
      cases h1
      exact List.mem_cons_self
    · cases h1
  · rw [if_neg hi] at h1
    refine List.mem_cons_of_mem _ (List.mem_filter.mpr ⟨ax_as_mem.mpr ⟨h1, h2⟩, ?_⟩)
    have e1 : (q.1 == i) = false := by simpa using fun e => hi e.symm
    rw [e1]
    by_cases hj : q.1 + 1 = i
    · have := ax_ok_at ho h1 hj
      simp [this]
    · simp [hj]
theorem ax_L.put2 {ls ls' : Array Slot} {nL : Nat} {lv : List Value} {i : Nat} {x : Value} (h : ax_L ls nL lv) (ho : ax_ok lv i = true) (h' : lv_has ls' nL ((i, x) :: (ax_as lv).filter (fun q => !(q.1 == i) && (!(q.1 == i + 1) && !(q.1 + 1 == i && q.2.category == 2))))) : ax_L ls' nL ((lv.set i x).set (i + 1) .null) := by
  refine ⟨by rw [List.length_set, List.length_set]; exact h.1, h'.1, h'.2.1, fun q hq => h'.2.2 q ?_⟩
  obtain ⟨h1, h2⟩ := ax_as_mem.mp hq
  rw [List.getElem?_set] at h1
  by_cases hi1 : i + 1 = q.1
  · rw [if_pos hi1] at h1
    split at h1
    · rw [← Option.some.inj h1] at h2
      cases h2
    · cases h1
  rw [if_neg hi1, List.getElem?_set] at h1
  by_cases hi : i = q.1
  · rw [if_pos hi] at h1
    split at h1
    · obtain ⟨q1, q2⟩ := q
      dsimp only at h1 hi
      subst hi
      cases h1
      exact List.mem_cons_self
    · cases h1
  · rw [if_neg hi] at h1
    refine List.mem_cons_of_mem _ (List.mem_filter.mpr ⟨ax_as_mem.mpr ⟨h1, h2⟩, ?_⟩)
    have e1 : (q.1 == i) = false := by simpa using fun e => hi e.symm
    have e2 : (q.1 == i + 1) = false := by simpa using fun e => hi1 e.symm
    rw [e1, e2]
    by_cases hj : q.1 + 1 = i
    · have := ax_ok_at ho h1 hj
      simp [this]
    · simp [hj]
/-- what a method's body knows of the machine -/
def ax_M (st : Nat → Nat) (y : MethodName) (cc : ByteArray) (nL : Nat) (ret : Option FieldType) (hp0 : Hp) (D : va_G) (tA : Nat → ClassId) (base : Nat) (p : Program) (s : State) (m : MethodId) (args : Array Value) (meth : Method) (c : Code) : Prop :=
  p.tables.exec = Jvm.exec ∧ c.code = cc ∧ meth.sig.returnType = ret ∧ c.maxLocals = nL ∧ s.vm.findClass y.cls = some m.cls ∧ (∀ w ∈ TB, w.before args s = true) ∧ meth.locks = false ∧ s.heap.size = hp0.1 ∧ base ≤ s.heap.size ∧ meth.name = y.name ∧ ax_I D tA base st s
/-- THE JUDGEMENT: the machine at pc with these locals, this stack, over this heap (cl cells of sl slots made so far) comes to the method's end, with 'fin' of answer and heap -/
def Ev (st : Nat → Nat) (k : Nat) (y : MethodName) (cc : ByteArray) (nL : Nat) (ret : Option FieldType) (hp0 : Hp) (mc ms : Nat) (fin : Option Value → Hp → Prop) (pc : Nat) (lv stk : List Value) (hp : Hp) (cl sl : Nat) : Prop :=
  ∀ (l : Launch) (D : va_G) (tA : Nat → ClassId) (base : Nat) (p : Program) (e : Env) (s : State) (m : MethodId) (args : Array Value) (below : List Frame) (meth : Method) (c : Code), ax_M st y cc nL ret hp0 D tA base p s m args meth c →
    ∀ (H : Heap) (locs : List Loc) (ls : Array Slot), ax_H D tA base hp H → ax_C base st hp → hp.1 = hp0.1 + cl → va_S (fun q => base ≤ q) s.heap H locs → ax_L ls nL lv →
      W p l e (ax_R k mc ms) s m args below meth c H locs cl sl (MQ below (ax_Q D tA base st mc fin) args s mc ms (fun q => base ≤ q)) (F0 m pc ls stk)
/-- a method's start -/
theorem CT.of {st : Nat → Nat} {k : Nat} {y : MethodName} {cc : ByteArray} {nL : Nat} {ret : Option FieldType} {av : List Value} {hp : Hp} {mc ms : Nat} {Q : Option Value → Hp → Prop} {lv : List Value} (hpl : plainName y.cls = true) (h1 : (lg_sl av).length ≤ nL) (h2 : lv.length = nL) (h3 : ax_as lv = lv_args 0 av)
    (h : Ev st k y cc nL ret hp mc ms Q 0 lv [] hp 0 0) : CT st k y cc nL ret av hp mc ms Q := by
  intro l D tA base
  refine Met.ofW (cc := cc) (maxL := nL) (ret := ret) hpl rfl ?_
  intro p e s m args below meth c s₁ B hml hv
  obtain ⟨rfl, hH, hC, hI⟩ := hv
  have hts := atoms_spec (ws := .code y cc nL ret :: TB) B.pre
  rw [lg_entry_eq]
  refine h l D tA base p e s m _ below meth c ⟨B.exec, B.bytes, B.returns, hml, findClass_of_methodNamed B.named, fun w hw => hts w (List.mem_cons_of_mem _ hw), B.notSynchronized, hH.1, by rw [hH.1]; exact hH.2.1, (name_of_methodNamed B.named B.method).1, hI⟩ s.heap [] _ hH hC rfl va_S.rf ⟨h2, ?_⟩
  rw [h3]
  exact lv_entry av h1
theorem CT.mono {st : Nat → Nat} {k : Nat} {y : MethodName} {cc : ByteArray} {nL : Nat} {ret : Option FieldType} {av : List Value} {hp : Hp} {mc ms : Nat} {Q Q' : Option Value → Hp → Prop} (h : CT st k y cc nL ret av hp mc ms Q) (hq : ∀ r hp', Q r hp' → Q' r hp') : CT st k y cc nL ret av hp mc ms Q' := by
  intro l D tA base
  intro p e ha hc hk s m args below hf hh hheap happ
  obtain ⟨kk, o, a1, a2, a3, a4⟩ := h l D tA base p e ha hc hk s m args below hf hh hheap happ
  obtain ⟨⟨⟨r, hp', b1, b2, b3⟩, b4⟩, b5⟩ := a4
  exact ⟨kk, o, a1, a2, a3, ⟨⟨r, hp', b1, hq _ _ b2, b3⟩, b4⟩, b5⟩
end
section
section AXR
variable {st : Nat → Nat} {k : Nat} {y : MethodName} {cc : ByteArray} {nL : Nat} {ret : Option FieldType} {hp0 : Hp} {mc ms : Nat} {fin : Option Value → Hp → Prop} {pc : Nat} {lv stk : List Value} {hp : Hp} {cl sl : Nat}
theorem x_iconst {n : Int} {v : Int32} (hd : decode cc pc = .ok (.iconst n, 1)) (hv : Int32.ofInt n = v) (h : Ev st k y cc nL ret hp0 mc ms fin (pc + 1) lv (.int v :: stk) hp cl sl) : Ev st k y cc nL ret hp0 mc ms fin pc lv stk hp cl sl := by
  intro l D tA base p e s m args below meth c M H locs ls hH hC hz hS hL
  exact lv_iconst M.1 M.2.1 hd hv (h l D tA base p e s m args below meth c M H locs ls hH hC hz hS hL)
theorem x_bipush {n : Int} {v : Int32} (hd : decode cc pc = .ok (.bipush n, 2)) (hv : (Int8.ofInt n).toInt32 = v) (h : Ev st k y cc nL ret hp0 mc ms fin (pc + 2) lv (.int v :: stk) hp cl sl) : Ev st k y cc nL ret hp0 mc ms fin pc lv stk hp cl sl := by
  intro l D tA base p e s m args below meth c M H locs ls hH hC hz hS hL
  exact lv_bipush M.1 M.2.1 hd hv (h l D tA base p e s m args below meth c M H locs ls hH hC hz hS hL)
theorem x_sipush {n : Int} {v : Int32} (hd : decode cc pc = .ok (.sipush n, 3)) (hv : (Int16.ofInt n).toInt32 = v) (h : Ev st k y cc nL ret hp0 mc ms fin (pc + 3) lv (.int v :: stk) hp cl sl) : Ev st k y cc nL ret hp0 mc ms fin pc lv stk hp cl sl := by
  intro l D tA base p e s m args below meth c M H locs ls hH hC hz hS hL
  exact lv_sipush M.1 M.2.1 hd hv (h l D tA base p e s m args below meth c M H locs ls hH hC hz hS hL)
theorem x_lconst {n : Fin 2} {v : Int64} (hd : decode cc pc = .ok (.lconst n, 1)) (hv : Int64.ofNat (n : Nat) = v) (h : Ev st k y cc nL ret hp0 mc ms fin (pc + 1) lv (.long v :: stk) hp cl sl) : Ev st k y cc nL ret hp0 mc ms fin pc lv stk hp cl sl := by
  intro l D tA base p e s m args below meth c M H locs ls hH hC hz hS hL
  exact lv_lconst M.1 M.2.1 hd hv (h l D tA base p e s m args below meth c M H locs ls hH hC hz hS hL)
theorem x_ldcw {n : Nat} {v : Int32} (hd : decode cc pc = .ok (.ldc_w n, 3)) (hv : Cond.constant y.cls n v ∈ TB) (h : Ev st k y cc nL ret hp0 mc ms fin (pc + 3) lv (.int v :: stk) hp cl sl) : Ev st k y cc nL ret hp0 mc ms fin pc lv stk hp cl sl := by
  intro l D tA base p e s m args below meth c M H locs ls hH hC hz hS hL
  exact lv_ldcw M.1 M.2.1 M.2.2.2.2.1 (M.2.2.2.2.2.1 _ hv) hd (h l D tA base p e s m args below meth c M H locs ls hH hC hz hS hL)
theorem x_ldc2 {n : Nat} {v : Int64} (hd : decode cc pc = .ok (.ldc2_w n, 3)) (hv : Cond.constantLong y.cls n v ∈ TB) (h : Ev st k y cc nL ret hp0 mc ms fin (pc + 3) lv (.long v :: stk) hp cl sl) : Ev st k y cc nL ret hp0 mc ms fin pc lv stk hp cl sl := by
  intro l D tA base p e s m args below meth c M H locs ls hH hC hz hS hL
  exact lv_ldc2 M.1 M.2.1 M.2.2.2.2.1 (M.2.2.2.2.2.1 _ hv) hd (h l D tA base p e s m args below meth c M H locs ls hH hC hz hS hL)
theorem x_iload_n {i : Fin 4} {x : Int32} (hd : decode cc pc = .ok (.iload_n i, 1)) (hi : lv[(i : Nat)]? = some (.int x)) (h : Ev st k y cc nL ret hp0 mc ms fin (pc + 1) lv (.int x :: stk) hp cl sl) : Ev st k y cc nL ret hp0 mc ms fin pc lv stk hp cl sl := by
  intro l D tA base p e s m args below meth c M H locs ls hH hC hz hS hL
  exact lv_iload_n M.1 M.2.1 hd rfl (hL.get hi rfl) (h l D tA base p e s m args below meth c M H locs ls hH hC hz hS hL)
theorem x_iload {i : Nat} {x : Int32} (hd : decode cc pc = .ok (.iload i, 2)) (hi : lv[i]? = some (.int x)) (h : Ev st k y cc nL ret hp0 mc ms fin (pc + 2) lv (.int x :: stk) hp cl sl) : Ev st k y cc nL ret hp0 mc ms fin pc lv stk hp cl sl := by
  intro l D tA base p e s m args below meth c M H locs ls hH hC hz hS hL
  exact lv_iload M.1 M.2.1 hd (hL.get hi rfl) (h l D tA base p e s m args below meth c M H locs ls hH hC hz hS hL)
theorem x_lload_n {i : Fin 4} {x : Int64} (hd : decode cc pc = .ok (.lload_n i, 1)) (hi : lv[(i : Nat)]? = some (.long x)) (h : Ev st k y cc nL ret hp0 mc ms fin (pc + 1) lv (.long x :: stk) hp cl sl) : Ev st k y cc nL ret hp0 mc ms fin pc lv stk hp cl sl := by
  intro l D tA base p e s m args below meth c M H locs ls hH hC hz hS hL
  exact lv_lload_n M.1 M.2.1 hd rfl (hL.get hi rfl) (h l D tA base p e s m args below meth c M H locs ls hH hC hz hS hL)
theorem x_lload {i : Nat} {x : Int64} (hd : decode cc pc = .ok (.lload i, 2)) (hi : lv[i]? = some (.long x)) (h : Ev st k y cc nL ret hp0 mc ms fin (pc + 2) lv (.long x :: stk) hp cl sl) : Ev st k y cc nL ret hp0 mc ms fin pc lv stk hp cl sl := by
  intro l D tA base p e s m args below meth c M H locs ls hH hC hz hS hL
  exact lv_lload M.1 M.2.1 hd (hL.get hi rfl) (h l D tA base p e s m args below meth c M H locs ls hH hC hz hS hL)
theorem x_aload_n {i : Fin 4} {x : Nat} (hd : decode cc pc = .ok (.aload_n i, 1)) (hi : lv[(i : Nat)]? = some (.ref x)) (h : Ev st k y cc nL ret hp0 mc ms fin (pc + 1) lv (.ref x :: stk) hp cl sl) : Ev st k y cc nL ret hp0 mc ms fin pc lv stk hp cl sl := by
  intro l D tA base p e s m args below meth c M H locs ls hH hC hz hS hL
  exact lv_aload_n M.1 M.2.1 hd rfl (hL.get hi rfl) (h l D tA base p e s m args below meth c M H locs ls hH hC hz hS hL)
theorem x_aload {i : Nat} {x : Nat} (hd : decode cc pc = .ok (.aload i, 2)) (hi : lv[i]? = some (.ref x)) (h : Ev st k y cc nL ret hp0 mc ms fin (pc + 2) lv (.ref x :: stk) hp cl sl) : Ev st k y cc nL ret hp0 mc ms fin pc lv stk hp cl sl := by
  intro l D tA base p e s m args below meth c M H locs ls hH hC hz hS hL
  exact lv_aload M.1 M.2.1 hd (hL.get hi rfl) (h l D tA base p e s m args below meth c M H locs ls hH hC hz hS hL)
theorem x_istore_n {i : Fin 4} {x : Int32} (hd : decode cc pc = .ok (.istore_n i, 1)) (hn : (i : Nat) < lv.length) (ho : ax_ok lv i = true) (h : Ev st k y cc nL ret hp0 mc ms fin (pc + 1) (lv.set i (.int x)) stk hp cl sl) : Ev st k y cc nL ret hp0 mc ms fin pc lv (.int x :: stk) hp cl sl := by
  intro l D tA base p e s m args below meth c M H locs ls hH hC hz hS hL
  exact lv_istore_n M.1 M.2.1 hd rfl hL.2 (by rw [← hL.1]; exact hn) rfl (fun ls2 hl2 => h l D tA base p e s m args below meth c M H locs ls2 hH hC hz hS (hL.put ho hl2))
theorem x_istore {i : Nat} {x : Int32} (hd : decode cc pc = .ok (.istore i, 2)) (hn : i < lv.length) (ho : ax_ok lv i = true) (h : Ev st k y cc nL ret hp0 mc ms fin (pc + 2) (lv.set i (.int x)) stk hp cl sl) : Ev st k y cc nL ret hp0 mc ms fin pc lv (.int x :: stk) hp cl sl := by
  intro l D tA base p e s m args below meth c M H locs ls hH hC hz hS hL
  exact lv_istore M.1 M.2.1 hd hL.2 (by rw [← hL.1]; exact hn) rfl (fun ls2 hl2 => h l D tA base p e s m args below meth c M H locs ls2 hH hC hz hS (hL.put ho hl2))
theorem x_astore_n {i : Fin 4} {x : Nat} (hd : decode cc pc = .ok (.astore_n i, 1)) (hn : (i : Nat) < lv.length) (ho : ax_ok lv i = true) (h : Ev st k y cc nL ret hp0 mc ms fin (pc + 1) (lv.set i (.ref x)) stk hp cl sl) : Ev st k y cc nL ret hp0 mc ms fin pc lv (.ref x :: stk) hp cl sl := by
  intro l D tA base p e s m args below meth c M H locs ls hH hC hz hS hL
  exact lv_astore_n M.1 M.2.1 hd rfl hL.2 (by rw [← hL.1]; exact hn) rfl (fun ls2 hl2 => h l D tA base p e s m args below meth c M H locs ls2 hH hC hz hS (hL.put ho hl2))
theorem x_astore {i : Nat} {x : Nat} (hd : decode cc pc = .ok (.astore i, 2)) (hn : i < lv.length) (ho : ax_ok lv i = true) (h : Ev st k y cc nL ret hp0 mc ms fin (pc + 2) (lv.set i (.ref x)) stk hp cl sl) : Ev st k y cc nL ret hp0 mc ms fin pc lv (.ref x :: stk) hp cl sl := by
  intro l D tA base p e s m args below meth c M H locs ls hH hC hz hS hL
  exact lv_astore M.1 M.2.1 hd hL.2 (by rw [← hL.1]; exact hn) rfl (fun ls2 hl2 => h l D tA base p e s m args below meth c M H locs ls2 hH hC hz hS (hL.put ho hl2))
theorem x_lstore_n {i : Fin 4} {x : Int64} (hd : decode cc pc = .ok (.lstore_n i, 1)) (hn : (i : Nat) + 1 < lv.length) (ho : ax_ok lv i = true) (h : Ev st k y cc nL ret hp0 mc ms fin (pc + 1) ((lv.set i (.long x)).set (i + 1) .null) stk hp cl sl) : Ev st k y cc nL ret hp0 mc ms fin pc lv (.long x :: stk) hp cl sl := by
  intro l D tA base p e s m args below meth c M H locs ls hH hC hz hS hL
  exact lv_lstore_n M.1 M.2.1 hd rfl hL.2 (by rw [← hL.1]; exact hn) rfl (fun ls2 hl2 => h l D tA base p e s m args below meth c M H locs ls2 hH hC hz hS (hL.put2 ho hl2))
theorem x_iinc {i : Nat} {n : Int} {x v : Int32} (hd : decode cc pc = .ok (.iinc i n, 3)) (hi : lv[i]? = some (.int x)) (hv : x + Int32.ofInt n = v) (ho : ax_ok lv i = true) (h : Ev st k y cc nL ret hp0 mc ms fin (pc + 3) (lv.set i (.int v)) stk hp cl sl) : Ev st k y cc nL ret hp0 mc ms fin pc lv stk hp cl sl := by
  intro l D tA base p e s m args below meth c M H locs ls hH hC hz hS hL
  obtain ⟨kk, hkk⟩ := List.getElem?_of_mem (ax_as_mem.mpr ⟨hi, rfl⟩ : (i, Value.int x) ∈ ax_as lv)
  exact lv_iinc M.1 M.2.1 hd hL.2 hkk hv (by rw [← hL.1]; exact (List.getElem?_eq_some_iff.mp hi).1) rfl (fun ls2 hl2 => h l D tA base p e s m args below meth c M H locs ls2 hH hC hz hS (hL.put ho hl2))
theorem x_iadd {x z : Int32} (hd : decode cc pc = .ok (.iadd, 1)) (h : Ev st k y cc nL ret hp0 mc ms fin (pc + 1) lv (.int (x + z) :: stk) hp cl sl) : Ev st k y cc nL ret hp0 mc ms fin pc lv (.int z :: .int x :: stk) hp cl sl := by
  intro l D tA base p e s m args below meth c M H locs ls hH hC hz hS hL
  exact lv_iadd M.1 M.2.1 hd (h l D tA base p e s m args below meth c M H locs ls hH hC hz hS hL)
theorem x_isub {x z : Int32} (hd : decode cc pc = .ok (.isub, 1)) (h : Ev st k y cc nL ret hp0 mc ms fin (pc + 1) lv (.int (x - z) :: stk) hp cl sl) : Ev st k y cc nL ret hp0 mc ms fin pc lv (.int z :: .int x :: stk) hp cl sl := by
  intro l D tA base p e s m args below meth c M H locs ls hH hC hz hS hL
  exact lv_isub M.1 M.2.1 hd (h l D tA base p e s m args below meth c M H locs ls hH hC hz hS hL)
theorem x_imul {x z : Int32} (hd : decode cc pc = .ok (.imul, 1)) (h : Ev st k y cc nL ret hp0 mc ms fin (pc + 1) lv (.int (x * z) :: stk) hp cl sl) : Ev st k y cc nL ret hp0 mc ms fin pc lv (.int z :: .int x :: stk) hp cl sl := by
  intro l D tA base p e s m args below meth c M H locs ls hH hC hz hS hL
  exact lv_imul M.1 M.2.1 hd (h l D tA base p e s m args below meth c M H locs ls hH hC hz hS hL)
theorem x_iand {x z : Int32} (hd : decode cc pc = .ok (.iand, 1)) (h : Ev st k y cc nL ret hp0 mc ms fin (pc + 1) lv (.int (x &&& z) :: stk) hp cl sl) : Ev st k y cc nL ret hp0 mc ms fin pc lv (.int z :: .int x :: stk) hp cl sl := by
  intro l D tA base p e s m args below meth c M H locs ls hH hC hz hS hL
  exact lv_iand M.1 M.2.1 hd (h l D tA base p e s m args below meth c M H locs ls hH hC hz hS hL)
theorem x_ior {x z : Int32} (hd : decode cc pc = .ok (.ior, 1)) (h : Ev st k y cc nL ret hp0 mc ms fin (pc + 1) lv (.int (x ||| z) :: stk) hp cl sl) : Ev st k y cc nL ret hp0 mc ms fin pc lv (.int z :: .int x :: stk) hp cl sl := by
  intro l D tA base p e s m args below meth c M H locs ls hH hC hz hS hL
  exact lv_ior M.1 M.2.1 hd (h l D tA base p e s m args below meth c M H locs ls hH hC hz hS hL)
theorem x_ixor {x z : Int32} (hd : decode cc pc = .ok (.ixor, 1)) (h : Ev st k y cc nL ret hp0 mc ms fin (pc + 1) lv (.int (x ^^^ z) :: stk) hp cl sl) : Ev st k y cc nL ret hp0 mc ms fin pc lv (.int z :: .int x :: stk) hp cl sl := by
  intro l D tA base p e s m args below meth c M H locs ls hH hC hz hS hL
  exact lv_ixor M.1 M.2.1 hd (h l D tA base p e s m args below meth c M H locs ls hH hC hz hS hL)
theorem x_ishl {x z : Int32} (hd : decode cc pc = .ok (.ishl, 1)) (h : Ev st k y cc nL ret hp0 mc ms fin (pc + 1) lv (.int (x <<< (z &&& 31)) :: stk) hp cl sl) : Ev st k y cc nL ret hp0 mc ms fin pc lv (.int z :: .int x :: stk) hp cl sl := by
  intro l D tA base p e s m args below meth c M H locs ls hH hC hz hS hL
  exact lv_ishl M.1 M.2.1 hd (h l D tA base p e s m args below meth c M H locs ls hH hC hz hS hL)
theorem x_ishr {x z : Int32} (hd : decode cc pc = .ok (.ishr, 1)) (h : Ev st k y cc nL ret hp0 mc ms fin (pc + 1) lv (.int (x >>> (z &&& 31)) :: stk) hp cl sl) : Ev st k y cc nL ret hp0 mc ms fin pc lv (.int z :: .int x :: stk) hp cl sl := by
  intro l D tA base p e s m args below meth c M H locs ls hH hC hz hS hL
  exact lv_ishr M.1 M.2.1 hd (h l D tA base p e s m args below meth c M H locs ls hH hC hz hS hL)
theorem x_iushr {x z v : Int32} (hd : decode cc pc = .ok (.iushr, 1)) (hv : (x.toUInt32 >>> (z.toUInt32 &&& Int32.toUInt32 31)).toInt32 = v) (h : Ev st k y cc nL ret hp0 mc ms fin (pc + 1) lv (.int v :: stk) hp cl sl) : Ev st k y cc nL ret hp0 mc ms fin pc lv (.int z :: .int x :: stk) hp cl sl := by
  intro l D tA base p e s m args below meth c M H locs ls hH hC hz hS hL
  exact lv_iushr M.1 M.2.1 hd hv (h l D tA base p e s m args below meth c M H locs ls hH hC hz hS hL)
theorem x_idiv {x z : Int32} (hd : decode cc pc = .ok (.idiv, 1)) (hne : ¬ z = 0) (h : Ev st k y cc nL ret hp0 mc ms fin (pc + 1) lv (.int (x / z) :: stk) hp cl sl) : Ev st k y cc nL ret hp0 mc ms fin pc lv (.int z :: .int x :: stk) hp cl sl := by
  intro l D tA base p e s m args below meth c M H locs ls hH hC hz hS hL
  exact lv_idiv M.1 M.2.1 hd hne (h l D tA base p e s m args below meth c M H locs ls hH hC hz hS hL)
theorem x_irem {x z : Int32} (hd : decode cc pc = .ok (.irem, 1)) (hne : ¬ z = 0) (h : Ev st k y cc nL ret hp0 mc ms fin (pc + 1) lv (.int (x - x / z * z) :: stk) hp cl sl) : Ev st k y cc nL ret hp0 mc ms fin pc lv (.int z :: .int x :: stk) hp cl sl := by
  intro l D tA base p e s m args below meth c M H locs ls hH hC hz hS hL
  exact lv_irem M.1 M.2.1 hd hne (h l D tA base p e s m args below meth c M H locs ls hH hC hz hS hL)
theorem x_land {x z : Int64} (hd : decode cc pc = .ok (.land, 1)) (h : Ev st k y cc nL ret hp0 mc ms fin (pc + 1) lv (.long (x &&& z) :: stk) hp cl sl) : Ev st k y cc nL ret hp0 mc ms fin pc lv (.long z :: .long x :: stk) hp cl sl := by
  intro l D tA base p e s m args below meth c M H locs ls hH hC hz hS hL
  exact lv_land M.1 M.2.1 hd (h l D tA base p e s m args below meth c M H locs ls hH hC hz hS hL)
theorem x_lor {x z : Int64} (hd : decode cc pc = .ok (.lor, 1)) (h : Ev st k y cc nL ret hp0 mc ms fin (pc + 1) lv (.long (x ||| z) :: stk) hp cl sl) : Ev st k y cc nL ret hp0 mc ms fin pc lv (.long z :: .long x :: stk) hp cl sl := by
  intro l D tA base p e s m args below meth c M H locs ls hH hC hz hS hL
  exact lv_lor M.1 M.2.1 hd (h l D tA base p e s m args below meth c M H locs ls hH hC hz hS hL)
theorem x_lcmp {x z : Int64} (hd : decode cc pc = .ok (.lcmp, 1)) (h : Ev st k y cc nL ret hp0 mc ms fin (pc + 1) lv (.int (lg_cmp x z) :: stk) hp cl sl) : Ev st k y cc nL ret hp0 mc ms fin pc lv (.long z :: .long x :: stk) hp cl sl := by
  intro l D tA base p e s m args below meth c M H locs ls hH hC hz hS hL
  exact W.lcmp M.1 M.2.1 hd (h l D tA base p e s m args below meth c M H locs ls hH hC hz hS hL)
theorem x_lushr {x v : Int64} {z : Int32} (hd : decode cc pc = .ok (.lushr, 1)) (hv : (x.toUInt64 >>> (z.toInt64.toUInt64 &&& Int64.toUInt64 63)).toInt64 = v) (h : Ev st k y cc nL ret hp0 mc ms fin (pc + 1) lv (.long v :: stk) hp cl sl) : Ev st k y cc nL ret hp0 mc ms fin pc lv (.int z :: .long x :: stk) hp cl sl := by
  intro l D tA base p e s m args below meth c M H locs ls hH hC hz hS hL
  exact lv_lushr M.1 M.2.1 hd hv (h l D tA base p e s m args below meth c M H locs ls hH hC hz hS hL)
theorem x_lshl {x v : Int64} {z : Int32} (hd : decode cc pc = .ok (.lshl, 1)) (hv : x <<< (z.toInt64 &&& 63) = v) (h : Ev st k y cc nL ret hp0 mc ms fin (pc + 1) lv (.long v :: stk) hp cl sl) : Ev st k y cc nL ret hp0 mc ms fin pc lv (.int z :: .long x :: stk) hp cl sl := by
  intro l D tA base p e s m args below meth c M H locs ls hH hC hz hS hL
  exact lv_lshl M.1 M.2.1 hd hv (h l D tA base p e s m args below meth c M H locs ls hH hC hz hS hL)
theorem x_i2l {x : Int32} (hd : decode cc pc = .ok (.i2l, 1)) (h : Ev st k y cc nL ret hp0 mc ms fin (pc + 1) lv (.long x.toInt64 :: stk) hp cl sl) : Ev st k y cc nL ret hp0 mc ms fin pc lv (.int x :: stk) hp cl sl := by
  intro l D tA base p e s m args below meth c M H locs ls hH hC hz hS hL
  exact lv_i2l M.1 M.2.1 hd rfl (h l D tA base p e s m args below meth c M H locs ls hH hC hz hS hL)
theorem x_l2i {x : Int64} (hd : decode cc pc = .ok (.l2i, 1)) (h : Ev st k y cc nL ret hp0 mc ms fin (pc + 1) lv (.int x.toInt32 :: stk) hp cl sl) : Ev st k y cc nL ret hp0 mc ms fin pc lv (.long x :: stk) hp cl sl := by
  intro l D tA base p e s m args below meth c M H locs ls hH hC hz hS hL
  exact lv_l2i M.1 M.2.1 hd rfl (h l D tA base p e s m args below meth c M H locs ls hH hC hz hS hL)
theorem x_i2c {x : Int32} (hd : decode cc pc = .ok (.i2c, 1)) (h : Ev st k y cc nL ret hp0 mc ms fin (pc + 1) lv (.int (x.toUInt32 % 65536).toInt32 :: stk) hp cl sl) : Ev st k y cc nL ret hp0 mc ms fin pc lv (.int x :: stk) hp cl sl := by
  intro l D tA base p e s m args below meth c M H locs ls hH hC hz hS hL
  exact lv_i2c M.1 M.2.1 hd rfl (h l D tA base p e s m args below meth c M H locs ls hH hC hz hS hL)
theorem x_dup {v : Value} (hd : decode cc pc = .ok (.dup, 1)) (hv : v.category = 1) (h : Ev st k y cc nL ret hp0 mc ms fin (pc + 1) lv (v :: v :: stk) hp cl sl) : Ev st k y cc nL ret hp0 mc ms fin pc lv (v :: stk) hp cl sl := by
  intro l D tA base p e s m args below meth c M H locs ls hH hC hz hS hL
  exact lv_dup M.1 M.2.1 hd hv (h l D tA base p e s m args below meth c M H locs ls hH hC hz hS hL)
theorem x_pop {v : Value} (hd : decode cc pc = .ok (.pop, 1)) (hv : v.category = 1) (h : Ev st k y cc nL ret hp0 mc ms fin (pc + 1) lv stk hp cl sl) : Ev st k y cc nL ret hp0 mc ms fin pc lv (v :: stk) hp cl sl := by
  intro l D tA base p e s m args below meth c M H locs ls hH hC hz hS hL
  exact lv_pop M.1 M.2.1 hd hv (h l D tA base p e s m args below meth c M H locs ls hH hC hz hS hL)
theorem x_dup2 {v w : Value} (hd : decode cc pc = .ok (.dup2, 1)) (hv : v.category = 1) (hw : w.category = 1) (h : Ev st k y cc nL ret hp0 mc ms fin (pc + 1) lv (v :: w :: v :: w :: stk) hp cl sl) : Ev st k y cc nL ret hp0 mc ms fin pc lv (v :: w :: stk) hp cl sl := by
  intro l D tA base p e s m args below meth c M H locs ls hH hC hz hS hL
  exact lv_dup2_11 M.1 M.2.1 hd hv hw (h l D tA base p e s m args below meth c M H locs ls hH hC hz hS hL)
theorem x_dup_x1 {v w : Value} (hd : decode cc pc = .ok (.dup_x1, 1)) (hv : v.category = 1) (hw : w.category = 1) (h : Ev st k y cc nL ret hp0 mc ms fin (pc + 1) lv (v :: w :: v :: stk) hp cl sl) : Ev st k y cc nL ret hp0 mc ms fin pc lv (v :: w :: stk) hp cl sl := by
  intro l D tA base p e s m args below meth c M H locs ls hH hC hz hS hL
  exact lv_dup_x1 M.1 M.2.1 hd hv hw (h l D tA base p e s m args below meth c M H locs ls hH hC hz hS hL)
theorem x_goto {off : Int} {tgt : Nat} (hd : decode cc pc = .ok (.goto off, 3)) (ht : (pc : Int) + off = (tgt : Int)) (h : Ev st k y cc nL ret hp0 mc ms fin tgt lv stk hp cl sl) : Ev st k y cc nL ret hp0 mc ms fin pc lv stk hp cl sl := by
  intro l D tA base p e s m args below meth c M H locs ls hH hC hz hS hL
  exact lv_goto M.1 M.2.1 hd ht (h l D tA base p e s m args below meth c M H locs ls hH hC hz hS hL)
theorem x_if_eq {x : Int32} {off : Int} {tgt : Nat} (hd : decode cc pc = .ok (.ifCond .eq off, 3)) (ht : (pc : Int) + off = (tgt : Int)) (hT : (x = 0) → Ev st k y cc nL ret hp0 mc ms fin tgt lv stk hp cl sl) (hF : ¬ (x = 0) → Ev st k y cc nL ret hp0 mc ms fin (pc + 3) lv stk hp cl sl) : Ev st k y cc nL ret hp0 mc ms fin pc lv (.int x :: stk) hp cl sl := by
  intro l D tA base p e s m args below meth c M H locs ls hH hC hz hS hL
  exact lv_if_eq M.1 M.2.1 hd ht (fun q => hT q l D tA base p e s m args below meth c M H locs ls hH hC hz hS hL) (fun q => hF q l D tA base p e s m args below meth c M H locs ls hH hC hz hS hL)
theorem x_if_ne {x : Int32} {off : Int} {tgt : Nat} (hd : decode cc pc = .ok (.ifCond .ne off, 3)) (ht : (pc : Int) + off = (tgt : Int)) (hT : (¬ x = 0) → Ev st k y cc nL ret hp0 mc ms fin tgt lv stk hp cl sl) (hF : (x = 0) → Ev st k y cc nL ret hp0 mc ms fin (pc + 3) lv stk hp cl sl) : Ev st k y cc nL ret hp0 mc ms fin pc lv (.int x :: stk) hp cl sl := by
  intro l D tA base p e s m args below meth c M H locs ls hH hC hz hS hL
  exact lv_if_ne M.1 M.2.1 hd ht (fun q => hT q l D tA base p e s m args below meth c M H locs ls hH hC hz hS hL) (fun q => hF q l D tA base p e s m args below meth c M H locs ls hH hC hz hS hL)
theorem x_if_lt {x : Int32} {off : Int} {tgt : Nat} (hd : decode cc pc = .ok (.ifCond .lt off, 3)) (ht : (pc : Int) + off = (tgt : Int)) (hT : (x < 0) → Ev st k y cc nL ret hp0 mc ms fin tgt lv stk hp cl sl) (hF : ¬ (x < 0) → Ev st k y cc nL ret hp0 mc ms fin (pc + 3) lv stk hp cl sl) : Ev st k y cc nL ret hp0 mc ms fin pc lv (.int x :: stk) hp cl sl := by
  intro l D tA base p e s m args below meth c M H locs ls hH hC hz hS hL
  exact lv_if_lt M.1 M.2.1 hd ht (fun q => hT q l D tA base p e s m args below meth c M H locs ls hH hC hz hS hL) (fun q => hF q l D tA base p e s m args below meth c M H locs ls hH hC hz hS hL)
theorem x_if_ge {x : Int32} {off : Int} {tgt : Nat} (hd : decode cc pc = .ok (.ifCond .ge off, 3)) (ht : (pc : Int) + off = (tgt : Int)) (hT : (0 ≤ x) → Ev st k y cc nL ret hp0 mc ms fin tgt lv stk hp cl sl) (hF : ¬ (0 ≤ x) → Ev st k y cc nL ret hp0 mc ms fin (pc + 3) lv stk hp cl sl) : Ev st k y cc nL ret hp0 mc ms fin pc lv (.int x :: stk) hp cl sl := by
  intro l D tA base p e s m args below meth c M H locs ls hH hC hz hS hL
  exact lv_if_ge M.1 M.2.1 hd ht (fun q => hT q l D tA base p e s m args below meth c M H locs ls hH hC hz hS hL) (fun q => hF q l D tA base p e s m args below meth c M H locs ls hH hC hz hS hL)
theorem x_if_gt {x : Int32} {off : Int} {tgt : Nat} (hd : decode cc pc = .ok (.ifCond .gt off, 3)) (ht : (pc : Int) + off = (tgt : Int)) (hT : (0 < x) → Ev st k y cc nL ret hp0 mc ms fin tgt lv stk hp cl sl) (hF : ¬ (0 < x) → Ev st k y cc nL ret hp0 mc ms fin (pc + 3) lv stk hp cl sl) : Ev st k y cc nL ret hp0 mc ms fin pc lv (.int x :: stk) hp cl sl := by
  intro l D tA base p e s m args below meth c M H locs ls hH hC hz hS hL
  exact lv_if_gt M.1 M.2.1 hd ht (fun q => hT q l D tA base p e s m args below meth c M H locs ls hH hC hz hS hL) (fun q => hF q l D tA base p e s m args below meth c M H locs ls hH hC hz hS hL)
theorem x_if_le {x : Int32} {off : Int} {tgt : Nat} (hd : decode cc pc = .ok (.ifCond .le off, 3)) (ht : (pc : Int) + off = (tgt : Int)) (hT : (x ≤ 0) → Ev st k y cc nL ret hp0 mc ms fin tgt lv stk hp cl sl) (hF : ¬ (x ≤ 0) → Ev st k y cc nL ret hp0 mc ms fin (pc + 3) lv stk hp cl sl) : Ev st k y cc nL ret hp0 mc ms fin pc lv (.int x :: stk) hp cl sl := by
  intro l D tA base p e s m args below meth c M H locs ls hH hC hz hS hL
  exact lv_if_le M.1 M.2.1 hd ht (fun q => hT q l D tA base p e s m args below meth c M H locs ls hH hC hz hS hL) (fun q => hF q l D tA base p e s m args below meth c M H locs ls hH hC hz hS hL)
theorem x_icmp_eq {x z : Int32} {off : Int} {tgt : Nat} (hd : decode cc pc = .ok (.if_icmp .eq off, 3)) (ht : (pc : Int) + off = (tgt : Int)) (hT : (x = z) → Ev st k y cc nL ret hp0 mc ms fin tgt lv stk hp cl sl) (hF : ¬ (x = z) → Ev st k y cc nL ret hp0 mc ms fin (pc + 3) lv stk hp cl sl) : Ev st k y cc nL ret hp0 mc ms fin pc lv (.int z :: .int x :: stk) hp cl sl := by
  intro l D tA base p e s m args below meth c M H locs ls hH hC hz hS hL
  exact lv_icmp_eq M.1 M.2.1 hd ht (fun q => hT q l D tA base p e s m args below meth c M H locs ls hH hC hz hS hL) (fun q => hF q l D tA base p e s m args below meth c M H locs ls hH hC hz hS hL)
theorem x_icmp_ne {x z : Int32} {off : Int} {tgt : Nat} (hd : decode cc pc = .ok (.if_icmp .ne off, 3)) (ht : (pc : Int) + off = (tgt : Int)) (hT : (¬ x = z) → Ev st k y cc nL ret hp0 mc ms fin tgt lv stk hp cl sl) (hF : (x = z) → Ev st k y cc nL ret hp0 mc ms fin (pc + 3) lv stk hp cl sl) : Ev st k y cc nL ret hp0 mc ms fin pc lv (.int z :: .int x :: stk) hp cl sl := by
  intro l D tA base p e s m args below meth c M H locs ls hH hC hz hS hL
  exact lv_icmp_ne M.1 M.2.1 hd ht (fun q => hT q l D tA base p e s m args below meth c M H locs ls hH hC hz hS hL) (fun q => hF q l D tA base p e s m args below meth c M H locs ls hH hC hz hS hL)
theorem x_icmp_lt {x z : Int32} {off : Int} {tgt : Nat} (hd : decode cc pc = .ok (.if_icmp .lt off, 3)) (ht : (pc : Int) + off = (tgt : Int)) (hT : (x < z) → Ev st k y cc nL ret hp0 mc ms fin tgt lv stk hp cl sl) (hF : ¬ (x < z) → Ev st k y cc nL ret hp0 mc ms fin (pc + 3) lv stk hp cl sl) : Ev st k y cc nL ret hp0 mc ms fin pc lv (.int z :: .int x :: stk) hp cl sl := by
  intro l D tA base p e s m args below meth c M H locs ls hH hC hz hS hL
  exact lv_icmp_lt M.1 M.2.1 hd ht (fun q => hT q l D tA base p e s m args below meth c M H locs ls hH hC hz hS hL) (fun q => hF q l D tA base p e s m args below meth c M H locs ls hH hC hz hS hL)
theorem x_icmp_ge {x z : Int32} {off : Int} {tgt : Nat} (hd : decode cc pc = .ok (.if_icmp .ge off, 3)) (ht : (pc : Int) + off = (tgt : Int)) (hT : (z ≤ x) → Ev st k y cc nL ret hp0 mc ms fin tgt lv stk hp cl sl) (hF : ¬ (z ≤ x) → Ev st k y cc nL ret hp0 mc ms fin (pc + 3) lv stk hp cl sl) : Ev st k y cc nL ret hp0 mc ms fin pc lv (.int z :: .int x :: stk) hp cl sl := by
  intro l D tA base p e s m args below meth c M H locs ls hH hC hz hS hL
  exact lv_icmp_ge M.1 M.2.1 hd ht (fun q => hT q l D tA base p e s m args below meth c M H locs ls hH hC hz hS hL) (fun q => hF q l D tA base p e s m args below meth c M H locs ls hH hC hz hS hL)
theorem x_icmp_gt {x z : Int32} {off : Int} {tgt : Nat} (hd : decode cc pc = .ok (.if_icmp .gt off, 3)) (ht : (pc : Int) + off = (tgt : Int)) (hT : (z < x) → Ev st k y cc nL ret hp0 mc ms fin tgt lv stk hp cl sl) (hF : ¬ (z < x) → Ev st k y cc nL ret hp0 mc ms fin (pc + 3) lv stk hp cl sl) : Ev st k y cc nL ret hp0 mc ms fin pc lv (.int z :: .int x :: stk) hp cl sl := by
  intro l D tA base p e s m args below meth c M H locs ls hH hC hz hS hL
  exact lv_icmp_gt M.1 M.2.1 hd ht (fun q => hT q l D tA base p e s m args below meth c M H locs ls hH hC hz hS hL) (fun q => hF q l D tA base p e s m args below meth c M H locs ls hH hC hz hS hL)
theorem x_icmp_le {x z : Int32} {off : Int} {tgt : Nat} (hd : decode cc pc = .ok (.if_icmp .le off, 3)) (ht : (pc : Int) + off = (tgt : Int)) (hT : (x ≤ z) → Ev st k y cc nL ret hp0 mc ms fin tgt lv stk hp cl sl) (hF : ¬ (x ≤ z) → Ev st k y cc nL ret hp0 mc ms fin (pc + 3) lv stk hp cl sl) : Ev st k y cc nL ret hp0 mc ms fin pc lv (.int z :: .int x :: stk) hp cl sl := by
  intro l D tA base p e s m args below meth c M H locs ls hH hC hz hS hL
  exact lv_icmp_le M.1 M.2.1 hd ht (fun q => hT q l D tA base p e s m args below meth c M H locs ls hH hC hz hS hL) (fun q => hF q l D tA base p e s m args below meth c M H locs ls hH hC hz hS hL)
theorem x_tableOut {dflt lo hi : Int} {offs : Array Int} {len : Nat} {x : Int32} {tgt : Nat} (hd : decode cc pc = .ok (.tableswitch dflt lo hi offs, len)) (hx : x.toInt < lo ∨ hi < x.toInt) (ht : (pc : Int) + dflt = (tgt : Int)) (h : Ev st k y cc nL ret hp0 mc ms fin tgt lv stk hp cl sl) : Ev st k y cc nL ret hp0 mc ms fin pc lv (.int x :: stk) hp cl sl := by
  intro l D tA base p e s m args below meth c M H locs ls hH hC hz hS hL
  exact lv_tableOut M.1 M.2.1 hd hx ht (h l D tA base p e s m args below meth c M H locs ls hH hC hz hS hL)
theorem x_tableIn {dflt lo hi : Int} {offs : Array Int} {len : Nat} {x : Int32} {off : Int} {tgt : Nat} (hd : decode cc pc = .ok (.tableswitch dflt lo hi offs, len)) (h1 : ¬ x.toInt < lo) (h2 : ¬ hi < x.toInt) (ho : offs[(x.toInt - lo).toNat]? = some off) (ht : (pc : Int) + off = (tgt : Int)) (h : Ev st k y cc nL ret hp0 mc ms fin tgt lv stk hp cl sl) : Ev st k y cc nL ret hp0 mc ms fin pc lv (.int x :: stk) hp cl sl := by
  intro l D tA base p e s m args below meth c M H locs ls hH hC hz hS hL
  exact lv_tableIn M.1 M.2.1 hd h1 h2 ho ht (h l D tA base p e s m args below meth c M H locs ls hH hC hz hS hL)
end AXR
end
section
/-! the classes of the world -/
theorem ax_inX0 : ∀ w ∈ u_ws RX0 TX0 8, w ∈ TB := by
  intro w hw
  obtain ⟨j, hj, rfl⟩ := List.mem_map.mp hw
  have hj := List.mem_range.mp hj
  rcases (show j = 0 ∨ j = 1 ∨ j = 2 ∨ j = 3 ∨ j = 4 ∨ j = 5 ∨ j = 6 ∨ j = 7 by omega) with rfl | rfl | rfl | rfl | rfl | rfl | rfl | rfl
  · exact q149
  · exact q151
  · exact q153
  · exact q155
  · exact q157
  · exact q159
  · exact q161
  · exact q163
theorem ax_inX1 : ∀ w ∈ u_ws RX1 TX1 5, w ∈ TB := by
  intro w hw
  obtain ⟨j, hj, rfl⟩ := List.mem_map.mp hw
  have hj := List.mem_range.mp hj
  rcases (show j = 0 ∨ j = 1 ∨ j = 2 ∨ j = 3 ∨ j = 4 by omega) with rfl | rfl | rfl | rfl | rfl
  · exact q115
  · exact q117
  · exact q119
  · exact q121
  · exact q123
theorem ax_inX2 : ∀ w ∈ u_ws RX2 TX2 7, w ∈ TB := by
  intro w hw
  obtain ⟨j, hj, rfl⟩ := List.mem_map.mp hw
  have hj := List.mem_range.mp hj
  rcases (show j = 0 ∨ j = 1 ∨ j = 2 ∨ j = 3 ∨ j = 4 ∨ j = 5 ∨ j = 6 by omega) with rfl | rfl | rfl | rfl | rfl | rfl | rfl
  · exact q185
  · exact q187
  · exact q189
  · exact q191
  · exact q193
  · exact q195
  · exact q197
theorem ax_inX3 : ∀ w ∈ u_ws RX3 TX3 7, w ∈ TB := by
  intro w hw
  obtain ⟨j, hj, rfl⟩ := List.mem_map.mp hw
  have hj := List.mem_range.mp hj
  rcases (show j = 0 ∨ j = 1 ∨ j = 2 ∨ j = 3 ∨ j = 4 ∨ j = 5 ∨ j = 6 by omega) with rfl | rfl | rfl | rfl | rfl | rfl | rfl
  · exact q219
  · exact q221
  · exact q223
  · exact q225
  · exact q227
  · exact q229
  · exact q231
theorem ax_inX4 : ∀ w ∈ u_ws RX4 TX4 6, w ∈ TB := by
  intro w hw
  obtain ⟨j, hj, rfl⟩ := List.mem_map.mp hw
  have hj := List.mem_range.mp hj
  rcases (show j = 0 ∨ j = 1 ∨ j = 2 ∨ j = 3 ∨ j = 4 ∨ j = 5 by omega) with rfl | rfl | rfl | rfl | rfl | rfl
  · exact q242
  · exact q244
  · exact q246
  · exact q248
  · exact q250
  · exact q252
theorem ax_inX5 : ∀ w ∈ u_ws RX5 TX5 11, w ∈ TB := by
  intro w hw
  obtain ⟨j, hj, rfl⟩ := List.mem_map.mp hw
  have hj := List.mem_range.mp hj
  rcases (show j = 0 ∨ j = 1 ∨ j = 2 ∨ j = 3 ∨ j = 4 ∨ j = 5 ∨ j = 6 ∨ j = 7 ∨ j = 8 ∨ j = 9 ∨ j = 10 by omega) with rfl | rfl | rfl | rfl | rfl | rfl | rfl | rfl | rfl | rfl | rfl
  · exact q697
  · exact q699
  · exact q701
  · exact q703
  · exact q705
  · exact q707
  · exact q709
  · exact q711
  · exact q713
  · exact q715
  · exact q717
def ax_cl (q : vw_C) : Prop := (∀ w ∈ u_ws q.1 q.2.1 q.2.2, w ∈ TB) ∧ (∃ ty : Nat → FieldType, ∀ k, k < q.2.2 → parseFieldDescriptor (q.2.1 k).2.2.1 = some (ty k)) ∧ ∀ a, a < q.2.2 → ∀ b, b < q.2.2 → a ≠ b → (q.2.1 a).2.1 ≠ (q.2.1 b).2.1
theorem ax_cls {ci : Nat} {q : vw_C} (h : vwCl[ci]? = some q) : ax_cl q := by
  match ci, h with
  | 0, h => cases h; exact ⟨ax_inX0, ⟨tyX0, tyX0_ok⟩, nmX0⟩
  | 1, h => cases h; exact ⟨ax_inX1, ⟨tyX1, tyX1_ok⟩, nmX1⟩
  | 2, h => cases h; exact ⟨ax_inX2, ⟨tyX2, tyX2_ok⟩, nmX2⟩
  | 3, h => cases h; exact ⟨ax_inX3, ⟨tyX3, tyX3_ok⟩, nmX3⟩
  | 4, h => cases h; exact ⟨ax_inX4, ⟨tyX4, tyX4_ok⟩, nmX4⟩
  | 5, h => cases h; exact ⟨ax_inX5, ⟨tyX5, tyX5_ok⟩, nmX5⟩
  | k + 6, h => simp [vwCl] at h
/-- a field: its class by place, its number, its type; the link that the code names -/
def ax_fl (own : String) (idx ci j : Nat) (ty : FieldType) (fi : Bool) : Prop := ∃ q : vw_C, vwCl[ci]? = some q ∧ j < q.2.2 ∧ Cond.fieldLink own idx (q.2.1 j).1 (q.2.1 j).2.1 (q.2.1 j).2.2.1 ∈ TB ∧ parseFieldDescriptor (q.2.1 j).2.2.1 = some ty ∧ (q.2.1 j).2.2.2 = fi ∧ (q.2.1 j).1 = q.1
theorem ax_C.own {base : Nat} {st : Nat → Nat} {hp : Hp} {a : Nat} {e : va_E} (hC : ax_C base st hp) (h : hp.2 a = some e) (he : ax_isS e = false) : base ≤ a ∧ a < hp.1 := by
  rcases hC.2 a e h with h1 | ⟨j, -, -, rfl⟩
  · exact h1.2
  · cases he
theorem ax_H.at {D : va_G} {tA : Nat → ClassId} {base : Nat} {st : Nat → Nat} {hp : Hp} {H : Heap} {a : Nat} {e : va_E} (hH : ax_H D tA base hp H) (hC : ax_C base st hp) (h : hp.2 a = some e) (he : ax_isS e = false) : (ax_ws tA hp.2 base (hp.1 - base))[a - base]? = some (a, ax_cell tA e) := by
  obtain ⟨h1, h2⟩ := hC.own h he
  exact ax_ws_at h h1 (by omega)
theorem ax_C.put {base : Nat} {st : Nat → Nat} {hp : Hp} {a : Nat} {e e' : va_E} (hC : ax_C base st hp) (h : hp.2 a = some e) (he : ax_isS e = false) (he' : ax_isS e' = false) : ax_C base st (hp.1, hset hp.2 a e') := by
  refine ⟨fun j hj => ?_, fun b x hb => ?_⟩
  · have h1 := hC.1 j hj
    have hne : st j ≠ a := by
      intro q
      rw [q, h] at h1
      rw [Option.some.inj h1] at he
      cases he
    show hset hp.2 a e' (st j) = _
    rw [hset_n _ hne]
    exact h1
  · change hset hp.2 a e' b = some x at hb
    by_cases hq : b = a
    · subst hq
      rw [hset_s] at hb
      cases hb
      exact Or.inl ⟨he', hC.own h he⟩
    · rw [hset_n _ hq] at hb
      exact hC.2 b x hb
theorem ax_C.push {base : Nat} {st : Nat → Nat} {hp : Hp} {e' : va_E} (hC : ax_C base st hp) (hb : base ≤ hp.1) (hst : ∀ j, j < 3 → st j < base) (he' : ax_isS e' = false) : ax_C base st (hp.1 + 1, hset hp.2 hp.1 e') := by
  refine ⟨fun j hj => ?_, fun b x hb2 => ?_⟩
  · have := hst j hj
    show hset hp.2 hp.1 e' (st j) = _
    rw [hset_n _ (by omega)]
    exact hC.1 j hj
  · change hset hp.2 hp.1 e' b = some x at hb2
    by_cases hq : b = hp.1
    · subst hq
      rw [hset_s] at hb2
      cases hb2
      exact Or.inl ⟨he', hb, Nat.lt_succ_self _⟩
    · rw [hset_n _ hq] at hb2
      rcases hC.2 b x hb2 with h1 | h1
      · exact Or.inl ⟨h1.1, h1.2.1, Nat.lt_succ_of_lt h1.2.2⟩
      · exact Or.inr h1
theorem ax_I.st {D : va_G} {tA : Nat → ClassId} {base : Nat} {st : Nat → Nat} {U : State} (h : ax_I D tA base st U) : ∀ j, j < 3 → st j < base := by
  intro j hj
  obtain ⟨cell, -, -, -, -, -, -, h7⟩ := (h.2.1 j hj).1
  exact Nat.not_le.mp h7
/-- one cell is written -/
theorem ax_H.wr {D : va_G} {tA : Nat → ClassId} {base : Nat} {st : Nat → Nat} {hp : Hp} {H H1 : Heap} {a : Nat} {e e' : va_E} (hH : ax_H D tA base hp H) (hC : ax_C base st hp) (h : hp.2 a = some e) (he : ax_isS e = false) (hat : va_at D vwCl (a, ax_cell tA e') H1) (hz : H1.size = H.size) (ho : ∀ q : Nat, q ≠ a → H1[q]? = H[q]?) : ax_H D tA base (hp.1, hset hp.2 a e') H1 := by
  refine ⟨hz.trans hH.1, hH.2.1, ?_⟩
  have h1 := hH.2.2.set (ax_D _ _ _ _) (hH.at hC h he) hat ho
  rw [ax_ws_set _ (hC.own h he).1] at h1
  exact h1
/-- one cell is made, at the heap's end -/
theorem ax_H.mk {D : va_G} {tA : Nat → ClassId} {base : Nat} {hp : Hp} {H H1 : Heap} {e' : va_E} (hH : ax_H D tA base hp H) (hat : va_at D vwCl (hp.1, ax_cell tA e') H1) (hz : H1.size = hp.1 + 1) (ho : ∀ q : Nat, q < hp.1 → H1[q]? = H[q]?) : ax_H D tA base (hp.1 + 1, hset hp.2 hp.1 e') H1 := by
  have hb := hH.2.1
  refine ⟨hz, Nat.le_succ_of_le hb, ?_⟩
  have e1 : hp.1 + 1 - base = (hp.1 - base) + 1 := by omega
  have e2 : base + (hp.1 - base) = hp.1 := by omega
  show va_P D vwCl (ax_ws tA (hset hp.2 hp.1 e') base (hp.1 + 1 - base)) H1
  rw [e1]
  have e3 := ax_ws_push (tA := tA) (h := hp.2) (base := base) (n := hp.1 - base) e'
  rw [e2] at e3
  rw [← e3]
  refine (hH.2.2.kept (fun k q hk => ?_)).app (fun k q hk => ?_)
  · have := (hH.2.2 k q hk).lt
    exact ho q.1 (by rw [← hH.1]; exact this)
  · have hz : k < 1 := (List.getElem?_eq_some_iff.mp hk).1
    rw [show k = 0 by omega] at hk
    cases hk
    exact hat
section AXH
variable {st : Nat → Nat} {k : Nat} {y : MethodName} {cc : ByteArray} {nL : Nat} {ret : Option FieldType} {hp0 : Hp} {mc ms : Nat} {fin : Option Value → Hp → Prop} {pc : Nat} {lv stk : List Value} {hp : Hp} {cl sl : Nat}
/-- an array's index: the number j behind it, in its range -/
def ax_ix (i : Int32) (len j : Nat) : Prop := ¬ i < 0 ∧ i.toNatClampNeg = j ∧ j < len
theorem ax_ix.in {i : Int32} {len j : Nat} (h : ax_ix i len j) : vp_in i len := by
  obtain ⟨h1, h2, h3⟩ := h
  intro q
  rcases q with q | q
  · exact h1 q
  · omega
theorem ax_ixN {j len : Nat} (h : j < len) (hl : len < 2 ^ 31) : ax_ix (nI j) len j := ⟨nI_pos (by omega), nI_clamp (by omega), h⟩
theorem x_get {idx a ci j : Nat} {ty : FieldType} {fi : Bool} {fs : List Value} {v : Value} (hd : decode cc pc = .ok (.getfield idx, 3)) (hf : ax_fl y.cls idx ci j ty fi) (hh : hp.2 a = some (.inr (ci, fs))) (hv : fs[j]? = some v) (h : Ev st k y cc nL ret hp0 mc ms fin (pc + 3) lv (v :: stk) hp cl sl) : Ev st k y cc nL ret hp0 mc ms fin pc lv (.ref a :: stk) hp cl sl := by
  intro l D tA base p e s m args below meth c M H locs ls hH hC hz hS hL
  obtain ⟨⟨C, T, N⟩, h1, h2, h3, -, -, -⟩ := hf
  exact va_get (C := C) (T := T) (N := N) M.1 M.2.1 M.2.2.2.2.2.1 (ax_cls h1).1 M.2.2.2.2.1 M.2.2.2.2.2.2.2.2.2.2.1 hH.2.2 (a - base) (hH.at hC hh rfl) h1 j h2 (M.2.2.2.2.2.1 _ h3) (fun _ q => q) hv hd (h l D tA base p e s m args below meth c M H locs ls hH hC hz hS hL)
theorem x_put {idx a ci j : Nat} {ty : FieldType} {fs : List Value} {v : Value} (hd : decode cc pc = .ok (.putfield idx, 3)) (hf : ax_fl y.cls idx ci j ty false) (hh : hp.2 a = some (.inr (ci, fs))) (hn : narrow ty v = v) (hfit : fits ty v = true) (hl : j < fs.length) (h : Ev st k y cc nL ret hp0 mc ms fin (pc + 3) lv stk (hp.1, hset hp.2 a (.inr (ci, fs.set j v))) cl sl) : Ev st k y cc nL ret hp0 mc ms fin pc lv (v :: .ref a :: stk) hp cl sl := by
  intro l D tA base p e s m args below meth c M H locs ls hH hC hz hS hL
  obtain ⟨⟨C, T, N⟩, h1, h2, h3, h4, h5, -⟩ := hf
  obtain ⟨g1, ⟨ty0, g2⟩, g3⟩ := ax_cls h1
  have hts := M.2.2.2.2.2.1
  have hK := M.2.2.2.2.2.2.2.2.2.2.1
  have hap := va_apart (own := y.cls) hts g1 ty0 g2 g3 hK h1
  obtain ⟨r, r1, cell, q1, q2, q3, q4⟩ := hH.2.2 (a - base) _ (hH.at hC hh rfl)
  have hr : r = (C, T, N) := Option.some.inj (r1.symm.trans h1)
  subst hr
  obtain ⟨hSl, hfc, kC, hkC, hkind⟩ := hK.1 ci _ h1
  obtain ⟨cf, kf, fi, f, hi, hsl⟩ := hSl j h2
  have hlay := hts _ (g1 _ (u_in_lay h2))
  unfold u_lay at hlay
  rw [if_neg (by rw [h5]; decide)] at hlay
  have hst := (u_facts hfc hkC (u_lays hts g1 h2) hi).1
  have h6 := u_store hfc hkC hkind hlay hi h4 hn hfit
  refine W.putK M.1 M.2.1 (f := f) ⟨M.2.2.2.2.1, hts _ h3, ⟨_, _, _, hi⟩, hst⟩ (by rw [q2]; exact h6) q1 q3 (by rw [hsl]; exact k2_hasslot (q4 j h2)) rfl rfl hd fun H' e1 e2 e3 => ?_
  rw [hsl] at e1 ⊢
  refine h l D tA base p e s m args below meth c M H' _ ls (hH.wr hC hh rfl ⟨_, h1, t_OB.to (V := updV (vp_V fs) j v) ⟨_, e1, q2, q3, t_set q4 hap h2 v⟩ (fun i _ => vp_updV_set hl v i)⟩ e2 e3) (hC.put hh rfl rfl) hz (hS.put e2 e3 (hC.own hh rfl).1) hL
theorem x_putF {idx a ci j : Nat} {ty : FieldType} {fs : List Value} {v : Value} (hd : decode cc pc = .ok (.putfield idx, 3)) (hf : ax_fl y.cls idx ci j ty true) (hown : (vwCl[ci]?).map (fun q => q.1) = some y.cls) (hin : y.name = "<init>") (hh : hp.2 a = some (.inr (ci, fs))) (hn : narrow ty v = v) (hfit : fits ty v = true) (hl : j < fs.length) (h : Ev st k y cc nL ret hp0 mc ms fin (pc + 3) lv stk (hp.1, hset hp.2 a (.inr (ci, fs.set j v))) cl sl) : Ev st k y cc nL ret hp0 mc ms fin pc lv (v :: .ref a :: stk) hp cl sl := by
  intro l D tA base p e s m args below meth c M H locs ls hH hC hz hS hL
  obtain ⟨⟨C, T, N⟩, h1, h2, h3, h4, h5, h7⟩ := hf
  have hCo : C = y.cls := by rw [h1] at hown; exact Option.some.inj hown
  obtain ⟨g1, ⟨ty0, g2⟩, g3⟩ := ax_cls h1
  have hts := M.2.2.2.2.2.1
  have hK := M.2.2.2.2.2.2.2.2.2.2.1
  have hap := va_apart (own := y.cls) hts g1 ty0 g2 g3 hK h1
  obtain ⟨r, r1, cell, q1, q2, q3, q4⟩ := hH.2.2 (a - base) _ (hH.at hC hh rfl)
  have hr : r = (C, T, N) := Option.some.inj (r1.symm.trans h1)
  subst hr
  obtain ⟨hSl, hfc, kC, hkC, hkind⟩ := hK.1 ci _ h1
  obtain ⟨cf, kf, fi, f, hi, hsl⟩ := hSl j h2
  have hlay := hts _ (g1 _ (u_in_lay h2))
  unfold u_lay at hlay
  rw [if_pos h5] at hlay
  have hst := (u_facts hfc hkC (u_lays hts g1 h2) hi).1
  have hcf : m.cls = cf := by
    obtain ⟨_, _, c', _, _, _, -, -, hf', -, -, -, hown2, -⟩ := Cond.laysFinal_spec hlay
    have e1 : c' = cf := by have := hi.symm.trans hf'; simp at this; exact this.1.symm
    rw [h7] at hown2
    have hown3 : s.vm.findClass C = some m.cls := by rw [hCo]; exact M.2.2.2.2.1
    rw [← e1]; exact Option.some.inj (hown3.symm.trans hown2)
  have h6 := u_fits hfc hkC hkind (Or.inr hlay) hi h4 hn hfit
  refine W.putFinK M.1 M.2.1 M.2.2.2.2.1 (hts _ h3) hi hst hcf (M.2.2.2.2.2.2.2.2.2.1.trans hin) (by rw [q2]; exact h6) q1 q3 (by rw [hsl]; exact k2_hasslot (q4 j h2)) rfl rfl hd fun H' e1 e2 e3 => ?_
  rw [hsl] at e1 ⊢
  refine h l D tA base p e s m args below meth c M H' _ ls (hH.wr hC hh rfl ⟨_, h1, t_OB.to (V := updV (vp_V fs) j v) ⟨_, e1, q2, q3, t_set q4 hap h2 v⟩ (fun i _ => vp_updV_set hl v i)⟩ e2 e3) (hC.put hh rfl rfl) hz (hS.put e2 e3 (hC.own hh rfl).1) hL
/-- reads of arrays -/
theorem x_iald {a len j : Nat} {i : Int32} {f : Nat → Int32} (hd : decode cc pc = .ok (.iaload, 1)) (hh : hp.2 a = some (.inl (0, len, .inl f))) (hi : ax_ix i len j) (h : Ev st k y cc nL ret hp0 mc ms fin (pc + 1) lv (.int (f j) :: stk) hp cl sl) : Ev st k y cc nL ret hp0 mc ms fin pc lv (.int i :: .ref a :: stk) hp cl sl := by
  intro l D tA base p e s m args below meth c M H locs ls hH hC hz hS hL
  refine va_iald M.1 M.2.1 M.2.2.2.2.2.2.2.2.2.2.1 hH.2.2 (a - base) 0 (hH.at hC hh rfl) rfl hi.in hd ?_
  rw [hi.2.1]
  exact h l D tA base p e s m args below meth c M H locs ls hH hC hz hS hL
theorem x_sald {a j t : Nat} {i : Int32} (hd : decode cc pc = .ok (.iaload, 1)) (hj : t < 3) (ha : a = st t) (hi : ax_ix i 5 j) (h : Ev st k y cc nL ret hp0 mc ms fin (pc + 1) lv (.int (ax_f t j) :: stk) hp cl sl) : Ev st k y cc nL ret hp0 mc ms fin pc lv (.int i :: .ref a :: stk) hp cl sl := by
  intro l D tA base p e s m args below meth c M H locs ls hH hC hz hS hL
  subst ha
  exact va_ti M.1 M.2.1 (M.2.2.2.2.2.2.2.2.2.2.2.1 t hj).1 hS hi.in (by rw [hi.2.1]) hd (h l D tA base p e s m args below meth c M H locs ls hH hC hz hS hL)
theorem x_zald {a len j : Nat} {i : Int32} {f : Nat → Int32} (hd : decode cc pc = .ok (.baload, 1)) (hh : hp.2 a = some (.inl (1, len, .inl f))) (hi : ax_ix i len j) (h : Ev st k y cc nL ret hp0 mc ms fin (pc + 1) lv (.int (f j) :: stk) hp cl sl) : Ev st k y cc nL ret hp0 mc ms fin pc lv (.int i :: .ref a :: stk) hp cl sl := by
  intro l D tA base p e s m args below meth c M H locs ls hH hC hz hS hL
  refine va_zald M.1 M.2.1 M.2.2.2.2.2.2.2.2.2.2.1 hH.2.2 (a - base) 1 (hH.at hC hh rfl) rfl hi.in hd ?_
  rw [hi.2.1]
  exact h l D tA base p e s m args below meth c M H locs ls hH hC hz hS hL
theorem x_cald {a len j : Nat} {i : Int32} {f : Nat → Int32} (hd : decode cc pc = .ok (.caload, 1)) (hh : hp.2 a = some (.inl (2, len, .inl f))) (hi : ax_ix i len j) (h : Ev st k y cc nL ret hp0 mc ms fin (pc + 1) lv (.int (f j) :: stk) hp cl sl) : Ev st k y cc nL ret hp0 mc ms fin pc lv (.int i :: .ref a :: stk) hp cl sl := by
  intro l D tA base p e s m args below meth c M H locs ls hH hC hz hS hL
  refine va_cald M.1 M.2.1 M.2.2.2.2.2.2.2.2.2.2.1 hH.2.2 (a - base) 2 (hH.at hC hh rfl) rfl hi.in hd ?_
  rw [hi.2.1]
  exact h l D tA base p e s m args below meth c M H locs ls hH hC hz hS hL
theorem x_aald {a len j r : Nat} {i : Int32} {f : Nat → Option Nat} (hd : decode cc pc = .ok (.aaload, 1)) (hh : hp.2 a = some (.inl (3, len, .inr (.inr (.inr (.inr f)))))) (hi : ax_ix i len j) (hr : f j = some r) (h : Ev st k y cc nL ret hp0 mc ms fin (pc + 1) lv (.ref r :: stk) hp cl sl) : Ev st k y cc nL ret hp0 mc ms fin pc lv (.int i :: .ref a :: stk) hp cl sl := by
  intro l D tA base p e s m args below meth c M H locs ls hH hC hz hS hL
  refine va_aldq (C := "EscheatLots$Office") M.1 M.2.1 M.2.2.2.2.2.2.2.2.2.2.1 hH.2.2 (a - base) 3 (hH.at hC hh rfl) rfl hi.in hd ?_
  rw [hi.2.1, hr]
  exact h l D tA base p e s m args below meth c M H locs ls hH hC hz hS hL
theorem x_alen {a t len : Nat} {x} {v : Int32} (hd : decode cc pc = .ok (.arraylength, 1)) (hh : hp.2 a = some (.inl (t, len, x))) (ht : t < 4) (hv : Int32.ofNat len = v) (h : Ev st k y cc nL ret hp0 mc ms fin (pc + 1) lv (.int v :: stk) hp cl sl) : Ev st k y cc nL ret hp0 mc ms fin pc lv (.ref a :: stk) hp cl sl := by
  intro l D tA base p e s m args below meth c M H locs ls hH hC hz hS hL
  have hs : ax_isS (.inl (t, len, x)) = false := by
    show (t == 4) = false
    simp; omega
  obtain ⟨ty, hty⟩ : ∃ ty, (ax_tys tA)[t]? = some (tA t, ty) := by
    match t, ht with
    | 0, _ => exact ⟨_, rfl⟩
    | 1, _ => exact ⟨_, rfl⟩
    | 2, _ => exact ⟨_, rfl⟩
    | 3, _ => exact ⟨_, rfl⟩
  exact va_alen M.1 M.2.1 M.2.2.2.2.2.2.2.2.2.2.1 hH.2.2 (a - base) t (hH.at hC hh hs) hty hv hd (h l D tA base p e s m args below meth c M H locs ls hH hC hz hS hL)
theorem x_slen {a t : Nat} (hd : decode cc pc = .ok (.arraylength, 1)) (hj : t < 3) (ha : a = st t) (h : Ev st k y cc nL ret hp0 mc ms fin (pc + 1) lv (.int 5 :: stk) hp cl sl) : Ev st k y cc nL ret hp0 mc ms fin pc lv (.ref a :: stk) hp cl sl := by
  intro l D tA base p e s m args below meth c M H locs ls hH hC hz hS hL
  subst ha
  exact va_tlen M.1 M.2.1 (M.2.2.2.2.2.2.2.2.2.2.2.1 t hj).1 hS rfl hd (h l D tA base p e s m args below meth c M H locs ls hH hC hz hS hL)
theorem x_getsN {idx t : Nat} {host : String} (hd : decode cc pc = .ok (.getstatic idx, 3)) (hj : t < 3) (hl : Cond.fieldLinkNest y.cls idx "EscheatLots" (ax_n t) "[I" host ∈ NB) (h : Ev st k y cc nL ret hp0 mc ms fin (pc + 3) lv (.ref (st t) :: stk) hp cl sl) : Ev st k y cc nL ret hp0 mc ms fin pc lv stk hp cl sl := by
  intro l D tA base p e s m args below meth c M H locs ls hH hC hz hS hL
  exact va_getsN M.1 M.2.1 (M.2.2.2.2.2.2.2.2.2.2.2.1 t hj).2 hS M.2.2.2.2.1 (va_Nw.use rfl (M.2.2.2.2.2.2.2.2.2.2.2.2.1 _ hl)) (fun _ q => q) hd (h l D tA base p e s m args below meth c M H locs ls hH hC hz hS hL)
/-- writes of arrays -/
theorem ax_nar {tA : Nat → ClassId} {D : va_G} {H1 : Heap} {a t n j : Nat} {f : Nat → Int32} {x : Int32} (e : H1[a]? = some ((vp_cell (tA t) (n, .inl f)).setSlot j (.int x))) : va_at D vwCl (a, ax_cell tA (.inl (t, n, .inl (upd f j x)))) H1 := by
  show H1[a]? = some (vp_cell _ _)
  rw [e]
  show some ((vp_cell (tA t) (n, .inl f)).setSlot j (.int x)) = some (vp_cell (tA t) (n, .inl (upd f j x)))
  rw [vp_cell_i, vp_cell_i, arrV_store]
  congr 2
  funext q
  by_cases hq : q = j
  · subst hq
    simp [updV, upd]
  · simp [updV, upd, hq]
theorem x_iast {a len j : Nat} {i x : Int32} {f : Nat → Int32} (hd : decode cc pc = .ok (.iastore, 1)) (hh : hp.2 a = some (.inl (0, len, .inl f))) (hi : ax_ix i len j) (h : Ev st k y cc nL ret hp0 mc ms fin (pc + 1) lv stk (hp.1, hset hp.2 a (.inl (0, len, .inl (upd f j x)))) cl sl) : Ev st k y cc nL ret hp0 mc ms fin pc lv (.int x :: .int i :: .ref a :: stk) hp cl sl := by
  intro l D tA base p e s m args below meth c M H locs ls hH hC hz hS hL
  have hK := M.2.2.2.2.2.2.2.2.2.2.1
  refine W.iast M.1 M.2.1 (hH.2.2 (a - base) _ (hH.at hC hh rfl)) ((hK.2 0 _ rfl).1 len (fun j => .int (f j))) (fun q => by cases q) (by show ¬ (i < 0 ∨ (arrV _ _ _).slots.size ≤ _); rw [arrV_size]; exact hi.in) rfl rfl hd fun H1 e z oq => ?_
  rw [hi.2.1] at e ⊢
  exact h l D tA base p _ s m args below meth c M H1 _ ls (hH.wr hC hh rfl (ax_nar e) z oq) (hC.put hh rfl rfl) hz (hS.put z oq (hC.own hh rfl).1) hL
theorem x_zast {a len j : Nat} {i x : Int32} {f : Nat → Int32} (hd : decode cc pc = .ok (.bastore, 1)) (hh : hp.2 a = some (.inl (1, len, .inl f))) (hi : ax_ix i len j) (hx : narrow .boolean (.int x) = .int x) (h : Ev st k y cc nL ret hp0 mc ms fin (pc + 1) lv stk (hp.1, hset hp.2 a (.inl (1, len, .inl (upd f j x)))) cl sl) : Ev st k y cc nL ret hp0 mc ms fin pc lv (.int x :: .int i :: .ref a :: stk) hp cl sl := by
  intro l D tA base p e s m args below meth c M H locs ls hH hC hz hS hL
  have hK := M.2.2.2.2.2.2.2.2.2.2.1
  refine W.zast M.1 M.2.1 (hH.2.2 (a - base) _ (hH.at hC hh rfl)) ((hK.2 1 _ rfl).1 len (fun j => .int (f j))) (fun q => by cases q) (by show ¬ (i < 0 ∨ (arrV _ _ _).slots.size ≤ _); rw [arrV_size]; exact hi.in) rfl rfl hd fun H1 e z oq => ?_
  rw [hi.2.1] at e ⊢
  rw [hx] at e
  exact h l D tA base p _ s m args below meth c M H1 _ ls (hH.wr hC hh rfl (ax_nar e) z oq) (hC.put hh rfl rfl) hz (hS.put z oq (hC.own hh rfl).1) hL
theorem x_cast {a len j : Nat} {i x : Int32} {f : Nat → Int32} (hd : decode cc pc = .ok (.castore, 1)) (hh : hp.2 a = some (.inl (2, len, .inl f))) (hi : ax_ix i len j) (hx : narrow .char (.int x) = .int x) (h : Ev st k y cc nL ret hp0 mc ms fin (pc + 1) lv stk (hp.1, hset hp.2 a (.inl (2, len, .inl (upd f j x)))) cl sl) : Ev st k y cc nL ret hp0 mc ms fin pc lv (.int x :: .int i :: .ref a :: stk) hp cl sl := by
  intro l D tA base p e s m args below meth c M H locs ls hH hC hz hS hL
  have hK := M.2.2.2.2.2.2.2.2.2.2.1
  refine W.cast M.1 M.2.1 (hH.2.2 (a - base) _ (hH.at hC hh rfl)) ((hK.2 2 _ rfl).1 len (fun j => .int (f j))) (fun q => by cases q) (by show ¬ (i < 0 ∨ (arrV _ _ _).slots.size ≤ _); rw [arrV_size]; exact hi.in) rfl rfl hd fun H1 e z oq => ?_
  rw [hi.2.1] at e ⊢
  rw [hx] at e
  exact h l D tA base p _ s m args below meth c M H1 _ ls (hH.wr hC hh rfl (ax_nar e) z oq) (hC.put hh rfl rfl) hz (hS.put z oq (hC.own hh rfl).1) hL
end AXH
end
section
/-! stores of references, copies, makings, calls, returns -/
def cpN (f g : Nat → Int32) (N : Nat) : Nat → Int32 := fun j => if j < N then f j else g j
theorem cpN_eq (f g : Nat → Int32) (N : Nat) : va_cpy f g 0 0 N = cpN f g N := by
  funext j
  unfold va_cpy cpN
  simp
theorem ax_nn31 {z : Int32} (hz : ¬ z < 0) : z.toInt = (z.toNatClampNeg : Int) := by
  have hz0 : (0 : Int) ≤ z.toInt := by
    have := Int32.not_lt.mp hz
    simpa using Int32.le_iff_toInt_le.mp this
  show z.toInt = ((z.toInt.toNat : Nat) : Int)
  omega
section AXC
variable {st : Nat → Nat} {k : Nat} {y : MethodName} {cc : ByteArray} {nL : Nat} {ret : Option FieldType} {hp0 : Hp} {mc ms : Nat} {fin : Option Value → Hp → Prop} {pc : Nat} {lv stk : List Value} {hp : Hp} {cl sl : Nat}
theorem x_aast {a len j v : Nat} {i : Int32} {vs : List Value} {f : Nat → Option Nat} (hd : decode cc pc = .ok (.aastore, 1)) (hh : hp.2 a = some (.inl (3, len, .inr (.inr (.inr (.inr f)))))) (hi : ax_ix i len j) (hv : hp.2 v = some (.inr (2, vs))) (h : Ev st k y cc nL ret hp0 mc ms fin (pc + 1) lv stk (hp.1, hset hp.2 a (.inl (3, len, .inr (.inr (.inr (.inr (va_up f j (some v)))))))) cl sl) : Ev st k y cc nL ret hp0 mc ms fin pc lv (.ref v :: .int i :: .ref a :: stk) hp cl sl := by
  intro l D tA base p e s m args below meth c M H locs ls hH hC hz hS hL
  have hK := M.2.2.2.2.2.2.2.2.2.2.1
  obtain ⟨r', hr', cellV, g1, g2, g3, -⟩ := hH.2.2 (v - base) _ (hH.at hC hv rfl)
  have hcls := (hK.1 2 (RX2, TX2, 7) rfl).2
  obtain ⟨kA, comp, k1, k2, k3, -⟩ := (hK.2 3 _ rfl).2
  have hcomp : comp = D.1 2 := Option.some.inj (k3.symm.trans hcls.1)
  subst hcomp
  obtain ⟨kC, hkC, -⟩ := hcls.2
  obtain ⟨i1, i2, i3⟩ := hi
  refine W.aast M.1 M.2.1 (hH.2.2 (a - base) _ (hH.at hC hh rfl)) (fun q h => by cases h) (fun h => by cases h) k1 k2 rfl hkC ⟨i1, by show _ < (arrV _ _ _).slots.size; rw [arrV_size, i2]; exact i3⟩ g1 (fun q h => by rw [g3] at h; cases h) (by rw [g2]; exact hkC) (by rw [g2]; exact va_assign hcls) rfl rfl hd fun H1 e z oq => ?_
  rw [i2] at e ⊢
  refine h l D tA base p _ s m args below meth c M H1 _ ls (hH.wr hC hh rfl ?_ z oq) (hC.put hh rfl rfl) hz (hS.put z oq (hC.own hh rfl).1) hL
  show H1[a]? = some (vp_cell _ _)
  rw [e]
  show some ((vp_cell (tA 3) (len, .inr (.inr (.inr (.inr f))))).setSlot j (.ref v)) = some (vp_cell (tA 3) (len, .inr (.inr (.inr (.inr (va_up f j (some v)))))))
  rw [vp_cell_q, vp_cell_q, arrV_store]
  congr 2
  funext q
  by_cases hq : q = j
  · subst hq
    simp [updV, va_up, va_rf]
  · simp [updV, va_up, hq]
/-- a copy, from place 0 to place 0, of n numbers of an int array -/
theorem x_copy {a a0 n0 n1 N idx : Nat} {n : Int32} {f g : Nat → Int32} (hd : decode cc pc = .ok (.invokestatic idx, 3)) (hl : Cond.methodLink y.cls idx arraycopyName ∈ TB) (hw : Cond.native arraycopyName ∈ TB ∧ Cond.static arraycopyName ∈ TB ∧ Cond.initialized "java/lang/System" ∈ TB) (hlen : lv.length = nL) (ha0 : hp.2 a0 = some (.inl (0, n0, .inl f))) (ha1 : hp.2 a = some (.inl (0, n1, .inl g))) (hn : ¬ n < 0) (hN : n.toNatClampNeg = N) (h0 : N ≤ n0) (h1 : N ≤ n1) (hr : (stk.map fun v => v.category).sum ≤ 8) (h : Ev st (k + 1) y cc nL ret hp0 mc ms fin (pc + 3) lv stk (hp.1, hset hp.2 a (.inl (0, n1, .inl (cpN f g N)))) cl sl) : Ev st (k + 1) y cc nL ret hp0 mc ms fin pc lv (.int n :: .int 0 :: .ref a :: .int 0 :: .ref a0 :: stk) hp cl sl := by
  intro l D tA base p e s m args below meth c M H locs ls hH hC hz hS hL
  have hK := M.2.2.2.2.2.2.2.2.2.2.1
  have hts := M.2.2.2.2.2.1
  intro T hT X
  have hc0 : H[a0]? = some (vp_cell (tA 0) (n0, .inl f)) := hH.2.2 (a0 - base) _ (hH.at hC ha0 rfl)
  have hc1 : H[a]? = some (vp_cell (tA 0) (n1, .inl g)) := hH.2.2 (a - base) _ (hH.at hC ha1 rfl)
  obtain ⟨-, k0, hk0, cm0, hkk0⟩ := (hK.2 0 _ rfl).1 n0 (fun j => .int (f j))
  obtain ⟨-, k1, hk1, cm1, hkk1⟩ := (hK.2 0 _ rfl).1 n1 (fun j => .int (g j))
  obtain ⟨vm', X', step⟩ := X.arraycopy M.1 M.2.2.2.2.1 (hts _ hl) (hts _ hw.1) (hts _ hw.2.1) (hts _ hw.2.2) (src := a0) (dst := a) (cs := vp_cell (tA 0) (n0, .inl f)) (cd := vp_cell (tA 0) (n1, .inl g)) (srcPos := 0) (destPos := 0) (n := n) (by rw [hT]; exact hc0) (by rw [hT]; exact hc1)
    (fun _ h => by cases h) (fun _ h => by cases h) (fun h => by cases h) (fun h => by cases h) hk0 hk1 hkk0 hkk1 (by simp [refKind]) (by decide) (by decide) hn
    (by rw [ax_nn31 hn, ax_nn31 (by decide : ¬ (0 : Int32) < 0)]; show ¬ _ > ((arrV (tA 0) n0 (fun j => .int (f j))).slots.size : Int); rw [arrV_size, hN, show (0 : Int32).toNatClampNeg = 0 from rfl]; omega)
    (by rw [ax_nn31 hn, ax_nn31 (by decide : ¬ (0 : Int32) < 0)]; show ¬ _ > ((arrV (tA 0) n1 (fun j => .int (g j))).slots.size : Int); rw [arrV_size, hN, show (0 : Int32).toNatClampNeg = 0 from rfl]; omega)
    (fun vm₁ _ i hi => by
      have e : (vp_cell (tA 0) (n0, .inl f)).slots.getD ((0 : Int32).toNatClampNeg + i) .null = .int (f (0 + i)) := by
        show (arrV (tA 0) n0 (fun j => .int (f j))).slots.getD (0 + i) _ = _
        rw [Array.getD_eq_getD_getElem?, arrV_read _ _ (by omega)]
        rfl
      refine ⟨?_, ?_⟩
      · rw [e]
        rfl
      · rw [e]
        exact trivial)
    (g := F0 m pc ls (.int n :: .int 0 :: .ref a :: .int 0 :: .ref a0 :: stk)) rfl (by rw [M.2.2.2.1]; exact hL.2.1) (rest := stk) rfl (by rw [M.2.1]; exact hd) (Nat.succ_le_succ (Nat.zero_le k)) (by show 2 * 0 + _ + (5 + 2 + 11) ≤ 26 * (k + 1); omega)
  have e1 : copied (vp_cell (tA 0) (n0, .inl f)) (vp_cell (tA 0) (n1, .inl g)) 0 0 n = vp_cell (tA 0) (n1, .inl (cpN f g N)) := by
    rw [← cpN_eq, ← hN]
    exact va_copied (fun z => .int z) (tA 0) (tA 0) f g (by show 0 + _ ≤ n0; omega)
  rw [e1] at X' step
  have hl : a < H.size := (Array.getElem?_eq_some_iff.mp hc1).1
  have hheap : ((T.setVm vm').setCell a (vp_cell (tA 0) (n1, .inl (cpN f g N)))).heap = H.setIfInBounds a (vp_cell (tA 0) (n1, .inl (cpN f g N))) := by rw [← hT]; rfl
  have oq : ∀ q : Nat, q ≠ a → (H.setIfInBounds a (vp_cell (tA 0) (n1, .inl (cpN f g N))))[q]? = H[q]? := fun q hq => by simp [Array.getElem?_setIfInBounds, Ne.symm hq]
  obtain ⟨t, a1, b1⟩ := h l D tA base p e s m args below meth c M _ _ ls (hH.wr hC ha1 rfl (show (H.setIfInBounds a _)[a]? = some _ by simp [Array.getElem?_setIfInBounds, hl]) (by simp) oq) (hC.put ha1 rfl rfl) hz ⟨by simp; exact hS.1, fun q g1 g2 => by
      rw [oq q (fun e => g2 (by rw [e]; exact (hC.own ha1 rfl).1))]
      exact hS.2.1 q g1 g2, fun q hq => by
      rcases List.mem_append.mp hq with h | h
      · exact hS.2.2 q h
      · obtain ⟨z, -, hz⟩ := List.mem_map.mp h
        rw [← hz]
        exact (hC.own ha1 rfl).1⟩ hL _ hheap X'
  exact ⟨t, step t a1, b1⟩
/-- the same from a static row -/
theorem x_copyS {a a0 t n1 N idx : Nat} {n : Int32} {g : Nat → Int32} (hd : decode cc pc = .ok (.invokestatic idx, 3)) (hl : Cond.methodLink y.cls idx arraycopyName ∈ TB) (hw : Cond.native arraycopyName ∈ TB ∧ Cond.static arraycopyName ∈ TB ∧ Cond.initialized "java/lang/System" ∈ TB) (hlen : lv.length = nL) (ht : t < 3) (ha0 : a0 = st t) (ha1 : hp.2 a = some (.inl (0, n1, .inl g))) (hn : ¬ n < 0) (hN : n.toNatClampNeg = N) (h0 : N ≤ 5) (h1 : N ≤ n1) (hr : (stk.map fun v => v.category).sum ≤ 8) (h : Ev st (k + 1) y cc nL ret hp0 mc ms fin (pc + 3) lv stk (hp.1, hset hp.2 a (.inl (0, n1, .inl (cpN (ax_f t) g N)))) cl sl) : Ev st (k + 1) y cc nL ret hp0 mc ms fin pc lv (.int n :: .int 0 :: .ref a :: .int 0 :: .ref a0 :: stk) hp cl sl := by
  intro l D tA base p e s m args below meth c M H locs ls hH hC hz hS hL
  have hK := M.2.2.2.2.2.2.2.2.2.2.1
  have hts := M.2.2.2.2.2.1
  intro T hT X
  obtain ⟨scr, hs1, ⟨hs6, k0, hk0, cm0, hkk0⟩, hs3, hs4, -, hs5, hs7⟩ := (M.2.2.2.2.2.2.2.2.2.2.2.1 t ht).1
  have hc0 : H[a0]? = some scr := by rw [ha0, hS.2.1 _ (Array.getElem?_eq_some_iff.mp hs1).1 hs7]; exact hs1
  have hc1 : H[a]? = some (vp_cell (tA 0) (n1, .inl g)) := hH.2.2 (a - base) _ (hH.at hC ha1 rfl)
  obtain ⟨-, k1, hk1, cm1, hkk1⟩ := (hK.2 0 _ rfl).1 n1 (fun j => .int (g j))
  obtain ⟨vm', X', step⟩ := X.arraycopy M.1 M.2.2.2.2.1 (hts _ hl) (hts _ hw.1) (hts _ hw.2.1) (hts _ hw.2.2) (src := a0) (dst := a) (cs := scr) (cd := vp_cell (tA 0) (n1, .inl g)) (srcPos := 0) (destPos := 0) (n := n) (by rw [hT]; exact hc0) (by rw [hT]; exact hc1)
    hs6 (fun _ h => by cases h) hs3 (fun h => by cases h) hk0 hk1 hkk0 hkk1 (by simp [refKind]) (by decide) (by decide) hn
    (by rw [ax_nn31 hn, ax_nn31 (by decide : ¬ (0 : Int32) < 0)]; rw [hN, show (0 : Int32).toNatClampNeg = 0 from rfl]; omega)
    (by rw [ax_nn31 hn, ax_nn31 (by decide : ¬ (0 : Int32) < 0)]; show ¬ _ > ((arrV (tA 0) n1 (fun j => .int (g j))).slots.size : Int); rw [arrV_size, hN, show (0 : Int32).toNatClampNeg = 0 from rfl]; omega)
    (fun vm₁ _ i hi => by
      have e : scr.slots.getD ((0 : Int32).toNatClampNeg + i) .null = .int (ax_f t (0 + i)) := by
        show scr.slots.getD (0 + i) _ = _
        rw [Array.getD_eq_getD_getElem?, hs5 _ (by omega)]
        rfl
      refine ⟨?_, ?_⟩
      · rw [e]
        rfl
      · rw [e]
        exact trivial)
    (g := F0 m pc ls (.int n :: .int 0 :: .ref a :: .int 0 :: .ref a0 :: stk)) rfl (by rw [M.2.2.2.1]; exact hL.2.1) (rest := stk) rfl (by rw [M.2.1]; exact hd) (Nat.succ_le_succ (Nat.zero_le k)) (by show 2 * 0 + _ + (5 + 2 + 11) ≤ 26 * (k + 1); omega)
  have e1 : copied scr (vp_cell (tA 0) (n1, .inl g)) 0 0 n = vp_cell (tA 0) (n1, .inl (cpN (ax_f t) g N)) := by
    rw [← cpN_eq, ← hN]
    exact va_copiedX (fun z => .int z) scr (tA 0) (n0 := 5) (ax_f t) g hs5 (by show 0 + _ ≤ 5; omega)
  rw [e1] at X' step
  have hl : a < H.size := (Array.getElem?_eq_some_iff.mp hc1).1
  have hheap : ((T.setVm vm').setCell a (vp_cell (tA 0) (n1, .inl (cpN (ax_f t) g N)))).heap = H.setIfInBounds a (vp_cell (tA 0) (n1, .inl (cpN (ax_f t) g N))) := by rw [← hT]; rfl
  have oq : ∀ q : Nat, q ≠ a → (H.setIfInBounds a (vp_cell (tA 0) (n1, .inl (cpN (ax_f t) g N))))[q]? = H[q]? := fun q hq => by simp [Array.getElem?_setIfInBounds, Ne.symm hq]
  obtain ⟨t, a1, b1⟩ := h l D tA base p e s m args below meth c M _ _ ls (hH.wr hC ha1 rfl (show (H.setIfInBounds a _)[a]? = some _ by simp [Array.getElem?_setIfInBounds, hl]) (by simp) oq) (hC.put ha1 rfl rfl) hz ⟨by simp; exact hS.1, fun q g1 g2 => by
      rw [oq q (fun e => g2 (by rw [e]; exact (hC.own ha1 rfl).1))]
      exact hS.2.1 q g1 g2, fun q hq => by
      rcases List.mem_append.mp hq with h | h
      · exact hS.2.2 q h
      · obtain ⟨z, -, hz⟩ := List.mem_map.mp h
        rw [← hz]
        exact (hC.own ha1 rfl).1⟩ hL _ hheap X'
  exact ⟨t, step t a1, b1⟩
/-- Math.max, Math.min -/
theorem x_max {idx : Nat} {x z : Int32} (hd : decode cc pc = .ok (.invokestatic idx, 3)) (hl : Cond.methodLink y.cls idx Lib.Math.max.name ∈ TB) (hw : Cond.static Lib.Math.max.name ∈ TB ∧ Cond.initialized "java/lang/Math" ∈ TB ∧ Cond.code Lib.Math.max.name Lib.Math.max.code 2 (some .int) ∈ TB) (hr : (stk.map fun v => v.category).sum ≤ 8) (hcl : cl ≤ mc ∧ sl ≤ ms) (h : Ev st (k + 1) y cc nL ret hp0 mc ms fin (pc + 3) lv (.int (if x < z then z else x) :: stk) hp cl sl) : Ev st (k + 1) y cc nL ret hp0 mc ms fin pc lv (.int z :: .int x :: stk) hp cl sl := by
  intro l D tA base p e s m args below meth c M H locs ls hH hC hz hS hL
  have hts := M.2.2.2.2.2.1
  exact va_mmax M.1 M.2.1 (by rw [M.2.2.2.1]; exact hL.2.1.symm) M.2.2.2.2.1 (hts _ hl) (hts _ hw.1) (hts _ hw.2.1) (hts _ hw.2.2) (Nat.succ_le_succ (Nat.zero_le k)) (by show _ + 13 ≤ 26 * (k + 1); omega) hcl.1 hcl.2 hd (h l D tA base p e s m args below meth c M H locs ls hH hC hz hS hL)
theorem x_min {idx : Nat} {x z : Int32} (hd : decode cc pc = .ok (.invokestatic idx, 3)) (hl : Cond.methodLink y.cls idx Lib.Math.min.name ∈ TB) (hw : Cond.static Lib.Math.min.name ∈ TB ∧ Cond.initialized "java/lang/Math" ∈ TB ∧ Cond.code Lib.Math.min.name Lib.Math.min.code 2 (some .int) ∈ TB) (hr : (stk.map fun v => v.category).sum ≤ 8) (hcl : cl ≤ mc ∧ sl ≤ ms) (h : Ev st (k + 1) y cc nL ret hp0 mc ms fin (pc + 3) lv (.int (if z < x then z else x) :: stk) hp cl sl) : Ev st (k + 1) y cc nL ret hp0 mc ms fin pc lv (.int z :: .int x :: stk) hp cl sl := by
  intro l D tA base p e s m args below meth c M H locs ls hH hC hz hS hL
  have hts := M.2.2.2.2.2.1
  exact va_mmin M.1 M.2.1 (by rw [M.2.2.2.1]; exact hL.2.1.symm) M.2.2.2.2.1 (hts _ hl) (hts _ hw.1) (hts _ hw.2.1) (hts _ hw.2.2) (Nat.succ_le_succ (Nat.zero_le k)) (by show _ + 13 ≤ 26 * (k + 1); omega) hcl.1 hcl.2 hd (h l D tA base p e s m args below meth c M H locs ls hH hC hz hS hL)
/-- Object() -/
theorem x_obj {idx a : Nat} (hd : decode cc pc = .ok (.invokespecial idx, 3)) (hl : Cond.methodLink y.cls idx Lib.objectInit ∈ TB) (hw : Cond.instanceMethod Lib.objectInit ∈ TB ∧ Cond.code Lib.objectInit ⟨#[0xb1]⟩ 1 none ∈ TB) (hr : (stk.map fun v => v.category).sum ≤ 8) (h : Ev st (k + 1) y cc nL ret hp0 mc ms fin (pc + 3) lv stk hp cl sl) : Ev st (k + 1) y cc nL ret hp0 mc ms fin pc lv (.ref a :: stk) hp cl sl := by
  intro l D tA base p e s m args below meth c M H locs ls hH hC hz hS hL
  have hts := M.2.2.2.2.2.1
  exact W.objInit M.1 M.2.1 M.2.2.2.2.1 (hts _ hl) (hts _ hw.1) (hts _ hw.2) rfl (by rw [M.2.2.2.1]; exact hL.2.1) rfl hd (Nat.succ_le_succ (Nat.zero_le k)) (by show 2 * 0 + _ + 12 ≤ 26 * (k + 1); omega) (h l D tA base p e s m args below meth c M H locs ls hH hC hz hS hL)
/-- a new object, its fields as they begin -/
theorem x_new {idx ci N : Nat} {C : String} {T : u_T} {fs : List Value} (ty : Nat → FieldType) (hd : decode cc pc = .ok (.new idx, 3)) (hc : vwCl[ci]? = some (C, T, N)) (hty : ∀ j, j < N → parseFieldDescriptor (T j).2.2.1 = some (ty j)) (hw : Cond.classLink y.cls idx C ∈ TB ∧ Cond.instantiable C N ∈ TB ∧ Cond.initialized C ∈ TB) (hfs : ∀ j, j < N → defaultValue (ty j) = vp_V fs j) (hm : cl + 1 ≤ mc) (hms : sl + N ≤ ms) (h : Ev st k y cc nL ret hp0 mc ms fin (pc + 3) lv (.ref hp.1 :: stk) (hp.1 + 1, hset hp.2 hp.1 (.inr (ci, fs))) (cl + 1) (sl + N)) : Ev st k y cc nL ret hp0 mc ms fin pc lv stk hp cl sl := by
  intro l D tA base p e s m args below meth c M H locs ls hH hC hz hS hL
  have hts := M.2.2.2.2.2.1
  have hI := M.2.2.2.2.2.2.2.2.2.2
  have hKn := hI.1.1 ci _ hc
  have hz0 := hH.1
  refine W.newcK M.1 M.2.1 M.2.2.2.2.1 (hts _ hw.1) (hts _ hw.2.1) (hts _ hw.2.2) rfl hd hm hms hKn.2.1 hz0 fun H1 kC hkC e1 z1 o1 => ?_
  refine h l D tA base p e s m args below meth c M H1 locs ls (hH.mk ⟨_, hc, (u_born ty hts (ax_cls hc).1 hKn hkC e1 hty).to hfs⟩ z1 o1) (hC.push hH.2.1 hI.st rfl) (by show hp.1 + 1 = hp0.1 + (cl + 1); omega) ⟨Nat.le_trans hS.1 (by omega), fun q h1 h2 => (o1 q (by rw [← hz0]; exact Nat.lt_of_lt_of_le h1 hS.1)).trans (hS.2.1 q h1 h2), hS.2.2⟩ hL
/-- a new array of numbers -/
def ax_at (t : Nat) : ArrayType := match t with
  | 0 => .int
  | 1 => .boolean
  | _ => .char
theorem x_newa {N : Nat} {n : Int32} (t : Nat) (ht : t < 3) (hd : decode cc pc = .ok (.newarray (ax_at t), 2)) (hw : Cond.arrayClass (newarray.typeOf (ax_at t)) ∈ TB) (hn : ¬ n < 0) (hN : n.toNatClampNeg = N) (hb : N ≤ 100000) (hm : cl + 1 ≤ mc) (hms : sl + N ≤ ms) (h : Ev st k y cc nL ret hp0 mc ms fin (pc + 2) lv (.ref hp.1 :: stk) (hp.1 + 1, hset hp.2 hp.1 (.inl (t, N, .inl (fun _ => 0)))) (cl + 1) (sl + N)) : Ev st k y cc nL ret hp0 mc ms fin pc lv (.int n :: stk) hp cl sl := by
  intro l D tA base p e s m args below meth c M H locs ls hH hC hz hS hL
  have hts := M.2.2.2.2.2.1
  have hI := M.2.2.2.2.2.2.2.2.2.2
  have hz0 := hH.1
  refine va_newaK M.1 M.2.1 (hts _ hw) (g := F0 m pc ls (.int n :: stk)) rfl hd rfl hn hN (by match t, ht with | 0, _ => exact (by show N * 4 ≤ _; omega) | 1, _ => exact (by show N * 1 ≤ _; omega) | 2, _ => exact (by show N * 2 ≤ _; omega)) hm hms hz0 fun H1 cA e1 z1 o1 hAr hNm => ?_
  have hcA : cA = tA t := by
    match t, ht with
    | 0, _ => exact Option.some.inj (hNm.symm.trans (hI.1.2 0 _ rfl).2)
    | 1, _ => exact Option.some.inj (hNm.symm.trans (hI.1.2 1 _ rfl).2)
    | 2, _ => exact Option.some.inj (hNm.symm.trans (hI.1.2 2 _ rfl).2)
  subst hcA
  have hdv : defaultValue (newarray.typeOf (ax_at t)) = .int 0 := by
    match t, ht with
    | 0, _ => rfl
    | 1, _ => rfl
    | 2, _ => rfl
  rw [hdv] at e1
  refine h l D tA base p e s m args below meth c M H1 locs ls (hH.mk e1 z1 o1) (hC.push hH.2.1 hI.st (by show (t == 4) = false; simp; omega)) (by show hp.1 + 1 = hp0.1 + (cl + 1); omega) ⟨Nat.le_trans hS.1 (by omega), fun q h1 h2 => (o1 q (by rw [← hz0]; exact Nat.lt_of_lt_of_le h1 hS.1)).trans (hS.2.1 q h1 h2), hS.2.2⟩ hL
/-- a new row of offices -/
theorem x_newq {N idx : Nat} {n : Int32} (hd : decode cc pc = .ok (.anewarray idx, 3)) (hw : Cond.classLink y.cls idx "EscheatLots$Office" ∈ TB) (hn : ¬ n < 0) (hN : n.toNatClampNeg = N) (hb : N ≤ 100000) (hm : cl + 1 ≤ mc) (hms : sl + N ≤ ms) (h : Ev st k y cc nL ret hp0 mc ms fin (pc + 3) lv (.ref hp.1 :: stk) (hp.1 + 1, hset hp.2 hp.1 (.inl (3, N, .inr (.inr (.inr (.inr (fun _ => none))))))) (cl + 1) (sl + N)) : Ev st k y cc nL ret hp0 mc ms fin pc lv (.int n :: stk) hp cl sl := by
  intro l D tA base p e s m args below meth c M H locs ls hH hC hz hS hL
  have hts := M.2.2.2.2.2.1
  have hI := M.2.2.2.2.2.2.2.2.2.2
  have hz0 := hH.1
  subst hN
  refine W.anew M.1 M.2.1 M.2.2.2.2.1 (hts _ hw) (va_AO.use hI.2.2.2) rfl hd rfl hn (by omega) hm hms fun cA kA comp f1 f2 f3 f4 => ?_
  have hcA : cA = tA 3 := by
    obtain ⟨kA', comp', g1, g2, g3, g4⟩ := (hI.1.2 3 _ rfl).2
    exact Option.some.inj (f1.symm.trans g4)
  subst hcA
  generalize hH1 : H.push ({ cls := tA 3, slots := Array.replicate n.toNatClampNeg .null, vm := .none } : Cell) = H1
  have z1 : H1.size = hp.1 + 1 := by rw [← hH1, Array.size_push, hz0]
  have e1 : H1[hp.1]? = some (arrV (tA 3) n.toNatClampNeg (fun _ => .null)) := by rw [← hH1, ← hz0, Array.getElem?_push_size, ← arrV_new]
  have o1 : ∀ q : Nat, q < hp.1 → H1[q]? = H[q]? := fun q hq => by rw [← hH1, Array.getElem?_push, if_neg (by rw [hz0]; exact Nat.ne_of_lt hq)]
  rw [hz0]
  refine h l D tA base p e s m args below meth c M H1 locs ls (hH.mk e1 z1 o1) (hC.push hH.2.1 hI.st rfl) (by show hp.1 + 1 = hp0.1 + (cl + 1); omega) ⟨Nat.le_trans hS.1 (by omega), fun q h1 h2 => (o1 q (by rw [← hz0]; exact Nat.lt_of_lt_of_le h1 hS.1)).trans (hS.2.1 q h1 h2), hS.2.2⟩ hL
/-- the ends -/
theorem x_iret {v : Int32} (hd : decode cc pc = .ok (.ireturn, 1)) (hr : ret = some .int ∨ (ret = some .boolean ∧ narrow .boolean (.int v) = .int v)) (hc : cl = mc) (hs : sl ≤ ms) (h : fin (some (.int v)) hp) : Ev st k y cc nL ret hp0 mc ms fin pc lv [.int v] hp cl sl := by
  intro l D tA base p e s m args below meth c M H locs ls hH hC hz hS hL
  refine W.widen (Nat.le_of_eq hc) hs ?_
  have hq : ∀ t : State, t.heap = H → s.WarmedH t.vm → ax_Q D tA base st mc fin args s (.returned (some (.int v))) t := fun t ht _ => ⟨⟨_, hp, rfl, h, by rw [M.2.2.2.2.2.2.2.1, ← hc]; exact hz, by rw [ht]; exact hH, hC⟩, hS.F ht⟩
  rcases hr with hr | ⟨hr, hn⟩
  · exact W.zret M.1 M.2.1 (M.2.2.1.trans hr) rfl hq hS.2.2 hd M.2.2.2.2.2.2.1
  · exact W.zret M.1 M.2.1 (M.2.2.1.trans hr) hn hq hS.2.2 hd M.2.2.2.2.2.2.1
theorem x_vret (hd : decode cc pc = .ok (.return_, 1)) (hr : ret = none) (hc : cl = mc) (hs : sl ≤ ms) (h : fin none hp) : Ev st k y cc nL ret hp0 mc ms fin pc lv [] hp cl sl := by
  intro l D tA base p e s m args below meth c M H locs ls hH hC hz hS hL
  refine W.widen (Nat.le_of_eq hc) hs ?_
  exact W.vret M.1 M.2.1 (M.2.2.1.trans hr) (fun t ht _ => ⟨⟨_, hp, rfl, h, by rw [M.2.2.2.2.2.2.2.1, ← hc]; exact hz, by rw [ht]; exact hH, hC⟩, hS.F ht⟩) hS.2.2 hd M.2.2.2.2.2.2.1
end AXC
end
section
/-! calls -/
theorem ax_I.calling {D : va_G} {tA : Nat → ClassId} {base : Nat} {st : Nat → Nat} {U : State} (g : JFrame) (mk : MethodId) (a : Array Value) (h : ax_I D tA base st U) : ax_I D tA base st (U.calling g mk a) :=
  ⟨va_K.moved (u := U) (U := U.calling g mk a) (Vm.Alike.refl U.vm) h.1, fun j hj => ⟨va_T.moved (u := U) (U := U.calling g mk a) (Vm.Alike.refl U.vm) (h.2.1 j hj).1, va_Z.moved (u := U) (U := U.calling g mk a) (Vm.Alike.refl U.vm) (h.2.1 j hj).2⟩,
    fun w hw => by
      have hn : isNW w = true := (List.mem_filter.mp hw).2
      have hq : w.onTables = true := by cases w <;> first | rfl | cases hn
      exact va_Nw.same hq (u := U) (U := U.calling g mk a) rfl (h.2.2.1 w hw), va_AO.moved (u := U) (U := U.calling g mk a) (Vm.Alike.refl U.vm) h.2.2.2⟩
theorem ax_I.warm {D : va_G} {tA : Nat → ClassId} {base : Nat} {st : Nat → Nat} {s U : State} {locs : List Loc} (h : ax_I D tA base st s) (hS : va_S (fun q => base ≤ q) s.heap U.heap locs) (hW : s.WarmedH U.vm) : ax_I D tA base st U := by
  have hb : ∀ j, j < 3 → ∀ a : Nat, a < s.heap.size → ¬ base ≤ a → U.heap[a]? = s.heap[a]? := fun j hj a h1 h2 => hS.2.1 a h1 h2
  refine ⟨va_K.moved hW.alike h.1, fun j hj => ⟨((h.2.1 j hj).1.moved hW.alike).kept (hb j hj), ((h.2.1 j hj).2.moved hW.alike).kept (hb j hj)⟩, fun w hw => ?_, va_AO.moved hW.alike h.2.2.2⟩
  have hn : isNW w = true := (List.mem_filter.mp hw).2
  have h1 := h.2.2.1 w hw
  cases w <;> first | exact va_Nw.warmF hW h1 | exact va_Nw.warmM hW h1 | cases hn
theorem ax_blind {D : va_G} {tA : Nat → ClassId} {base : Nat} {st : Nat → Nat} {hp : Hp} {av : List Value} : FrameBlind (va_Pc av (ax_U D tA base st hp)) := fun a _ g mk h => ⟨h.1, h.2.1, h.2.2.1, h.2.2.2.calling g mk a⟩
theorem ax_TBin {ws : List Cond} (h : ∀ w ∈ ws, w ∈ TB) : GoodIn TB ws := fun w hw => ⟨h w hw, good_of_word (List.mem_filter.mp (h w hw)).2⟩
/-- a method, and what the tables say of it -/
def ax_kM (y : MethodName) (cc : ByteArray) (nL : Nat) (ret : Option FieldType) (n : Nat) : Prop := Cond.initialized y.cls ∈ TB ∧ Cond.code y cc nL ret ∈ TB ∧ (y.cls ≠ "java/lang/invoke/MethodHandle" ∧ y.cls ≠ "java/lang/invoke/VarHandle" ∧ (parseMethodDescriptor y.desc).map (fun d => d.parameters.length) = some n) ∧ nL ≤ 7
theorem ax_kM.ws {y : MethodName} {cc : ByteArray} {nL : Nat} {ret : Option FieldType} {n : Nat} (h : ax_kM y cc nL ret n) : GoodIn TB (Cond.code y cc nL ret :: TB) := ax_TBin fun w hw => by
  rcases List.mem_cons.mp hw with rfl | hw
  · exact h.2.1
  · exact hw
section AXA
variable {p : Program} {l : Launch} {e : Env} {R : Room} {s : State} {m : MethodId} {args : Array Value} {below : List Frame} {meth : Method} {c : Code} {H : Heap} {locs : List Loc} {cells slots : Nat} {Q : State → Prop}
variable {pc : Nat} {ls : Array Slot} {rest st0 : List Value} {a : Array Value} {mc ms : Nat} {D : va_G} {tA : Nat → ClassId} {base : Nat} {st : Nat → Nat} {hp : Hp} {Q1 : Option Value → Hp → Prop}
theorem ax_after (hr : va_Run p l e R s m args below meth c H locs cells slots mc ms (F0 m pc ls st0) rest (ax_Q D tA base st mc Q1 a) (fun q => base ≤ q)) (hS : va_S (fun q => base ≤ q) s.heap H locs) (hz : H.size = hp.1)
    (kk : ∀ (r : Option Value) (hp' : Hp) (H1 : Heap) (locs1 : List Loc), Q1 r hp' → hp'.1 = hp.1 + mc → ax_H D tA base hp' H1 → ax_C base st hp' → va_S (fun q => base ≤ q) s.heap H1 locs1 → W p l e R s m args below meth c H1 locs1 (cells + mc) (slots + ms) Q (F0 m (pc + 3) ls (r.toList ++ rest))) : W p l e R s m args below meth c H locs cells slots Q (F0 m pc ls st0) := by
  intro T hT X
  obtain ⟨v, st₀, t, T', L, h0, X', hL, e1, e2, ⟨⟨r, hp', hv, hq, hz1, hH1, hC1⟩, hzz, hk⟩, go⟩ := hr T hT X
  cases hv
  rw [h0] at hzz hk hz1
  obtain ⟨t2, a1, b1⟩ := kk v hp' T'.heap (locs ++ L) hq (by rw [hz1, hz]) (by rw [e1]; exact hH1) hC1
    ⟨Nat.le_trans hS.1 (by rw [e1]; exact hzz), fun q h1 h2 => by rw [e1, hk q (Nat.lt_of_lt_of_le h1 hS.1) h2]; exact hS.2.1 q h1 h2, fun q hq => by
      rcases List.mem_append.mp hq with h | h
      · exact hS.2.2 q h
      · exact hL q h⟩ T' rfl X'
  exact ⟨t2, go t2 a1, b1⟩
end AXA
section AXB
variable {st : Nat → Nat} {k : Nat} {y : MethodName} {cc : ByteArray} {nL : Nat} {ret : Option FieldType} {hp0 : Hp} {mc ms : Nat} {fin : Option Value → Hp → Prop} {pc : Nat} {lv stk stk0 : List Value} {hp : Hp} {cl sl : Nat}
variable {idx n nL1 mc1 ms1 : Nat} {y1 : MethodName} {cc1 : ByteArray} {ret1 : Option FieldType} {As : List Value} {Q1 : Option Value → Hp → Prop}
theorem ax_roomL (h : nL1 ≤ 7) : 8 + (nL1 + 11) + 26 * k ≤ 26 * (k + 1) := by omega
theorem x_callV {a ci : Nat} {fs : List Value} (hd : decode cc pc = .ok (.invokevirtual idx, 3)) (hy : ax_kM y1 cc1 nL1 ret1 n) (hi : Cond.instanceMethod y1 ∈ TB ∧ Cond.selects y1.cls y1 y1 ∈ TB) (hl : Cond.methodLink y.cls idx y1 ∈ TB) (hc : CT st k y1 cc1 nL1 ret1 (.ref a :: As) hp mc1 ms1 Q1) (hh : hp.2 a = some (.inr (ci, fs))) (hci : (vwCl[ci]?).map (fun q => q.1) = some y1.cls) (hs : stk0 = As.reverse ++ .ref a :: stk) (hn : As.length = n) (hr : (stk.map fun v => v.category).sum ≤ 8) (hm : cl + mc1 ≤ mc ∧ sl + ms1 ≤ ms)
    (h : ∀ r hp', Q1 r hp' → Ev st (k + 1) y cc nL ret hp0 mc ms fin (pc + 3) lv (r.toList ++ stk) hp' (cl + mc1) (sl + ms1)) : Ev st (k + 1) y cc nL ret hp0 mc ms fin pc lv stk0 hp cl sl := by
  intro l D tA base p e s m args below meth c M H locs ls hH hC hz hS hL
  have hts := M.2.2.2.2.2.1
  have hI := M.2.2.2.2.2.2.2.2.2.2
  obtain ⟨q, hq, hq1⟩ := Option.map_eq_some_iff.mp hci
  subst hs
  refine ax_after (va_runV (C := y1.cls) (Ts := TB) (own := y.cls) (As := As) (rest := stk) ⟨M.1, M.2.1, M.2.2.2.1, M.2.2.2.2.1, hts⟩ (hc l D tA base) (cwV n hts (ax_TBin fun w hw => ?_) rfl rfl rfl ⟨rfl, hy.2.2.1⟩ ⟨Nat.le_refl (k + 1), ax_roomL hy.2.2.2⟩) ⟨ax_blind, ?_, fun U hU hW => ⟨rfl, by rw [hU]; exact hH, hC, hI.warm (by rw [hU]; exact hS) hW⟩⟩ rfl hn hL.2.1 rfl (lv_room hr) hd hm) hS hH.1 (fun r hp' H1 locs1 hQ hz1 hH1 hC1 hS1 => h r hp' hQ l D tA base p e s m args below meth c M H1 locs1 ls hH1 hC1 (by omega) hS1 hL)
  · unfold wsV at hw
    rcases List.mem_append.mp hw with hw | hw
    · rcases List.mem_cons.mp hw with rfl | hw
      · exact hl
      rcases List.mem_cons.mp hw with rfl | hw
      · exact hi.1
      rcases List.mem_cons.mp hw with rfl | hw
      · exact hi.2
      rw [List.mem_singleton.mp hw]
      exact hy.1
    · exact (hy.ws w hw).1
  · rw [← hq1]
    exact va_recv hI.1 hH.2.2 hq (hH.at hC hh rfl)
theorem x_callS (hd : decode cc pc = .ok (.invokestatic idx, 3)) (hy : ax_kM y1 cc1 nL1 ret1 n) (hi : Cond.static y1 ∈ TB) (hl : Cond.methodLink y.cls idx y1 ∈ TB) (hc : CT st k y1 cc1 nL1 ret1 As hp mc1 ms1 Q1) (hs : stk0 = As.reverse ++ stk) (hn : As.length = n) (hr : (stk.map fun v => v.category).sum ≤ 8) (hm : cl + mc1 ≤ mc ∧ sl + ms1 ≤ ms)
    (h : ∀ r hp', Q1 r hp' → Ev st (k + 1) y cc nL ret hp0 mc ms fin (pc + 3) lv (r.toList ++ stk) hp' (cl + mc1) (sl + ms1)) : Ev st (k + 1) y cc nL ret hp0 mc ms fin pc lv stk0 hp cl sl := by
  intro l D tA base p e s m args below meth c M H locs ls hH hC hz hS hL
  have hts := M.2.2.2.2.2.1
  have hI := M.2.2.2.2.2.2.2.2.2.2
  subst hs
  refine ax_after (va_runS (Ts := TB) (own := y.cls) (As := As) (rest := stk) ⟨M.1, M.2.1, M.2.2.2.1, M.2.2.2.2.1, hts⟩ (hc l D tA base) (va_cwS n hts (ax_TBin fun w hw => ?_) rfl rfl rfl hy.2.2.1 ⟨Nat.le_refl (k + 1), ax_roomL hy.2.2.2⟩) ⟨ax_blind, fun U hU hW => ⟨rfl, by rw [hU]; exact hH, hC, hI.warm (by rw [hU]; exact hS) hW⟩⟩ rfl hn hL.2.1 rfl (lv_room hr) hd hm) hS hH.1 (fun r hp' H1 locs1 hQ hz1 hH1 hC1 hS1 => h r hp' hQ l D tA base p e s m args below meth c M H1 locs1 ls hH1 hC1 (by omega) hS1 hL)
  unfold va_wsS at hw
  rcases List.mem_append.mp hw with hw | hw
  · rcases List.mem_cons.mp hw with rfl | hw
    · exact hl
    rcases List.mem_cons.mp hw with rfl | hw
    · exact hi
    rw [List.mem_singleton.mp hw]
    exact hy.1
  · exact (hy.ws w hw).1
theorem x_callSN {host : String} (hd : decode cc pc = .ok (.invokestatic idx, 3)) (hy : ax_kM y1 cc1 nL1 ret1 n) (hi : Cond.static y1 ∈ TB) (hl : Cond.methodLinkNest y.cls idx y1 host ∈ NB) (hc : CT st k y1 cc1 nL1 ret1 As hp mc1 ms1 Q1) (hs : stk0 = As.reverse ++ stk) (hn : As.length = n) (hr : (stk.map fun v => v.category).sum ≤ 8) (hm : cl + mc1 ≤ mc ∧ sl + ms1 ≤ ms)
    (h : ∀ r hp', Q1 r hp' → Ev st (k + 1) y cc nL ret hp0 mc ms fin (pc + 3) lv (r.toList ++ stk) hp' (cl + mc1) (sl + ms1)) : Ev st (k + 1) y cc nL ret hp0 mc ms fin pc lv stk0 hp cl sl := by
  intro l D tA base p e s m args below meth c M H locs ls hH hC hz hS hL
  have hts := M.2.2.2.2.2.1
  have hI := M.2.2.2.2.2.2.2.2.2.2
  subst hs
  exact ax_after (va_runSN (Ts := TB) (own := y.cls) (As := As) (rest := stk) ⟨M.1, M.2.1, M.2.2.2.1, M.2.2.2.2.1, hts⟩ (hc l D tA base) ⟨va_cnB n hts hy.ws rfl rfl rfl (hI.2.2.1 _ hl) (hts _ hy.1) hy.2.2.1 ⟨Nat.le_refl (k + 1), ax_roomL hy.2.2.2⟩, hts _ hi, trivial⟩ ⟨ax_blind, fun U hU hW => ⟨rfl, by rw [hU]; exact hH, hC, hI.warm (by rw [hU]; exact hS) hW⟩⟩ rfl hn hL.2.1 rfl (lv_room hr) hd hm) hS hH.1 (fun r hp' H1 locs1 hQ hz1 hH1 hC1 hS1 => h r hp' hQ l D tA base p e s m args below meth c M H1 locs1 ls hH1 hC1 (by omega) hS1 hL)
theorem x_callI {a : Nat} (hd : decode cc pc = .ok (.invokespecial idx, 3)) (hy : ax_kM y1 cc1 nL1 none n) (hy1 : y1.name = "<init>") (hi : Cond.instanceMethod y1 ∈ TB) (hl : Cond.methodLink y.cls idx y1 ∈ TB) (hc : CT st k y1 cc1 nL1 none (.ref a :: As) hp mc1 ms1 Q1) (hs : stk0 = As.reverse ++ .ref a :: stk) (hn : As.length = n) (hr : (stk.map fun v => v.category).sum ≤ 8) (hm : cl + mc1 ≤ mc ∧ sl + ms1 ≤ ms)
    (h : ∀ r hp', Q1 r hp' → Ev st (k + 1) y cc nL ret hp0 mc ms fin (pc + 3) lv (r.toList ++ stk) hp' (cl + mc1) (sl + ms1)) : Ev st (k + 1) y cc nL ret hp0 mc ms fin pc lv stk0 hp cl sl := by
  intro l D tA base p e s m args below meth c M H locs ls hH hC hz hS hL
  have hts := M.2.2.2.2.2.1
  have hI := M.2.2.2.2.2.2.2.2.2.2
  subst hs
  exact ax_after (va_runI (Ts := TB) (own := y.cls) (b := a) (As := As) (rest := stk) ⟨M.1, M.2.1, M.2.2.2.1, M.2.2.2.2.1, hts⟩ (hc l D tA base) (cwI n hts hy.ws rfl rfl rfl (hts _ hy.1) (hts _ hl) (hts _ hi) hy1 hy.2.2.1 ⟨Nat.le_refl (k + 1), ax_roomL hy.2.2.2⟩) ⟨ax_blind, fun U hU hW => ⟨rfl, by rw [hU]; exact hH, hC, hI.warm (by rw [hU]; exact hS) hW⟩⟩ rfl hn hL.2.1 rfl (lv_room hr) hd hm) hS hH.1 (fun r hp' H1 locs1 hQ hz1 hH1 hC1 hS1 => h r hp' hQ l D tA base p e s m args below meth c M H1 locs1 ls hH1 hC1 (by omega) hS1 hL)
theorem x_callIN {a : Nat} {host : String} (hd : decode cc pc = .ok (.invokespecial idx, 3)) (hy : ax_kM y1 cc1 nL1 none n) (hy1 : y1.name = "<init>") (hi : Cond.instanceMethod y1 ∈ TB) (hl : Cond.methodLinkNest y.cls idx y1 host ∈ NB) (hc : CT st k y1 cc1 nL1 none (.ref a :: As) hp mc1 ms1 Q1) (hs : stk0 = As.reverse ++ .ref a :: stk) (hn : As.length = n) (hr : (stk.map fun v => v.category).sum ≤ 8) (hm : cl + mc1 ≤ mc ∧ sl + ms1 ≤ ms)
    (h : ∀ r hp', Q1 r hp' → Ev st (k + 1) y cc nL ret hp0 mc ms fin (pc + 3) lv (r.toList ++ stk) hp' (cl + mc1) (sl + ms1)) : Ev st (k + 1) y cc nL ret hp0 mc ms fin pc lv stk0 hp cl sl := by
  intro l D tA base p e s m args below meth c M H locs ls hH hC hz hS hL
  have hts := M.2.2.2.2.2.1
  have hI := M.2.2.2.2.2.2.2.2.2.2
  subst hs
  exact ax_after (va_runIN (Ts := TB) (own := y.cls) (b := a) (As := As) (rest := stk) ⟨M.1, M.2.1, M.2.2.2.1, M.2.2.2.2.1, hts⟩ (hc l D tA base) ⟨va_cnB n hts hy.ws rfl rfl rfl (hI.2.2.1 _ hl) (hts _ hy.1) hy.2.2.1 ⟨Nat.le_refl (k + 1), ax_roomL hy.2.2.2⟩, hy1, hts _ hi⟩ ⟨ax_blind, fun U hU hW => ⟨rfl, by rw [hU]; exact hH, hC, hI.warm (by rw [hU]; exact hS) hW⟩⟩ rfl hn hL.2.1 rfl (lv_room hr) hd hm) hS hH.1 (fun r hp' H1 locs1 hQ hz1 hH1 hC1 hS1 => h r hp' hQ l D tA base p e s m args below meth c M H1 locs1 ls hH1 hC1 (by omega) hS1 hL)
end AXB
end
section
theorem kX4_init : ax_kM yX4_init cX4_init 2 none 0 := ⟨q75, q88, ⟨by decide, by decide, rfl⟩, Nat.le_of_ble_eq_true rfl⟩
theorem kX2_init : ax_kM yX2_init cX2_init 1 none 0 := ⟨q76, q96, ⟨by decide, by decide, rfl⟩, Nat.le_of_ble_eq_true rfl⟩
theorem kX1_init : ax_kM yX1_init cX1_init 1 none 0 := ⟨q77, q102, ⟨by decide, by decide, rfl⟩, Nat.le_of_ble_eq_true rfl⟩
theorem kX0_init : ax_kM yX0_init cX0_init 1 none 0 := ⟨q78, q131, ⟨by decide, by decide, rfl⟩, Nat.le_of_ble_eq_true rfl⟩
theorem kX4_copy : ax_kM yX4_copy cX4_copy 2 none 2 := ⟨q75, q170, ⟨by decide, by decide, rfl⟩, Nat.le_of_ble_eq_true rfl⟩
theorem kX3_init : ax_kM yX3_init cX3_init 1 none 0 := ⟨q81, q204, ⟨by decide, by decide, rfl⟩, Nat.le_of_ble_eq_true rfl⟩
theorem kX4_set : ax_kM yX4_set cX4_set 3 (some .int) 2 := ⟨q75, q259, ⟨by decide, by decide, rfl⟩, Nat.le_of_ble_eq_true rfl⟩
theorem iX4_set : Cond.instanceMethod yX4_set ∈ TB ∧ Cond.selects (yX4_set).cls yX4_set yX4_set ∈ TB := ⟨q257, q258⟩
theorem kX4_draft : ax_kM yX4_draft cX4_draft 1 none 0 := ⟨q75, q263, ⟨by decide, by decide, rfl⟩, Nat.le_of_ble_eq_true rfl⟩
theorem iX4_draft : Cond.instanceMethod yX4_draft ∈ TB ∧ Cond.selects (yX4_draft).cls yX4_draft yX4_draft ∈ TB := ⟨q262, p0⟩
theorem kX2_become : ax_kM yX2_become cX2_become 2 none 1 := ⟨q76, q267, ⟨by decide, by decide, rfl⟩, Nat.le_of_ble_eq_true rfl⟩
theorem iX2_become : Cond.instanceMethod yX2_become ∈ TB ∧ Cond.selects (yX2_become).cls yX2_become yX2_become ∈ TB := ⟨q265, q266⟩
theorem kX1_become : ax_kM yX1_become cX1_become 2 none 1 := ⟨q77, q271, ⟨by decide, by decide, rfl⟩, Nat.le_of_ble_eq_true rfl⟩
theorem iX1_become : Cond.instanceMethod yX1_become ∈ TB ∧ Cond.selects (yX1_become).cls yX1_become yX1_become ∈ TB := ⟨q269, q270⟩
theorem kX0_become : ax_kM yX0_become cX0_become 2 none 1 := ⟨q78, q276, ⟨by decide, by decide, rfl⟩, Nat.le_of_ble_eq_true rfl⟩
theorem iX0_become : Cond.instanceMethod yX0_become ∈ TB ∧ Cond.selects (yX0_become).cls yX0_become yX0_become ∈ TB := ⟨q274, q275⟩
theorem kX2_changeSetting : ax_kM yX2_changeSetting cX2_changeSetting 4 (some .int) 2 := ⟨q76, q281, ⟨by decide, by decide, rfl⟩, Nat.le_of_ble_eq_true rfl⟩
theorem iX2_changeSetting : Cond.instanceMethod yX2_changeSetting ∈ TB ∧ Cond.selects (yX2_changeSetting).cls yX2_changeSetting yX2_changeSetting ∈ TB := ⟨q279, q280⟩
theorem kX4_recorded : ax_kM yX4_recorded cX4_recorded 2 (some .int) 1 := ⟨q75, q289, ⟨by decide, by decide, rfl⟩, Nat.le_of_ble_eq_true rfl⟩
theorem iX4_recorded : Cond.instanceMethod yX4_recorded ∈ TB ∧ Cond.selects (yX4_recorded).cls yX4_recorded yX4_recorded ∈ TB := ⟨q288, p1⟩
theorem kX4_dropOldest : ax_kM yX4_dropOldest cX4_dropOldest 3 none 0 := ⟨q75, q293, ⟨by decide, by decide, rfl⟩, Nat.le_of_ble_eq_true rfl⟩
theorem iX4_dropOldest : Cond.instanceMethod yX4_dropOldest ∈ TB ∧ Cond.selects (yX4_dropOldest).cls yX4_dropOldest yX4_dropOldest ∈ TB := ⟨q292, p2⟩
theorem kX4_lot : ax_kM yX4_lot cX4_lot 2 (some .int) 1 := ⟨q75, q297, ⟨by decide, by decide, rfl⟩, Nat.le_of_ble_eq_true rfl⟩
theorem iX4_lot : Cond.instanceMethod yX4_lot ∈ TB ∧ Cond.selects (yX4_lot).cls yX4_lot yX4_lot ∈ TB := ⟨q295, q296⟩
theorem kX2_addLot : ax_kM yX2_addLot cX2_addLot 3 (some .int) 1 := ⟨q76, q301, ⟨by decide, by decide, rfl⟩, Nat.le_of_ble_eq_true rfl⟩
theorem iX2_addLot : Cond.instanceMethod yX2_addLot ∈ TB ∧ Cond.selects (yX2_addLot).cls yX2_addLot yX2_addLot ∈ TB := ⟨q299, q300⟩
theorem kX4_notice : ax_kM yX4_notice cX4_notice 2 (some .int) 1 := ⟨q75, q305, ⟨by decide, by decide, rfl⟩, Nat.le_of_ble_eq_true rfl⟩
theorem iX4_notice : Cond.instanceMethod yX4_notice ∈ TB ∧ Cond.selects (yX4_notice).cls yX4_notice yX4_notice ∈ TB := ⟨q303, q304⟩
theorem kX2_giveNotice : ax_kM yX2_giveNotice cX2_giveNotice 2 (some .int) 1 := ⟨q76, q309, ⟨by decide, by decide, rfl⟩, Nat.le_of_ble_eq_true rfl⟩
theorem iX2_giveNotice : Cond.instanceMethod yX2_giveNotice ∈ TB ∧ Cond.selects (yX2_giveNotice).cls yX2_giveNotice yX2_giveNotice ∈ TB := ⟨q307, q308⟩
theorem kX1_exists : ax_kM yX1_exists cX1_exists 2 (some .boolean) 1 := ⟨q77, q313, ⟨by decide, by decide, rfl⟩, Nat.le_of_ble_eq_true rfl⟩
theorem iX1_exists : Cond.instanceMethod yX1_exists ∈ TB ∧ Cond.selects (yX1_exists).cls yX1_exists yX1_exists ∈ TB := ⟨q311, q312⟩
theorem kX1_inState : ax_kM yX1_inState cX1_inState 2 (some .int) 1 := ⟨q77, q317, ⟨by decide, by decide, rfl⟩, Nat.le_of_ble_eq_true rfl⟩
theorem iX1_inState : Cond.instanceMethod yX1_inState ∈ TB ∧ Cond.selects (yX1_inState).cls yX1_inState yX1_inState ∈ TB := ⟨q315, q316⟩
theorem kX4_rowsWith : ax_kM yX4_rowsWith cX4_rowsWith 5 (some .int) 3 := ⟨q75, q320, ⟨by decide, by decide, rfl⟩, Nat.le_of_ble_eq_true rfl⟩
theorem kJ6_bitCount_0f7a4 : ax_kM yJ6_bitCount_0f7a4 cJ6_bitCount_0f7a4 1 (some .int) 1 := ⟨q83, q323, ⟨by decide, by decide, rfl⟩, Nat.le_of_ble_eq_true rfl⟩
theorem kX4_claim : ax_kM yX4_claim cX4_claim 4 (some .int) 3 := ⟨q75, q330, ⟨by decide, by decide, rfl⟩, Nat.le_of_ble_eq_true rfl⟩
theorem iX4_claim : Cond.instanceMethod yX4_claim ∈ TB ∧ Cond.selects (yX4_claim).cls yX4_claim yX4_claim ∈ TB := ⟨q328, q329⟩
theorem kX2_addClaim : ax_kM yX2_addClaim cX2_addClaim 5 (some .int) 3 := ⟨q76, q334, ⟨by decide, by decide, rfl⟩, Nat.le_of_ble_eq_true rfl⟩
theorem iX2_addClaim : Cond.instanceMethod yX2_addClaim ∈ TB ∧ Cond.selects (yX2_addClaim).cls yX2_addClaim yX2_addClaim ∈ TB := ⟨q332, q333⟩
theorem kX2_isHeir : ax_kM yX2_isHeir cX2_isHeir 1 (some .boolean) 1 := ⟨q76, q337, ⟨by decide, by decide, rfl⟩, Nat.le_of_ble_eq_true rfl⟩
theorem kX2_canBeClaimed : ax_kM yX2_canBeClaimed cX2_canBeClaimed 2 (some .boolean) 1 := ⟨q76, q341, ⟨by decide, by decide, rfl⟩, Nat.le_of_ble_eq_true rfl⟩
theorem iX2_canBeClaimed : Cond.instanceMethod yX2_canBeClaimed ∈ TB ∧ Cond.selects (yX2_canBeClaimed).cls yX2_canBeClaimed yX2_canBeClaimed ∈ TB := ⟨q340, p3⟩
theorem kX1_isOver : ax_kM yX1_isOver cX1_isOver 2 (some .boolean) 1 := ⟨q77, q345, ⟨by decide, by decide, rfl⟩, Nat.le_of_ble_eq_true rfl⟩
theorem iX1_isOver : Cond.instanceMethod yX1_isOver ∈ TB ∧ Cond.selects (yX1_isOver).cls yX1_isOver yX1_isOver ∈ TB := ⟨q343, q344⟩
theorem kX0_ofHeir : ax_kM yX0_ofHeir cX0_ofHeir 2 (some .int) 1 := ⟨q78, q349, ⟨by decide, by decide, rfl⟩, Nat.le_of_ble_eq_true rfl⟩
theorem iX0_ofHeir : Cond.instanceMethod yX0_ofHeir ∈ TB ∧ Cond.selects (yX0_ofHeir).cls yX0_ofHeir yX0_ofHeir ∈ TB := ⟨q347, q348⟩
theorem kX0_standingTo : ax_kM yX0_standingTo cX0_standingTo 2 (some .int) 1 := ⟨q78, q354, ⟨by decide, by decide, rfl⟩, Nat.le_of_ble_eq_true rfl⟩
theorem iX0_standingTo : Cond.instanceMethod yX0_standingTo ∈ TB ∧ Cond.selects (yX0_standingTo).cls yX0_standingTo yX0_standingTo ∈ TB := ⟨q352, q353⟩
theorem kX0_toLot : ax_kM yX0_toLot cX0_toLot 2 (some .int) 1 := ⟨q78, q358, ⟨by decide, by decide, rfl⟩, Nat.le_of_ble_eq_true rfl⟩
theorem iX0_toLot : Cond.instanceMethod yX0_toLot ∈ TB ∧ Cond.selects (yX0_toLot).cls yX0_toLot yX0_toLot ∈ TB := ⟨q356, q357⟩
theorem kX0_standing : ax_kM yX0_standing cX0_standing 1 (some .int) 0 := ⟨q78, q362, ⟨by decide, by decide, rfl⟩, Nat.le_of_ble_eq_true rfl⟩
theorem iX0_standing : Cond.instanceMethod yX0_standing ∈ TB ∧ Cond.selects (yX0_standing).cls yX0_standing yX0_standing ∈ TB := ⟨q360, q361⟩
theorem kX0_inState : ax_kM yX0_inState cX0_inState 2 (some .int) 1 := ⟨q78, q366, ⟨by decide, by decide, rfl⟩, Nat.le_of_ble_eq_true rfl⟩
theorem iX0_inState : Cond.instanceMethod yX0_inState ∈ TB ∧ Cond.selects (yX0_inState).cls yX0_inState yX0_inState ∈ TB := ⟨q364, q365⟩
theorem kX4_prove : ax_kM yX4_prove cX4_prove 3 (some .int) 2 := ⟨q75, q370, ⟨by decide, by decide, rfl⟩, Nat.le_of_ble_eq_true rfl⟩
theorem iX4_prove : Cond.instanceMethod yX4_prove ∈ TB ∧ Cond.selects (yX4_prove).cls yX4_prove yX4_prove ∈ TB := ⟨q368, q369⟩
theorem kX2_addProof : ax_kM yX2_addProof cX2_addProof 3 (some .int) 2 := ⟨q76, q374, ⟨by decide, by decide, rfl⟩, Nat.le_of_ble_eq_true rfl⟩
theorem iX2_addProof : Cond.instanceMethod yX2_addProof ∈ TB ∧ Cond.selects (yX2_addProof).cls yX2_addProof yX2_addProof ∈ TB := ⟨q372, q373⟩
theorem kX0_exists : ax_kM yX0_exists cX0_exists 2 (some .boolean) 1 := ⟨q78, q378, ⟨by decide, by decide, rfl⟩, Nat.le_of_ble_eq_true rfl⟩
theorem iX0_exists : Cond.instanceMethod yX0_exists ∈ TB ∧ Cond.selects (yX0_exists).cls yX0_exists yX0_exists ∈ TB := ⟨q376, q377⟩
theorem kX0_isOpen : ax_kM yX0_isOpen cX0_isOpen 2 (some .boolean) 1 := ⟨q78, q382, ⟨by decide, by decide, rfl⟩, Nat.le_of_ble_eq_true rfl⟩
theorem iX0_isOpen : Cond.instanceMethod yX0_isOpen ∈ TB ∧ Cond.selects (yX0_isOpen).cls yX0_isOpen yX0_isOpen ∈ TB := ⟨q380, q381⟩
theorem kX4_decide : ax_kM yX4_decide cX4_decide 2 (some .int) 1 := ⟨q75, q387, ⟨by decide, by decide, rfl⟩, Nat.le_of_ble_eq_true rfl⟩
theorem iX4_decide : Cond.instanceMethod yX4_decide ∈ TB ∧ Cond.selects (yX4_decide).cls yX4_decide yX4_decide ∈ TB := ⟨q385, q386⟩
theorem kX2_judge : ax_kM yX2_judge cX2_judge 2 (some .int) 1 := ⟨q76, q391, ⟨by decide, by decide, rfl⟩, Nat.le_of_ble_eq_true rfl⟩
theorem iX2_judge : Cond.instanceMethod yX2_judge ∈ TB ∧ Cond.selects (yX2_judge).cls yX2_judge yX2_judge ∈ TB := ⟨q389, q390⟩
theorem kX4_withdraw : ax_kM yX4_withdraw cX4_withdraw 2 (some .int) 1 := ⟨q75, q395, ⟨by decide, by decide, rfl⟩, Nat.le_of_ble_eq_true rfl⟩
theorem iX4_withdraw : Cond.instanceMethod yX4_withdraw ∈ TB ∧ Cond.selects (yX4_withdraw).cls yX4_withdraw yX4_withdraw ∈ TB := ⟨q393, q394⟩
theorem kX2_takeBack : ax_kM yX2_takeBack cX2_takeBack 2 (some .int) 1 := ⟨q76, q399, ⟨by decide, by decide, rfl⟩, Nat.le_of_ble_eq_true rfl⟩
theorem iX2_takeBack : Cond.instanceMethod yX2_takeBack ∈ TB ∧ Cond.selects (yX2_takeBack).cls yX2_takeBack yX2_takeBack ∈ TB := ⟨q397, q398⟩
theorem kX0_stands : ax_kM yX0_stands cX0_stands 2 (some .boolean) 1 := ⟨q78, q403, ⟨by decide, by decide, rfl⟩, Nat.le_of_ble_eq_true rfl⟩
theorem iX0_stands : Cond.instanceMethod yX0_stands ∈ TB ∧ Cond.selects (yX0_stands).cls yX0_stands yX0_stands ∈ TB := ⟨q401, q402⟩
theorem kX4_settle : ax_kM yX4_settle cX4_settle 2 (some .int) 1 := ⟨q75, q407, ⟨by decide, by decide, rfl⟩, Nat.le_of_ble_eq_true rfl⟩
theorem iX4_settle : Cond.instanceMethod yX4_settle ∈ TB ∧ Cond.selects (yX4_settle).cls yX4_settle yX4_settle ∈ TB := ⟨q405, q406⟩
theorem kX2_shareOut : ax_kM yX2_shareOut cX2_shareOut 6 (some .int) 1 := ⟨q76, q411, ⟨by decide, by decide, rfl⟩, Nat.le_of_ble_eq_true rfl⟩
theorem iX2_shareOut : Cond.instanceMethod yX2_shareOut ∈ TB ∧ Cond.selects (yX2_shareOut).cls yX2_shareOut yX2_shareOut ∈ TB := ⟨q409, q410⟩
theorem kX0_upheldTo : ax_kM yX0_upheldTo cX0_upheldTo 2 (some .int) 1 := ⟨q78, q415, ⟨by decide, by decide, rfl⟩, Nat.le_of_ble_eq_true rfl⟩
theorem iX0_upheldTo : Cond.instanceMethod yX0_upheldTo ∈ TB ∧ Cond.selects (yX0_upheldTo).cls yX0_upheldTo yX0_upheldTo ∈ TB := ⟨q413, q414⟩
theorem kX0_openTo : ax_kM yX0_openTo cX0_openTo 2 (some .int) 1 := ⟨q78, q419, ⟨by decide, by decide, rfl⟩, Nat.le_of_ble_eq_true rfl⟩
theorem iX0_openTo : Cond.instanceMethod yX0_openTo ∈ TB ∧ Cond.selects (yX0_openTo).cls yX0_openTo yX0_openTo ∈ TB := ⟨q417, q418⟩
theorem kX2_coinsToShare : ax_kM yX2_coinsToShare cX2_coinsToShare 3 (some .int) 1 := ⟨q76, q423, ⟨by decide, by decide, rfl⟩, Nat.le_of_ble_eq_true rfl⟩
theorem iX2_coinsToShare : Cond.instanceMethod yX2_coinsToShare ∈ TB ∧ Cond.selects (yX2_coinsToShare).cls yX2_coinsToShare yX2_coinsToShare ∈ TB := ⟨q422, p4⟩
theorem kX0_nearest : ax_kM yX0_nearest cX0_nearest 2 (some .int) 1 := ⟨q78, q427, ⟨by decide, by decide, rfl⟩, Nat.le_of_ble_eq_true rfl⟩
theorem iX0_nearest : Cond.instanceMethod yX0_nearest ∈ TB ∧ Cond.selects (yX0_nearest).cls yX0_nearest yX0_nearest ∈ TB := ⟨q425, q426⟩
theorem kX0_nearestLine : ax_kM yX0_nearestLine cX0_nearestLine 4 (some .int) 1 := ⟨q78, q431, ⟨by decide, by decide, rfl⟩, Nat.le_of_ble_eq_true rfl⟩
theorem iX0_nearestLine : Cond.instanceMethod yX0_nearestLine ∈ TB ∧ Cond.selects (yX0_nearestLine).cls yX0_nearestLine yX0_nearestLine ∈ TB := ⟨q429, q430⟩
theorem kX4_holds : ax_kM yX4_holds cX4_holds 2 (some .boolean) 2 := ⟨q75, q434, ⟨by decide, by decide, rfl⟩, Nat.le_of_ble_eq_true rfl⟩
theorem kX2_part : ax_kM yX2_part cX2_part 5 (some .int) 3 := ⟨q76, q438, ⟨by decide, by decide, rfl⟩, Nat.le_of_ble_eq_true rfl⟩
theorem kX2_settleClaim : ax_kM yX2_settleClaim cX2_settleClaim 4 none 2 := ⟨q76, q442, ⟨by decide, by decide, rfl⟩, Nat.le_of_ble_eq_true rfl⟩
theorem iX2_settleClaim : Cond.instanceMethod yX2_settleClaim ∈ TB ∧ Cond.selects (yX2_settleClaim).cls yX2_settleClaim yX2_settleClaim ∈ TB := ⟨q441, p5⟩
theorem kX2_purse : ax_kM yX2_purse cX2_purse 2 (some .int) 1 := ⟨q76, q446, ⟨by decide, by decide, rfl⟩, Nat.le_of_ble_eq_true rfl⟩
theorem iX2_purse : Cond.instanceMethod yX2_purse ∈ TB ∧ Cond.selects (yX2_purse).cls yX2_purse yX2_purse ∈ TB := ⟨q445, p6⟩
theorem kX4_sum : ax_kM yX4_sum cX4_sum 4 (some .int) 2 := ⟨q75, q449, ⟨by decide, by decide, rfl⟩, Nat.le_of_ble_eq_true rfl⟩
theorem kX2_leaveOffice : ax_kM yX2_leaveOffice cX2_leaveOffice 3 none 2 := ⟨q76, q454, ⟨by decide, by decide, rfl⟩, Nat.le_of_ble_eq_true rfl⟩
theorem iX2_leaveOffice : Cond.instanceMethod yX2_leaveOffice ∈ TB ∧ Cond.selects (yX2_leaveOffice).cls yX2_leaveOffice yX2_leaveOffice ∈ TB := ⟨q453, p7⟩
theorem kX4_pass : ax_kM yX4_pass cX4_pass 2 (some .int) 1 := ⟨q75, q458, ⟨by decide, by decide, rfl⟩, Nat.le_of_ble_eq_true rfl⟩
theorem iX4_pass : Cond.instanceMethod yX4_pass ∈ TB ∧ Cond.selects (yX4_pass).cls yX4_pass yX4_pass ∈ TB := ⟨q456, q457⟩
theorem kX2_passDays : ax_kM yX2_passDays cX2_passDays 4 (some .int) 1 := ⟨q76, q462, ⟨by decide, by decide, rfl⟩, Nat.le_of_ble_eq_true rfl⟩
theorem iX2_passDays : Cond.instanceMethod yX2_passDays ∈ TB ∧ Cond.selects (yX2_passDays).cls yX2_passDays yX2_passDays ∈ TB := ⟨q460, q461⟩
theorem kX2_passDay : ax_kM yX2_passDay cX2_passDay 4 (some .int) 0 := ⟨q76, q466, ⟨by decide, by decide, rfl⟩, Nat.le_of_ble_eq_true rfl⟩
theorem iX2_passDay : Cond.instanceMethod yX2_passDay ∈ TB ∧ Cond.selects (yX2_passDay).cls yX2_passDay yX2_passDay ∈ TB := ⟨q465, p8⟩
theorem kX0_waitOneDay : ax_kM yX0_waitOneDay cX0_waitOneDay 4 (some .int) 1 := ⟨q78, q470, ⟨by decide, by decide, rfl⟩, Nat.le_of_ble_eq_true rfl⟩
theorem iX0_waitOneDay : Cond.instanceMethod yX0_waitOneDay ∈ TB ∧ Cond.selects (yX0_waitOneDay).cls yX0_waitOneDay yX0_waitOneDay ∈ TB := ⟨q468, q469⟩
theorem kX0_waitLonger : ax_kM yX0_waitLonger cX0_waitLonger 3 none 2 := ⟨q78, q475, ⟨by decide, by decide, rfl⟩, Nat.le_of_ble_eq_true rfl⟩
theorem iX0_waitLonger : Cond.instanceMethod yX0_waitLonger ∈ TB ∧ Cond.selects (yX0_waitLonger).cls yX0_waitLonger yX0_waitLonger ∈ TB := ⟨q474, p9⟩
theorem kX2_countDay : ax_kM yX2_countDay cX2_countDay 2 (some .int) 1 := ⟨q76, q480, ⟨by decide, by decide, rfl⟩, Nat.le_of_ble_eq_true rfl⟩
theorem iX2_countDay : Cond.instanceMethod yX2_countDay ∈ TB ∧ Cond.selects (yX2_countDay).cls yX2_countDay yX2_countDay ∈ TB := ⟨q479, p10⟩
theorem kX4_of : ax_kM yX4_of cX4_of 3 (some .int) 2 := ⟨q75, q484, ⟨by decide, by decide, rfl⟩, Nat.le_of_ble_eq_true rfl⟩
theorem iX4_of : Cond.instanceMethod yX4_of ∈ TB ∧ Cond.selects (yX4_of).cls yX4_of yX4_of ∈ TB := ⟨q482, q483⟩
theorem kX2_aboutLot : ax_kM yX2_aboutLot cX2_aboutLot 3 (some .int) 2 := ⟨q76, q488, ⟨by decide, by decide, rfl⟩, Nat.le_of_ble_eq_true rfl⟩
theorem iX2_aboutLot : Cond.instanceMethod yX2_aboutLot ∈ TB ∧ Cond.selects (yX2_aboutLot).cls yX2_aboutLot yX2_aboutLot ∈ TB := ⟨q486, q487⟩
theorem kX4_ofClaim : ax_kM yX4_ofClaim cX4_ofClaim 3 (some .int) 2 := ⟨q75, q494, ⟨by decide, by decide, rfl⟩, Nat.le_of_ble_eq_true rfl⟩
theorem iX4_ofClaim : Cond.instanceMethod yX4_ofClaim ∈ TB ∧ Cond.selects (yX4_ofClaim).cls yX4_ofClaim yX4_ofClaim ∈ TB := ⟨q492, q493⟩
theorem kX2_aboutClaim : ax_kM yX2_aboutClaim cX2_aboutClaim 3 (some .int) 2 := ⟨q76, q498, ⟨by decide, by decide, rfl⟩, Nat.le_of_ble_eq_true rfl⟩
theorem iX2_aboutClaim : Cond.instanceMethod yX2_aboutClaim ∈ TB ∧ Cond.selects (yX2_aboutClaim).cls yX2_aboutClaim yX2_aboutClaim ∈ TB := ⟨q496, q497⟩
theorem kX4_heir : ax_kM yX4_heir cX4_heir 3 (some .int) 2 := ⟨q75, q502, ⟨by decide, by decide, rfl⟩, Nat.le_of_ble_eq_true rfl⟩
theorem iX4_heir : Cond.instanceMethod yX4_heir ∈ TB ∧ Cond.selects (yX4_heir).cls yX4_heir yX4_heir ∈ TB := ⟨q500, q501⟩
theorem kX2_aboutHeir : ax_kM yX2_aboutHeir cX2_aboutHeir 3 (some .int) 2 := ⟨q76, q506, ⟨by decide, by decide, rfl⟩, Nat.le_of_ble_eq_true rfl⟩
theorem iX2_aboutHeir : Cond.instanceMethod yX2_aboutHeir ∈ TB ∧ Cond.selects (yX2_aboutHeir).cls yX2_aboutHeir yX2_aboutHeir ∈ TB := ⟨q504, q505⟩
theorem kX0_thatBrought : ax_kM yX0_thatBrought cX0_thatBrought 1 (some .int) 0 := ⟨q78, q511, ⟨by decide, by decide, rfl⟩, Nat.le_of_ble_eq_true rfl⟩
theorem iX0_thatBrought : Cond.instanceMethod yX0_thatBrought ∈ TB ∧ Cond.selects (yX0_thatBrought).cls yX0_thatBrought yX0_thatBrought ∈ TB := ⟨q509, q510⟩
theorem kX0_all : ax_kM yX0_all cX0_all 1 (some .int) 0 := ⟨q78, q515, ⟨by decide, by decide, rfl⟩, Nat.le_of_ble_eq_true rfl⟩
theorem iX0_all : Cond.instanceMethod yX0_all ∈ TB ∧ Cond.selects (yX0_all).cls yX0_all yX0_all ∈ TB := ⟨q513, q514⟩
theorem kX4_firstOnes : ax_kM yX4_firstOnes cX4_firstOnes 1 (some .int) 1 := ⟨q75, q518, ⟨by decide, by decide, rfl⟩, Nat.le_of_ble_eq_true rfl⟩
theorem kX4_numbersIn : ax_kM yX4_numbersIn cX4_numbersIn 4 (some .int) 2 := ⟨q75, q521, ⟨by decide, by decide, rfl⟩, Nat.le_of_ble_eq_true rfl⟩
theorem kX4_paid : ax_kM yX4_paid cX4_paid 2 (some .int) 1 := ⟨q75, q525, ⟨by decide, by decide, rfl⟩, Nat.le_of_ble_eq_true rfl⟩
theorem iX4_paid : Cond.instanceMethod yX4_paid ∈ TB ∧ Cond.selects (yX4_paid).cls yX4_paid yX4_paid ∈ TB := ⟨q523, q524⟩
theorem kX2_heirPaid : ax_kM yX2_heirPaid cX2_heirPaid 2 (some .int) 1 := ⟨q76, q529, ⟨by decide, by decide, rfl⟩, Nat.le_of_ble_eq_true rfl⟩
theorem iX2_heirPaid : Cond.instanceMethod yX2_heirPaid ∈ TB ∧ Cond.selects (yX2_heirPaid).cls yX2_heirPaid yX2_heirPaid ∈ TB := ⟨q527, q528⟩
theorem kX4_count : ax_kM yX4_count cX4_count 2 (some .int) 1 := ⟨q75, q533, ⟨by decide, by decide, rfl⟩, Nat.le_of_ble_eq_true rfl⟩
theorem iX4_count : Cond.instanceMethod yX4_count ∈ TB ∧ Cond.selects (yX4_count).cls yX4_count yX4_count ∈ TB := ⟨q531, q532⟩
theorem kX2_number : ax_kM yX2_number cX2_number 2 (some .int) 1 := ⟨q76, q537, ⟨by decide, by decide, rfl⟩, Nat.le_of_ble_eq_true rfl⟩
theorem iX2_number : Cond.instanceMethod yX2_number ∈ TB ∧ Cond.selects (yX2_number).cls yX2_number yX2_number ∈ TB := ⟨q535, q536⟩
theorem kX1_all : ax_kM yX1_all cX1_all 1 (some .int) 0 := ⟨q77, q541, ⟨by decide, by decide, rfl⟩, Nat.le_of_ble_eq_true rfl⟩
theorem iX1_all : Cond.instanceMethod yX1_all ∈ TB ∧ Cond.selects (yX1_all).cls yX1_all yX1_all ∈ TB := ⟨q539, q540⟩
theorem kX4_why : ax_kM yX4_why cX4_why 2 (some .int) 1 := ⟨q75, q547, ⟨by decide, by decide, rfl⟩, Nat.le_of_ble_eq_true rfl⟩
theorem iX4_why : Cond.instanceMethod yX4_why ∈ TB ∧ Cond.selects (yX4_why).cls yX4_why yX4_why ∈ TB := ⟨q545, q546⟩
theorem kX2_whyNot : ax_kM yX2_whyNot cX2_whyNot 2 (some .int) 1 := ⟨q76, q551, ⟨by decide, by decide, rfl⟩, Nat.le_of_ble_eq_true rfl⟩
theorem iX2_whyNot : Cond.instanceMethod yX2_whyNot ∈ TB ∧ Cond.selects (yX2_whyNot).cls yX2_whyNot yX2_whyNot ∈ TB := ⟨q549, q550⟩
theorem kX4_fallsIn : ax_kM yX4_fallsIn cX4_fallsIn 2 (some .int) 1 := ⟨q75, q555, ⟨by decide, by decide, rfl⟩, Nat.le_of_ble_eq_true rfl⟩
theorem iX4_fallsIn : Cond.instanceMethod yX4_fallsIn ∈ TB ∧ Cond.selects (yX4_fallsIn).cls yX4_fallsIn yX4_fallsIn ∈ TB := ⟨q553, q554⟩
theorem kX2_daysToFall : ax_kM yX2_daysToFall cX2_daysToFall 2 (some .int) 1 := ⟨q76, q559, ⟨by decide, by decide, rfl⟩, Nat.le_of_ble_eq_true rfl⟩
theorem iX2_daysToFall : Cond.instanceMethod yX2_daysToFall ∈ TB ∧ Cond.selects (yX2_daysToFall).cls yX2_daysToFall yX2_daysToFall ∈ TB := ⟨q557, q558⟩
theorem kX2_idleDays : ax_kM yX2_idleDays cX2_idleDays 5 (some .int) 1 := ⟨q76, q563, ⟨by decide, by decide, rfl⟩, Nat.le_of_ble_eq_true rfl⟩
theorem iX2_idleDays : Cond.instanceMethod yX2_idleDays ∈ TB ∧ Cond.selects (yX2_idleDays).cls yX2_idleDays yX2_idleDays ∈ TB := ⟨q562, p11⟩
theorem kX2_daysToLapse : ax_kM yX2_daysToLapse cX2_daysToLapse 2 (some .int) 1 := ⟨q76, q567, ⟨by decide, by decide, rfl⟩, Nat.le_of_ble_eq_true rfl⟩
theorem iX2_daysToLapse : Cond.instanceMethod yX2_daysToLapse ∈ TB ∧ Cond.selects (yX2_daysToLapse).cls yX2_daysToLapse yX2_daysToLapse ∈ TB := ⟨q566, p12⟩
theorem kX4_share : ax_kM yX4_share cX4_share 4 (some .int) 3 := ⟨q75, q574, ⟨by decide, by decide, rfl⟩, Nat.le_of_ble_eq_true rfl⟩
theorem iX4_share : Cond.instanceMethod yX4_share ∈ TB ∧ Cond.selects (yX4_share).cls yX4_share yX4_share ∈ TB := ⟨q572, q573⟩
theorem kX2_wouldGet : ax_kM yX2_wouldGet cX2_wouldGet 5 (some .int) 3 := ⟨q76, q578, ⟨by decide, by decide, rfl⟩, Nat.le_of_ble_eq_true rfl⟩
theorem iX2_wouldGet : Cond.instanceMethod yX2_wouldGet ∈ TB ∧ Cond.selects (yX2_wouldGet).cls yX2_wouldGet yX2_wouldGet ∈ TB := ⟨q576, q577⟩
theorem kX4_nextFall : ax_kM yX4_nextFall cX4_nextFall 2 (some .int) 1 := ⟨q75, q582, ⟨by decide, by decide, rfl⟩, Nat.le_of_ble_eq_true rfl⟩
theorem iX4_nextFall : Cond.instanceMethod yX4_nextFall ∈ TB ∧ Cond.selects (yX4_nextFall).cls yX4_nextFall yX4_nextFall ∈ TB := ⟨q580, q581⟩
theorem kX2_firstFall : ax_kM yX2_firstFall cX2_firstFall 6 (some .int) 1 := ⟨q76, q586, ⟨by decide, by decide, rfl⟩, Nat.le_of_ble_eq_true rfl⟩
theorem iX2_firstFall : Cond.instanceMethod yX2_firstFall ∈ TB ∧ Cond.selects (yX2_firstFall).cls yX2_firstFall yX2_firstFall ∈ TB := ⟨q584, q585⟩
theorem kX4_nextLapse : ax_kM yX4_nextLapse cX4_nextLapse 2 (some .int) 1 := ⟨q75, q591, ⟨by decide, by decide, rfl⟩, Nat.le_of_ble_eq_true rfl⟩
theorem iX4_nextLapse : Cond.instanceMethod yX4_nextLapse ∈ TB ∧ Cond.selects (yX4_nextLapse).cls yX4_nextLapse yX4_nextLapse ∈ TB := ⟨q589, q590⟩
theorem kX2_firstLapse : ax_kM yX2_firstLapse cX2_firstLapse 4 (some .int) 1 := ⟨q76, q595, ⟨by decide, by decide, rfl⟩, Nat.le_of_ble_eq_true rfl⟩
theorem iX2_firstLapse : Cond.instanceMethod yX2_firstLapse ∈ TB ∧ Cond.selects (yX2_firstLapse).cls yX2_firstLapse yX2_firstLapse ∈ TB := ⟨q593, q594⟩
theorem kX2_lapsesAhead : ax_kM yX2_lapsesAhead cX2_lapsesAhead 5 (some .boolean) 2 := ⟨q76, q599, ⟨by decide, by decide, rfl⟩, Nat.le_of_ble_eq_true rfl⟩
theorem iX2_lapsesAhead : Cond.instanceMethod yX2_lapsesAhead ∈ TB ∧ Cond.selects (yX2_lapsesAhead).cls yX2_lapsesAhead yX2_lapsesAhead ∈ TB := ⟨q598, p13⟩
theorem kX4_put : ax_kM yX4_put cX4_put 3 (some .int) 1 := ⟨q75, q603, ⟨by decide, by decide, rfl⟩, Nat.le_of_ble_eq_true rfl⟩
theorem iX4_put : Cond.instanceMethod yX4_put ∈ TB ∧ Cond.selects (yX4_put).cls yX4_put yX4_put ∈ TB := ⟨q601, q602⟩
theorem kX3_append : ax_kM yX3_append cX3_append 5 (some .int) 1 := ⟨q81, q607, ⟨by decide, by decide, rfl⟩, Nat.le_of_ble_eq_true rfl⟩
theorem iX3_append : Cond.instanceMethod yX3_append ∈ TB ∧ Cond.selects (yX3_append).cls yX3_append yX3_append ∈ TB := ⟨q605, q606⟩
theorem kX3_charactersIn : ax_kM yX3_charactersIn cX3_charactersIn 4 (some .int) 1 := ⟨q81, q610, ⟨by decide, by decide, rfl⟩, Nat.le_of_ble_eq_true rfl⟩
theorem kX3_codeAt : ax_kM yX3_codeAt cX3_codeAt 3 (some .int) 2 := ⟨q81, q613, ⟨by decide, by decide, rfl⟩, Nat.le_of_ble_eq_true rfl⟩
theorem kX4_wipe : ax_kM yX4_wipe cX4_wipe 1 (some .int) 0 := ⟨q75, q617, ⟨by decide, by decide, rfl⟩, Nat.le_of_ble_eq_true rfl⟩
theorem iX4_wipe : Cond.instanceMethod yX4_wipe ∈ TB ∧ Cond.selects (yX4_wipe).cls yX4_wipe yX4_wipe ∈ TB := ⟨q615, q616⟩
theorem kX3_empty : ax_kM yX3_empty cX3_empty 2 (some .int) 0 := ⟨q81, q621, ⟨by decide, by decide, rfl⟩, Nat.le_of_ble_eq_true rfl⟩
theorem iX3_empty : Cond.instanceMethod yX3_empty ∈ TB ∧ Cond.selects (yX3_empty).cls yX3_empty yX3_empty ∈ TB := ⟨q619, q620⟩
theorem kX4_fault : ax_kM yX4_fault cX4_fault 1 (some .int) 0 := ⟨q75, q625, ⟨by decide, by decide, rfl⟩, Nat.le_of_ble_eq_true rfl⟩
theorem iX4_fault : Cond.instanceMethod yX4_fault ∈ TB ∧ Cond.selects (yX4_fault).cls yX4_fault yX4_fault ∈ TB := ⟨q623, q624⟩
theorem kX3_firstFault : ax_kM yX3_firstFault cX3_firstFault 3 (some .int) 0 := ⟨q81, q629, ⟨by decide, by decide, rfl⟩, Nat.le_of_ble_eq_true rfl⟩
theorem iX3_firstFault : Cond.instanceMethod yX3_firstFault ∈ TB ∧ Cond.selects (yX3_firstFault).cls yX3_firstFault yX3_firstFault ∈ TB := ⟨q627, q628⟩
theorem kX3_readOrder : ax_kM yX3_readOrder cX3_readOrder 1 (some .boolean) 0 := ⟨q81, q633, ⟨by decide, by decide, rfl⟩, Nat.le_of_ble_eq_true rfl⟩
theorem iX3_readOrder : Cond.instanceMethod yX3_readOrder ∈ TB ∧ Cond.selects (yX3_readOrder).cls yX3_readOrder yX3_readOrder ∈ TB := ⟨q631, q632⟩
theorem kX3_readFirst : ax_kM yX3_readFirst cX3_readFirst 1 (some .boolean) 0 := ⟨q81, q637, ⟨by decide, by decide, rfl⟩, Nat.le_of_ble_eq_true rfl⟩
theorem iX3_readFirst : Cond.instanceMethod yX3_readFirst ∈ TB ∧ Cond.selects (yX3_readFirst).cls yX3_readFirst yX3_readFirst ∈ TB := ⟨q636, p14⟩
theorem kX3_readNumber : ax_kM yX3_readNumber cX3_readNumber 4 (some .int) 0 := ⟨q81, q641, ⟨by decide, by decide, rfl⟩, Nat.le_of_ble_eq_true rfl⟩
theorem iX3_readNumber : Cond.instanceMethod yX3_readNumber ∈ TB ∧ Cond.selects (yX3_readNumber).cls yX3_readNumber yX3_readNumber ∈ TB := ⟨q640, p15⟩
theorem kX3_readDigit : ax_kM yX3_readDigit cX3_readDigit 2 (some .int) 0 := ⟨q81, q645, ⟨by decide, by decide, rfl⟩, Nat.le_of_ble_eq_true rfl⟩
theorem iX3_readDigit : Cond.instanceMethod yX3_readDigit ∈ TB ∧ Cond.selects (yX3_readDigit).cls yX3_readDigit yX3_readDigit ∈ TB := ⟨q644, p16⟩
theorem kX3_readSign : ax_kM yX3_readSign cX3_readSign 2 (some .boolean) 1 := ⟨q81, q649, ⟨by decide, by decide, rfl⟩, Nat.le_of_ble_eq_true rfl⟩
theorem iX3_readSign : Cond.instanceMethod yX3_readSign ∈ TB ∧ Cond.selects (yX3_readSign).cls yX3_readSign yX3_readSign ∈ TB := ⟨q647, q648⟩
theorem kX3_readSecond : ax_kM yX3_readSecond cX3_readSecond 1 (some .boolean) 0 := ⟨q81, q653, ⟨by decide, by decide, rfl⟩, Nat.le_of_ble_eq_true rfl⟩
theorem iX3_readSecond : Cond.instanceMethod yX3_readSecond ∈ TB ∧ Cond.selects (yX3_readSecond).cls yX3_readSecond yX3_readSecond ∈ TB := ⟨q652, p17⟩
theorem kX3_readThird : ax_kM yX3_readThird cX3_readThird 1 (some .boolean) 0 := ⟨q81, q657, ⟨by decide, by decide, rfl⟩, Nat.le_of_ble_eq_true rfl⟩
theorem iX3_readThird : Cond.instanceMethod yX3_readThird ∈ TB ∧ Cond.selects (yX3_readThird).cls yX3_readThird yX3_readThird ∈ TB := ⟨q656, p18⟩
theorem kX4_carryOut : ax_kM yX4_carryOut cX4_carryOut 2 (some .int) 0 := ⟨q75, q661, ⟨by decide, by decide, rfl⟩, Nat.le_of_ble_eq_true rfl⟩
theorem iX4_carryOut : Cond.instanceMethod yX4_carryOut ∈ TB ∧ Cond.selects (yX4_carryOut).cls yX4_carryOut yX4_carryOut ∈ TB := ⟨q659, q660⟩
theorem kX4_carryOutOrder : ax_kM yX4_carryOutOrder cX4_carryOutOrder 1 (some .int) 0 := ⟨q75, q666, ⟨by decide, by decide, rfl⟩, Nat.le_of_ble_eq_true rfl⟩
theorem iX4_carryOutOrder : Cond.instanceMethod yX4_carryOutOrder ∈ TB ∧ Cond.selects (yX4_carryOutOrder).cls yX4_carryOutOrder yX4_carryOutOrder ∈ TB := ⟨q665, p19⟩
theorem kX4_undo : ax_kM yX4_undo cX4_undo 1 (some .int) 0 := ⟨q75, q671, ⟨by decide, by decide, rfl⟩, Nat.le_of_ble_eq_true rfl⟩
theorem iX4_undo : Cond.instanceMethod yX4_undo ∈ TB ∧ Cond.selects (yX4_undo).cls yX4_undo yX4_undo ∈ TB := ⟨q669, q670⟩
theorem kX4_save : ax_kM yX4_save cX4_save 2 (some .int) 1 := ⟨q75, q675, ⟨by decide, by decide, rfl⟩, Nat.le_of_ble_eq_true rfl⟩
theorem iX4_save : Cond.instanceMethod yX4_save ∈ TB ∧ Cond.selects (yX4_save).cls yX4_save yX4_save ∈ TB := ⟨q673, q674⟩
theorem kX4_restore : ax_kM yX4_restore cX4_restore 2 (some .int) 1 := ⟨q75, q679, ⟨by decide, by decide, rfl⟩, Nat.le_of_ble_eq_true rfl⟩
theorem iX4_restore : Cond.instanceMethod yX4_restore ∈ TB ∧ Cond.selects (yX4_restore).cls yX4_restore yX4_restore ∈ TB := ⟨q677, q678⟩
theorem kX5_init : ax_kM yX5_init cX5_init 1 none 0 := ⟨q82, q684, ⟨by decide, by decide, rfl⟩, Nat.le_of_ble_eq_true rfl⟩
theorem kX5_undo : ax_kM yX5_undo cX5_undo 1 (some .int) 0 := ⟨q82, q723, ⟨by decide, by decide, rfl⟩, Nat.le_of_ble_eq_true rfl⟩
theorem iX5_undo : Cond.instanceMethod yX5_undo ∈ TB ∧ Cond.selects (yX5_undo).cls yX5_undo yX5_undo ∈ TB := ⟨q721, q722⟩
theorem kX5_copyState : ax_kM yX5_copyState cX5_copyState 5 none 4 := ⟨q82, q726, ⟨by decide, by decide, rfl⟩, Nat.le_of_ble_eq_true rfl⟩
theorem kX5_save : ax_kM yX5_save cX5_save 2 (some .int) 1 := ⟨q82, q730, ⟨by decide, by decide, rfl⟩, Nat.le_of_ble_eq_true rfl⟩
theorem iX5_save : Cond.instanceMethod yX5_save ∈ TB ∧ Cond.selects (yX5_save).cls yX5_save yX5_save ∈ TB := ⟨q728, q729⟩
theorem kX5_in : ax_kM yX5_in cX5_in 3 (some .boolean) 3 := ⟨q82, q733, ⟨by decide, by decide, rfl⟩, Nat.le_of_ble_eq_true rfl⟩
theorem kX5_restore : ax_kM yX5_restore cX5_restore 2 (some .int) 1 := ⟨q82, q737, ⟨by decide, by decide, rfl⟩, Nat.le_of_ble_eq_true rfl⟩
theorem iX5_restore : Cond.instanceMethod yX5_restore ∈ TB ∧ Cond.selects (yX5_restore).cls yX5_restore yX5_restore ∈ TB := ⟨q735, q736⟩
theorem kX5_record : ax_kM yX5_record cX5_record 2 none 0 := ⟨q82, q741, ⟨by decide, by decide, rfl⟩, Nat.le_of_ble_eq_true rfl⟩
theorem iX5_record : Cond.instanceMethod yX5_record ∈ TB ∧ Cond.selects (yX5_record).cls yX5_record yX5_record ∈ TB := ⟨q740, p20⟩
theorem kX5_set : ax_kM yX5_set cX5_set 4 (some .int) 2 := ⟨q82, q745, ⟨by decide, by decide, rfl⟩, Nat.le_of_ble_eq_true rfl⟩
theorem iX5_set : Cond.instanceMethod yX5_set ∈ TB ∧ Cond.selects (yX5_set).cls yX5_set yX5_set ∈ TB := ⟨q743, q744⟩
theorem kX5_isValue : ax_kM yX5_isValue cX5_isValue 2 (some .boolean) 2 := ⟨q82, q748, ⟨by decide, by decide, rfl⟩, Nat.le_of_ble_eq_true rfl⟩
theorem kX5_lot : ax_kM yX5_lot cX5_lot 3 (some .int) 1 := ⟨q82, q752, ⟨by decide, by decide, rfl⟩, Nat.le_of_ble_eq_true rfl⟩
theorem iX5_lot : Cond.instanceMethod yX5_lot ∈ TB ∧ Cond.selects (yX5_lot).cls yX5_lot yX5_lot ∈ TB := ⟨q750, q751⟩
theorem kX5_whyNotLot : ax_kM yX5_whyNotLot cX5_whyNotLot 2 (some .int) 1 := ⟨q82, q756, ⟨by decide, by decide, rfl⟩, Nat.le_of_ble_eq_true rfl⟩
theorem iX5_whyNotLot : Cond.instanceMethod yX5_whyNotLot ∈ TB ∧ Cond.selects (yX5_whyNotLot).cls yX5_whyNotLot yX5_whyNotLot ∈ TB := ⟨q755, p21⟩
theorem kX5_lotNow : ax_kM yX5_lotNow cX5_lotNow 3 (some .int) 1 := ⟨q82, q760, ⟨by decide, by decide, rfl⟩, Nat.le_of_ble_eq_true rfl⟩
theorem iX5_lotNow : Cond.instanceMethod yX5_lotNow ∈ TB ∧ Cond.selects (yX5_lotNow).cls yX5_lotNow yX5_lotNow ∈ TB := ⟨q759, p22⟩
theorem kX5_layLot : ax_kM yX5_layLot cX5_layLot 4 none 3 := ⟨q82, q764, ⟨by decide, by decide, rfl⟩, Nat.le_of_ble_eq_true rfl⟩
theorem iX5_layLot : Cond.instanceMethod yX5_layLot ∈ TB ∧ Cond.selects (yX5_layLot).cls yX5_layLot yX5_layLot ∈ TB := ⟨q763, p23⟩
theorem kX5_notice : ax_kM yX5_notice cX5_notice 3 (some .int) 1 := ⟨q82, q768, ⟨by decide, by decide, rfl⟩, Nat.le_of_ble_eq_true rfl⟩
theorem iX5_notice : Cond.instanceMethod yX5_notice ∈ TB ∧ Cond.selects (yX5_notice).cls yX5_notice yX5_notice ∈ TB := ⟨q766, q767⟩
theorem kX5_whyNotNotice : ax_kM yX5_whyNotNotice cX5_whyNotNotice 2 (some .int) 1 := ⟨q82, q772, ⟨by decide, by decide, rfl⟩, Nat.le_of_ble_eq_true rfl⟩
theorem iX5_whyNotNotice : Cond.instanceMethod yX5_whyNotNotice ∈ TB ∧ Cond.selects (yX5_whyNotNotice).cls yX5_whyNotNotice yX5_whyNotNotice ∈ TB := ⟨q771, p24⟩
theorem kX5_isLot : ax_kM yX5_isLot cX5_isLot 2 (some .boolean) 1 := ⟨q82, q776, ⟨by decide, by decide, rfl⟩, Nat.le_of_ble_eq_true rfl⟩
theorem iX5_isLot : Cond.instanceMethod yX5_isLot ∈ TB ∧ Cond.selects (yX5_isLot).cls yX5_isLot yX5_isLot ∈ TB := ⟨q775, p25⟩
theorem kX5_lotOf : ax_kM yX5_lotOf cX5_lotOf 3 (some .int) 2 := ⟨q82, q780, ⟨by decide, by decide, rfl⟩, Nat.le_of_ble_eq_true rfl⟩
theorem iX5_lotOf : Cond.instanceMethod yX5_lotOf ∈ TB ∧ Cond.selects (yX5_lotOf).cls yX5_lotOf yX5_lotOf ∈ TB := ⟨q779, p26⟩
theorem kX5_noticeNow : ax_kM yX5_noticeNow cX5_noticeNow 2 (some .int) 1 := ⟨q82, q784, ⟨by decide, by decide, rfl⟩, Nat.le_of_ble_eq_true rfl⟩
theorem iX5_noticeNow : Cond.instanceMethod yX5_noticeNow ∈ TB ∧ Cond.selects (yX5_noticeNow).cls yX5_noticeNow yX5_noticeNow ∈ TB := ⟨q783, p27⟩
theorem kX5_lotsThatAre : ax_kM yX5_lotsThatAre cX5_lotsThatAre 4 (some .int) 1 := ⟨q82, q788, ⟨by decide, by decide, rfl⟩, Nat.le_of_ble_eq_true rfl⟩
theorem iX5_lotsThatAre : Cond.instanceMethod yX5_lotsThatAre ∈ TB ∧ Cond.selects (yX5_lotsThatAre).cls yX5_lotsThatAre yX5_lotsThatAre ∈ TB := ⟨q787, p28⟩
theorem kX5_size : ax_kM yX5_size cX5_size 3 (some .int) 1 := ⟨q82, q791, ⟨by decide, by decide, rfl⟩, Nat.le_of_ble_eq_true rfl⟩
theorem kX5_claim : ax_kM yX5_claim cX5_claim 5 (some .int) 3 := ⟨q82, q795, ⟨by decide, by decide, rfl⟩, Nat.le_of_ble_eq_true rfl⟩
theorem iX5_claim : Cond.instanceMethod yX5_claim ∈ TB ∧ Cond.selects (yX5_claim).cls yX5_claim yX5_claim ∈ TB := ⟨q793, q794⟩
theorem kX5_whyNotClaim : ax_kM yX5_whyNotClaim cX5_whyNotClaim 5 (some .int) 3 := ⟨q82, q799, ⟨by decide, by decide, rfl⟩, Nat.le_of_ble_eq_true rfl⟩
theorem iX5_whyNotClaim : Cond.instanceMethod yX5_whyNotClaim ∈ TB ∧ Cond.selects (yX5_whyNotClaim).cls yX5_whyNotClaim yX5_whyNotClaim ∈ TB := ⟨q798, p29⟩
theorem kX5_isHeir : ax_kM yX5_isHeir cX5_isHeir 1 (some .boolean) 1 := ⟨q82, q802, ⟨by decide, by decide, rfl⟩, Nat.le_of_ble_eq_true rfl⟩
theorem kX5_isEnded : ax_kM yX5_isEnded cX5_isEnded 2 (some .boolean) 1 := ⟨q82, q806, ⟨by decide, by decide, rfl⟩, Nat.le_of_ble_eq_true rfl⟩
theorem iX5_isEnded : Cond.instanceMethod yX5_isEnded ∈ TB ∧ Cond.selects (yX5_isEnded).cls yX5_isEnded yX5_isEnded ∈ TB := ⟨q805, p30⟩
theorem kX5_claims : ax_kM yX5_claims cX5_claims 5 (some .boolean) 2 := ⟨q82, q810, ⟨by decide, by decide, rfl⟩, Nat.le_of_ble_eq_true rfl⟩
theorem iX5_claims : Cond.instanceMethod yX5_claims ∈ TB ∧ Cond.selects (yX5_claims).cls yX5_claims yX5_claims ∈ TB := ⟨q809, p31⟩
theorem kX5_claimOf : ax_kM yX5_claimOf cX5_claimOf 3 (some .int) 2 := ⟨q82, q814, ⟨by decide, by decide, rfl⟩, Nat.le_of_ble_eq_true rfl⟩
theorem iX5_claimOf : Cond.instanceMethod yX5_claimOf ∈ TB ∧ Cond.selects (yX5_claimOf).cls yX5_claimOf yX5_claimOf ∈ TB := ⟨q813, p32⟩
theorem kX5_stands : ax_kM yX5_stands cX5_stands 2 (some .boolean) 1 := ⟨q82, q818, ⟨by decide, by decide, rfl⟩, Nat.le_of_ble_eq_true rfl⟩
theorem iX5_stands : Cond.instanceMethod yX5_stands ∈ TB ∧ Cond.selects (yX5_stands).cls yX5_stands yX5_stands ∈ TB := ⟨q817, p33⟩
theorem kX5_claimNow : ax_kM yX5_claimNow cX5_claimNow 6 (some .int) 3 := ⟨q82, q822, ⟨by decide, by decide, rfl⟩, Nat.le_of_ble_eq_true rfl⟩
theorem iX5_claimNow : Cond.instanceMethod yX5_claimNow ∈ TB ∧ Cond.selects (yX5_claimNow).cls yX5_claimNow yX5_claimNow ∈ TB := ⟨q821, p34⟩
theorem kX5_layClaim : ax_kM yX5_layClaim cX5_layClaim 4 none 3 := ⟨q82, q826, ⟨by decide, by decide, rfl⟩, Nat.le_of_ble_eq_true rfl⟩
theorem iX5_layClaim : Cond.instanceMethod yX5_layClaim ∈ TB ∧ Cond.selects (yX5_layClaim).cls yX5_layClaim yX5_layClaim ∈ TB := ⟨q825, p35⟩
theorem kX5_prove : ax_kM yX5_prove cX5_prove 4 (some .int) 2 := ⟨q82, q830, ⟨by decide, by decide, rfl⟩, Nat.le_of_ble_eq_true rfl⟩
theorem iX5_prove : Cond.instanceMethod yX5_prove ∈ TB ∧ Cond.selects (yX5_prove).cls yX5_prove yX5_prove ∈ TB := ⟨q828, q829⟩
theorem kX5_whyNotProve : ax_kM yX5_whyNotProve cX5_whyNotProve 3 (some .int) 2 := ⟨q82, q834, ⟨by decide, by decide, rfl⟩, Nat.le_of_ble_eq_true rfl⟩
theorem iX5_whyNotProve : Cond.instanceMethod yX5_whyNotProve ∈ TB ∧ Cond.selects (yX5_whyNotProve).cls yX5_whyNotProve yX5_whyNotProve ∈ TB := ⟨q833, p36⟩
theorem kX5_isClaim : ax_kM yX5_isClaim cX5_isClaim 2 (some .boolean) 1 := ⟨q82, q838, ⟨by decide, by decide, rfl⟩, Nat.le_of_ble_eq_true rfl⟩
theorem iX5_isClaim : Cond.instanceMethod yX5_isClaim ∈ TB ∧ Cond.selects (yX5_isClaim).cls yX5_isClaim yX5_isClaim ∈ TB := ⟨q837, p37⟩
theorem kX5_whyNotOpen : ax_kM yX5_whyNotOpen cX5_whyNotOpen 2 (some .int) 1 := ⟨q82, q842, ⟨by decide, by decide, rfl⟩, Nat.le_of_ble_eq_true rfl⟩
theorem iX5_whyNotOpen : Cond.instanceMethod yX5_whyNotOpen ∈ TB ∧ Cond.selects (yX5_whyNotOpen).cls yX5_whyNotOpen yX5_whyNotOpen ∈ TB := ⟨q841, p38⟩
theorem kX5_proveNow : ax_kM yX5_proveNow cX5_proveNow 4 (some .int) 2 := ⟨q82, q846, ⟨by decide, by decide, rfl⟩, Nat.le_of_ble_eq_true rfl⟩
theorem iX5_proveNow : Cond.instanceMethod yX5_proveNow ∈ TB ∧ Cond.selects (yX5_proveNow).cls yX5_proveNow yX5_proveNow ∈ TB := ⟨q845, p39⟩
theorem kX5_decide : ax_kM yX5_decide cX5_decide 3 (some .int) 1 := ⟨q82, q850, ⟨by decide, by decide, rfl⟩, Nat.le_of_ble_eq_true rfl⟩
theorem iX5_decide : Cond.instanceMethod yX5_decide ∈ TB ∧ Cond.selects (yX5_decide).cls yX5_decide yX5_decide ∈ TB := ⟨q848, q849⟩
theorem kX5_whyNotDecide : ax_kM yX5_whyNotDecide cX5_whyNotDecide 2 (some .int) 1 := ⟨q82, q854, ⟨by decide, by decide, rfl⟩, Nat.le_of_ble_eq_true rfl⟩
theorem iX5_whyNotDecide : Cond.instanceMethod yX5_whyNotDecide ∈ TB ∧ Cond.selects (yX5_whyNotDecide).cls yX5_whyNotDecide yX5_whyNotDecide ∈ TB := ⟨q853, p40⟩
theorem kX5_decideNow : ax_kM yX5_decideNow cX5_decideNow 2 (some .int) 1 := ⟨q82, q858, ⟨by decide, by decide, rfl⟩, Nat.le_of_ble_eq_true rfl⟩
theorem iX5_decideNow : Cond.instanceMethod yX5_decideNow ∈ TB ∧ Cond.selects (yX5_decideNow).cls yX5_decideNow yX5_decideNow ∈ TB := ⟨q857, p41⟩
theorem kX5_withdraw : ax_kM yX5_withdraw cX5_withdraw 3 (some .int) 1 := ⟨q82, q862, ⟨by decide, by decide, rfl⟩, Nat.le_of_ble_eq_true rfl⟩
theorem iX5_withdraw : Cond.instanceMethod yX5_withdraw ∈ TB ∧ Cond.selects (yX5_withdraw).cls yX5_withdraw yX5_withdraw ∈ TB := ⟨q860, q861⟩
theorem kX5_whyNotWithdraw : ax_kM yX5_whyNotWithdraw cX5_whyNotWithdraw 2 (some .int) 1 := ⟨q82, q866, ⟨by decide, by decide, rfl⟩, Nat.le_of_ble_eq_true rfl⟩
theorem iX5_whyNotWithdraw : Cond.instanceMethod yX5_whyNotWithdraw ∈ TB ∧ Cond.selects (yX5_whyNotWithdraw).cls yX5_whyNotWithdraw yX5_whyNotWithdraw ∈ TB := ⟨q865, p42⟩
theorem kX5_withdrawNow : ax_kM yX5_withdrawNow cX5_withdrawNow 2 (some .int) 1 := ⟨q82, q870, ⟨by decide, by decide, rfl⟩, Nat.le_of_ble_eq_true rfl⟩
theorem iX5_withdrawNow : Cond.instanceMethod yX5_withdrawNow ∈ TB ∧ Cond.selects (yX5_withdrawNow).cls yX5_withdrawNow yX5_withdrawNow ∈ TB := ⟨q869, p43⟩
theorem kX5_standing : ax_kM yX5_standing cX5_standing 2 (some .int) 1 := ⟨q82, q874, ⟨by decide, by decide, rfl⟩, Nat.le_of_ble_eq_true rfl⟩
theorem iX5_standing : Cond.instanceMethod yX5_standing ∈ TB ∧ Cond.selects (yX5_standing).cls yX5_standing yX5_standing ∈ TB := ⟨q873, p44⟩
theorem kX5_claimsTo : ax_kM yX5_claimsTo cX5_claimsTo 5 (some .int) 2 := ⟨q82, q878, ⟨by decide, by decide, rfl⟩, Nat.le_of_ble_eq_true rfl⟩
theorem iX5_claimsTo : Cond.instanceMethod yX5_claimsTo ∈ TB ∧ Cond.selects (yX5_claimsTo).cls yX5_claimsTo yX5_claimsTo ∈ TB := ⟨q877, p45⟩
theorem kX5_settle : ax_kM yX5_settle cX5_settle 3 (some .int) 1 := ⟨q82, q882, ⟨by decide, by decide, rfl⟩, Nat.le_of_ble_eq_true rfl⟩
theorem iX5_settle : Cond.instanceMethod yX5_settle ∈ TB ∧ Cond.selects (yX5_settle).cls yX5_settle yX5_settle ∈ TB := ⟨q880, q881⟩
theorem kX5_whyNotSettle : ax_kM yX5_whyNotSettle cX5_whyNotSettle 2 (some .int) 1 := ⟨q82, q886, ⟨by decide, by decide, rfl⟩, Nat.le_of_ble_eq_true rfl⟩
theorem iX5_whyNotSettle : Cond.instanceMethod yX5_whyNotSettle ∈ TB ∧ Cond.selects (yX5_whyNotSettle).cls yX5_whyNotSettle yX5_whyNotSettle ∈ TB := ⟨q885, p46⟩
theorem kX5_settleNow : ax_kM yX5_settleNow cX5_settleNow 7 (some .int) 1 := ⟨q82, q890, ⟨by decide, by decide, rfl⟩, Nat.le_of_ble_eq_true rfl⟩
theorem iX5_settleNow : Cond.instanceMethod yX5_settleNow ∈ TB ∧ Cond.selects (yX5_settleNow).cls yX5_settleNow yX5_settleNow ∈ TB := ⟨q889, p47⟩
theorem kX5_nearestOnes : ax_kM yX5_nearestOnes cX5_nearestOnes 5 (some .int) 1 := ⟨q82, q894, ⟨by decide, by decide, rfl⟩, Nat.le_of_ble_eq_true rfl⟩
theorem iX5_nearestOnes : Cond.instanceMethod yX5_nearestOnes ∈ TB ∧ Cond.selects (yX5_nearestOnes).cls yX5_nearestOnes yX5_nearestOnes ∈ TB := ⟨q893, p48⟩
theorem kX5_nearest : ax_kM yX5_nearest cX5_nearest 5 (some .int) 1 := ⟨q82, q898, ⟨by decide, by decide, rfl⟩, Nat.le_of_ble_eq_true rfl⟩
theorem iX5_nearest : Cond.instanceMethod yX5_nearest ∈ TB ∧ Cond.selects (yX5_nearest).cls yX5_nearest yX5_nearest ∈ TB := ⟨q897, p49⟩
theorem kX5_shared : ax_kM yX5_shared cX5_shared 3 (some .int) 1 := ⟨q82, q902, ⟨by decide, by decide, rfl⟩, Nat.le_of_ble_eq_true rfl⟩
theorem iX5_shared : Cond.instanceMethod yX5_shared ∈ TB ∧ Cond.selects (yX5_shared).cls yX5_shared yX5_shared ∈ TB := ⟨q901, p50⟩
theorem kX5_part : ax_kM yX5_part cX5_part 5 (some .int) 3 := ⟨q82, q905, ⟨by decide, by decide, rfl⟩, Nat.le_of_ble_eq_true rfl⟩
theorem kX5_pay : ax_kM yX5_pay cX5_pay 4 none 2 := ⟨q82, q909, ⟨by decide, by decide, rfl⟩, Nat.le_of_ble_eq_true rfl⟩
theorem iX5_pay : Cond.instanceMethod yX5_pay ∈ TB ∧ Cond.selects (yX5_pay).cls yX5_pay yX5_pay ∈ TB := ⟨q908, p51⟩
theorem kX5_isPaid : ax_kM yX5_isPaid cX5_isPaid 4 (some .boolean) 1 := ⟨q82, q913, ⟨by decide, by decide, rfl⟩, Nat.le_of_ble_eq_true rfl⟩
theorem iX5_isPaid : Cond.instanceMethod yX5_isPaid ∈ TB ∧ Cond.selects (yX5_isPaid).cls yX5_isPaid yX5_isPaid ∈ TB := ⟨q912, p52⟩
theorem kX5_pass : ax_kM yX5_pass cX5_pass 3 (some .int) 1 := ⟨q82, q917, ⟨by decide, by decide, rfl⟩, Nat.le_of_ble_eq_true rfl⟩
theorem iX5_pass : Cond.instanceMethod yX5_pass ∈ TB ∧ Cond.selects (yX5_pass).cls yX5_pass yX5_pass ∈ TB := ⟨q915, q916⟩
theorem kX5_whyNotPass : ax_kM yX5_whyNotPass cX5_whyNotPass 2 (some .int) 1 := ⟨q82, q921, ⟨by decide, by decide, rfl⟩, Nat.le_of_ble_eq_true rfl⟩
theorem iX5_whyNotPass : Cond.instanceMethod yX5_whyNotPass ∈ TB ∧ Cond.selects (yX5_whyNotPass).cls yX5_whyNotPass yX5_whyNotPass ∈ TB := ⟨q920, p53⟩
theorem kX5_passNow : ax_kM yX5_passNow cX5_passNow 4 (some .int) 1 := ⟨q82, q925, ⟨by decide, by decide, rfl⟩, Nat.le_of_ble_eq_true rfl⟩
theorem iX5_passNow : Cond.instanceMethod yX5_passNow ∈ TB ∧ Cond.selects (yX5_passNow).cls yX5_passNow yX5_passNow ∈ TB := ⟨q924, p54⟩
theorem kX5_dayNow : ax_kM yX5_dayNow cX5_dayNow 3 (some .int) 0 := ⟨q82, q929, ⟨by decide, by decide, rfl⟩, Nat.le_of_ble_eq_true rfl⟩
theorem iX5_dayNow : Cond.instanceMethod yX5_dayNow ∈ TB ∧ Cond.selects (yX5_dayNow).cls yX5_dayNow yX5_dayNow ∈ TB := ⟨q928, p55⟩
theorem kX5_dayOf : ax_kM yX5_dayOf cX5_dayOf 5 (some .boolean) 1 := ⟨q82, q933, ⟨by decide, by decide, rfl⟩, Nat.le_of_ble_eq_true rfl⟩
theorem iX5_dayOf : Cond.instanceMethod yX5_dayOf ∈ TB ∧ Cond.selects (yX5_dayOf).cls yX5_dayOf yX5_dayOf ∈ TB := ⟨q932, p56⟩
theorem kX5_of : ax_kM yX5_of cX5_of 3 (some .int) 2 := ⟨q82, q937, ⟨by decide, by decide, rfl⟩, Nat.le_of_ble_eq_true rfl⟩
theorem iX5_of : Cond.instanceMethod yX5_of ∈ TB ∧ Cond.selects (yX5_of).cls yX5_of yX5_of ∈ TB := ⟨q935, q936⟩
theorem kX5_allClaimsTo : ax_kM yX5_allClaimsTo cX5_allClaimsTo 4 (some .int) 1 := ⟨q82, q941, ⟨by decide, by decide, rfl⟩, Nat.le_of_ble_eq_true rfl⟩
theorem iX5_allClaimsTo : Cond.instanceMethod yX5_allClaimsTo ∈ TB ∧ Cond.selects (yX5_allClaimsTo).cls yX5_allClaimsTo yX5_allClaimsTo ∈ TB := ⟨q940, p57⟩
theorem kX5_ofClaim : ax_kM yX5_ofClaim cX5_ofClaim 3 (some .int) 2 := ⟨q82, q945, ⟨by decide, by decide, rfl⟩, Nat.le_of_ble_eq_true rfl⟩
theorem iX5_ofClaim : Cond.instanceMethod yX5_ofClaim ∈ TB ∧ Cond.selects (yX5_ofClaim).cls yX5_ofClaim yX5_ofClaim ∈ TB := ⟨q943, q944⟩
theorem kX5_heir : ax_kM yX5_heir cX5_heir 3 (some .int) 2 := ⟨q82, q949, ⟨by decide, by decide, rfl⟩, Nat.le_of_ble_eq_true rfl⟩
theorem iX5_heir : Cond.instanceMethod yX5_heir ∈ TB ∧ Cond.selects (yX5_heir).cls yX5_heir yX5_heir ∈ TB := ⟨q947, q948⟩
theorem kX5_claimsOf : ax_kM yX5_claimsOf cX5_claimsOf 5 (some .int) 2 := ⟨q82, q953, ⟨by decide, by decide, rfl⟩, Nat.le_of_ble_eq_true rfl⟩
theorem iX5_claimsOf : Cond.instanceMethod yX5_claimsOf ∈ TB ∧ Cond.selects (yX5_claimsOf).cls yX5_claimsOf yX5_claimsOf ∈ TB := ⟨q952, p58⟩
theorem kX5_lotsGot : ax_kM yX5_lotsGot cX5_lotsGot 4 (some .int) 1 := ⟨q82, q957, ⟨by decide, by decide, rfl⟩, Nat.le_of_ble_eq_true rfl⟩
theorem iX5_lotsGot : Cond.instanceMethod yX5_lotsGot ∈ TB ∧ Cond.selects (yX5_lotsGot).cls yX5_lotsGot yX5_lotsGot ∈ TB := ⟨q956, p59⟩
theorem kX5_paid : ax_kM yX5_paid cX5_paid 2 (some .int) 1 := ⟨q82, q961, ⟨by decide, by decide, rfl⟩, Nat.le_of_ble_eq_true rfl⟩
theorem iX5_paid : Cond.instanceMethod yX5_paid ∈ TB ∧ Cond.selects (yX5_paid).cls yX5_paid yX5_paid ∈ TB := ⟨q959, q960⟩
theorem kX5_count : ax_kM yX5_count cX5_count 2 (some .int) 1 := ⟨q82, q965, ⟨by decide, by decide, rfl⟩, Nat.le_of_ble_eq_true rfl⟩
theorem iX5_count : Cond.instanceMethod yX5_count ∈ TB ∧ Cond.selects (yX5_count).cls yX5_count yX5_count ∈ TB := ⟨q963, q964⟩
theorem kX5_valueOf : ax_kM yX5_valueOf cX5_valueOf 4 (some .int) 1 := ⟨q82, q969, ⟨by decide, by decide, rfl⟩, Nat.le_of_ble_eq_true rfl⟩
theorem iX5_valueOf : Cond.instanceMethod yX5_valueOf ∈ TB ∧ Cond.selects (yX5_valueOf).cls yX5_valueOf yX5_valueOf ∈ TB := ⟨q968, p60⟩
theorem kX5_purses : ax_kM yX5_purses cX5_purses 3 (some .int) 0 := ⟨q82, q973, ⟨by decide, by decide, rfl⟩, Nat.le_of_ble_eq_true rfl⟩
theorem iX5_purses : Cond.instanceMethod yX5_purses ∈ TB ∧ Cond.selects (yX5_purses).cls yX5_purses yX5_purses ∈ TB := ⟨q972, p61⟩
theorem kX5_standingClaims : ax_kM yX5_standingClaims cX5_standingClaims 3 (some .int) 0 := ⟨q82, q977, ⟨by decide, by decide, rfl⟩, Nat.le_of_ble_eq_true rfl⟩
theorem iX5_standingClaims : Cond.instanceMethod yX5_standingClaims ∈ TB ∧ Cond.selects (yX5_standingClaims).cls yX5_standingClaims yX5_standingClaims ∈ TB := ⟨q976, p62⟩
theorem kX5_heirsWhoClaimed : ax_kM yX5_heirsWhoClaimed cX5_heirsWhoClaimed 3 (some .int) 0 := ⟨q82, q981, ⟨by decide, by decide, rfl⟩, Nat.le_of_ble_eq_true rfl⟩
theorem iX5_heirsWhoClaimed : Cond.instanceMethod yX5_heirsWhoClaimed ∈ TB ∧ Cond.selects (yX5_heirsWhoClaimed).cls yX5_heirsWhoClaimed yX5_heirsWhoClaimed ∈ TB := ⟨q980, p63⟩
theorem kX5_why : ax_kM yX5_why cX5_why 2 (some .int) 1 := ⟨q82, q985, ⟨by decide, by decide, rfl⟩, Nat.le_of_ble_eq_true rfl⟩
theorem iX5_why : Cond.instanceMethod yX5_why ∈ TB ∧ Cond.selects (yX5_why).cls yX5_why yX5_why ∈ TB := ⟨q983, q984⟩
theorem kX5_fallsIn : ax_kM yX5_fallsIn cX5_fallsIn 2 (some .int) 1 := ⟨q82, q989, ⟨by decide, by decide, rfl⟩, Nat.le_of_ble_eq_true rfl⟩
theorem iX5_fallsIn : Cond.instanceMethod yX5_fallsIn ∈ TB ∧ Cond.selects (yX5_fallsIn).cls yX5_fallsIn yX5_fallsIn ∈ TB := ⟨q987, q988⟩
theorem kX5_daysToFall : ax_kM yX5_daysToFall cX5_daysToFall 4 (some .int) 1 := ⟨q82, q993, ⟨by decide, by decide, rfl⟩, Nat.le_of_ble_eq_true rfl⟩
theorem iX5_daysToFall : Cond.instanceMethod yX5_daysToFall ∈ TB ∧ Cond.selects (yX5_daysToFall).cls yX5_daysToFall yX5_daysToFall ∈ TB := ⟨q992, p64⟩
theorem kX5_share : ax_kM yX5_share cX5_share 4 (some .int) 3 := ⟨q82, q997, ⟨by decide, by decide, rfl⟩, Nat.le_of_ble_eq_true rfl⟩
theorem iX5_share : Cond.instanceMethod yX5_share ∈ TB ∧ Cond.selects (yX5_share).cls yX5_share yX5_share ∈ TB := ⟨q995, q996⟩
theorem kX5_shareOf : ax_kM yX5_shareOf cX5_shareOf 7 (some .int) 3 := ⟨q82, q1001, ⟨by decide, by decide, rfl⟩, Nat.le_of_ble_eq_true rfl⟩
theorem iX5_shareOf : Cond.instanceMethod yX5_shareOf ∈ TB ∧ Cond.selects (yX5_shareOf).cls yX5_shareOf yX5_shareOf ∈ TB := ⟨q1000, p65⟩
theorem kX5_nextFall : ax_kM yX5_nextFall cX5_nextFall 7 (some .int) 1 := ⟨q82, q1005, ⟨by decide, by decide, rfl⟩, Nat.le_of_ble_eq_true rfl⟩
theorem iX5_nextFall : Cond.instanceMethod yX5_nextFall ∈ TB ∧ Cond.selects (yX5_nextFall).cls yX5_nextFall yX5_nextFall ∈ TB := ⟨q1003, q1004⟩
theorem kX5_nextLapse : ax_kM yX5_nextLapse cX5_nextLapse 5 (some .int) 1 := ⟨q82, q1009, ⟨by decide, by decide, rfl⟩, Nat.le_of_ble_eq_true rfl⟩
theorem iX5_nextLapse : Cond.instanceMethod yX5_nextLapse ∈ TB ∧ Cond.selects (yX5_nextLapse).cls yX5_nextLapse yX5_nextLapse ∈ TB := ⟨q1007, q1008⟩
theorem kX5_lapsesIn : ax_kM yX5_lapsesIn cX5_lapsesIn 3 (some .int) 1 := ⟨q82, q1013, ⟨by decide, by decide, rfl⟩, Nat.le_of_ble_eq_true rfl⟩
theorem iX5_lapsesIn : Cond.instanceMethod yX5_lapsesIn ∈ TB ∧ Cond.selects (yX5_lapsesIn).cls yX5_lapsesIn yX5_lapsesIn ∈ TB := ⟨q1012, p66⟩
theorem kX5_put : ax_kM yX5_put cX5_put 7 (some .int) 1 := ⟨q82, q1017, ⟨by decide, by decide, rfl⟩, Nat.le_of_ble_eq_true rfl⟩
theorem iX5_put : Cond.instanceMethod yX5_put ∈ TB ∧ Cond.selects (yX5_put).cls yX5_put yX5_put ∈ TB := ⟨q1015, q1016⟩
theorem kX5_wipe : ax_kM yX5_wipe cX5_wipe 2 (some .int) 0 := ⟨q82, q1022, ⟨by decide, by decide, rfl⟩, Nat.le_of_ble_eq_true rfl⟩
theorem iX5_wipe : Cond.instanceMethod yX5_wipe ∈ TB ∧ Cond.selects (yX5_wipe).cls yX5_wipe yX5_wipe ∈ TB := ⟨q1020, q1021⟩
theorem kX5_fault : ax_kM yX5_fault cX5_fault 1 (some .int) 0 := ⟨q82, q1026, ⟨by decide, by decide, rfl⟩, Nat.le_of_ble_eq_true rfl⟩
theorem iX5_fault : Cond.instanceMethod yX5_fault ∈ TB ∧ Cond.selects (yX5_fault).cls yX5_fault yX5_fault ∈ TB := ⟨q1024, q1025⟩
theorem kX5_readPad : ax_kM yX5_readPad cX5_readPad 2 (some .boolean) 0 := ⟨q82, q1030, ⟨by decide, by decide, rfl⟩, Nat.le_of_ble_eq_true rfl⟩
theorem iX5_readPad : Cond.instanceMethod yX5_readPad ∈ TB ∧ Cond.selects (yX5_readPad).cls yX5_readPad yX5_readPad ∈ TB := ⟨q1029, p67⟩
theorem kX5_readOrder : ax_kM yX5_readOrder cX5_readOrder 5 (some .boolean) 0 := ⟨q82, q1034, ⟨by decide, by decide, rfl⟩, Nat.le_of_ble_eq_true rfl⟩
theorem iX5_readOrder : Cond.instanceMethod yX5_readOrder ∈ TB ∧ Cond.selects (yX5_readOrder).cls yX5_readOrder yX5_readOrder ∈ TB := ⟨q1033, p68⟩
theorem kX5_isLetter : ax_kM yX5_isLetter cX5_isLetter 1 (some .boolean) 1 := ⟨q82, q1037, ⟨by decide, by decide, rfl⟩, Nat.le_of_ble_eq_true rfl⟩
theorem kX5_number : ax_kM yX5_number cX5_number 3 (some .int) 1 := ⟨q82, q1041, ⟨by decide, by decide, rfl⟩, Nat.le_of_ble_eq_true rfl⟩
theorem iX5_number : Cond.instanceMethod yX5_number ∈ TB ∧ Cond.selects (yX5_number).cls yX5_number yX5_number ∈ TB := ⟨q1040, p69⟩
theorem kX5_sees : ax_kM yX5_sees cX5_sees 3 (some .boolean) 2 := ⟨q82, q1045, ⟨by decide, by decide, rfl⟩, Nat.le_of_ble_eq_true rfl⟩
theorem iX5_sees : Cond.instanceMethod yX5_sees ∈ TB ∧ Cond.selects (yX5_sees).cls yX5_sees yX5_sees ∈ TB := ⟨q1044, p70⟩
theorem kX5_takes : ax_kM yX5_takes cX5_takes 3 (some .boolean) 1 := ⟨q82, q1049, ⟨by decide, by decide, rfl⟩, Nat.le_of_ble_eq_true rfl⟩
theorem iX5_takes : Cond.instanceMethod yX5_takes ∈ TB ∧ Cond.selects (yX5_takes).cls yX5_takes yX5_takes ∈ TB := ⟨q1048, p71⟩
theorem kX5_carryOut : ax_kM yX5_carryOut cX5_carryOut 2 (some .int) 0 := ⟨q82, q1053, ⟨by decide, by decide, rfl⟩, Nat.le_of_ble_eq_true rfl⟩
theorem iX5_carryOut : Cond.instanceMethod yX5_carryOut ∈ TB ∧ Cond.selects (yX5_carryOut).cls yX5_carryOut yX5_carryOut ∈ TB := ⟨q1051, q1052⟩
theorem kX5_whyNot : ax_kM yX5_whyNot cX5_whyNot 3 (some .int) 1 := ⟨q82, q1057, ⟨by decide, by decide, rfl⟩, Nat.le_of_ble_eq_true rfl⟩
theorem iX5_whyNot : Cond.instanceMethod yX5_whyNot ∈ TB ∧ Cond.selects (yX5_whyNot).cls yX5_whyNot yX5_whyNot ∈ TB := ⟨q1056, p72⟩
theorem kX5_doOrder : ax_kM yX5_doOrder cX5_doOrder 3 (some .int) 1 := ⟨q82, q1061, ⟨by decide, by decide, rfl⟩, Nat.le_of_ble_eq_true rfl⟩
theorem iX5_doOrder : Cond.instanceMethod yX5_doOrder ∈ TB ∧ Cond.selects (yX5_doOrder).cls yX5_doOrder yX5_doOrder ∈ TB := ⟨q1060, p73⟩
theorem fX1_9 : ax_fl RX1 9 1 0 .int false := ⟨(RX1, TX1, 5), rfl, Nat.le_of_ble_eq_true rfl, q104, rfl, rfl, rfl⟩
theorem fX2_62 : ax_fl RX2 62 1 0 .int false := ⟨(RX1, TX1, 5), rfl, Nat.le_of_ble_eq_true rfl, q105, rfl, rfl, rfl⟩
theorem fX4_153 : ax_fl RX4 153 1 0 .int false := ⟨(RX1, TX1, 5), rfl, Nat.le_of_ble_eq_true rfl, q106, rfl, rfl, rfl⟩
theorem fX1_15 : ax_fl RX1 15 1 1 (.array .int) true := ⟨(RX1, TX1, 5), rfl, Nat.le_of_ble_eq_true rfl, q107, rfl, rfl, rfl⟩
theorem fX2_65 : ax_fl RX2 65 1 1 (.array .int) true := ⟨(RX1, TX1, 5), rfl, Nat.le_of_ble_eq_true rfl, q108, rfl, rfl, rfl⟩
theorem fX1_19 : ax_fl RX1 19 1 2 (.array .int) true := ⟨(RX1, TX1, 5), rfl, Nat.le_of_ble_eq_true rfl, q109, rfl, rfl, rfl⟩
theorem fX2_72 : ax_fl RX2 72 1 2 (.array .int) true := ⟨(RX1, TX1, 5), rfl, Nat.le_of_ble_eq_true rfl, q110, rfl, rfl, rfl⟩
theorem fX1_22 : ax_fl RX1 22 1 3 (.array .int) true := ⟨(RX1, TX1, 5), rfl, Nat.le_of_ble_eq_true rfl, q111, rfl, rfl, rfl⟩
theorem fX2_175 : ax_fl RX2 175 1 3 (.array .int) true := ⟨(RX1, TX1, 5), rfl, Nat.le_of_ble_eq_true rfl, q112, rfl, rfl, rfl⟩
theorem fX1_25 : ax_fl RX1 25 1 4 (.array .int) true := ⟨(RX1, TX1, 5), rfl, Nat.le_of_ble_eq_true rfl, q113, rfl, rfl, rfl⟩
theorem fX2_106 : ax_fl RX2 106 1 4 (.array .int) true := ⟨(RX1, TX1, 5), rfl, Nat.le_of_ble_eq_true rfl, q114, rfl, rfl, rfl⟩
theorem fX0_9 : ax_fl RX0 9 0 0 .int false := ⟨(RX0, TX0, 8), rfl, Nat.le_of_ble_eq_true rfl, q133, rfl, rfl, rfl⟩
theorem fX2_96 : ax_fl RX2 96 0 0 .int false := ⟨(RX0, TX0, 8), rfl, Nat.le_of_ble_eq_true rfl, q134, rfl, rfl, rfl⟩
theorem fX0_15 : ax_fl RX0 15 0 1 (.array .int) true := ⟨(RX0, TX0, 8), rfl, Nat.le_of_ble_eq_true rfl, q135, rfl, rfl, rfl⟩
theorem fX2_97 : ax_fl RX2 97 0 1 (.array .int) true := ⟨(RX0, TX0, 8), rfl, Nat.le_of_ble_eq_true rfl, q136, rfl, rfl, rfl⟩
theorem fX0_19 : ax_fl RX0 19 0 2 (.array .int) true := ⟨(RX0, TX0, 8), rfl, Nat.le_of_ble_eq_true rfl, q137, rfl, rfl, rfl⟩
theorem fX2_100 : ax_fl RX2 100 0 2 (.array .int) true := ⟨(RX0, TX0, 8), rfl, Nat.le_of_ble_eq_true rfl, q138, rfl, rfl, rfl⟩
theorem fX0_22 : ax_fl RX0 22 0 3 (.array .int) true := ⟨(RX0, TX0, 8), rfl, Nat.le_of_ble_eq_true rfl, q139, rfl, rfl, rfl⟩
theorem fX2_103 : ax_fl RX2 103 0 3 (.array .int) true := ⟨(RX0, TX0, 8), rfl, Nat.le_of_ble_eq_true rfl, q140, rfl, rfl, rfl⟩
theorem fX0_25 : ax_fl RX0 25 0 4 (.array .int) true := ⟨(RX0, TX0, 8), rfl, Nat.le_of_ble_eq_true rfl, q141, rfl, rfl, rfl⟩
theorem fX2_116 : ax_fl RX2 116 0 4 (.array .int) true := ⟨(RX0, TX0, 8), rfl, Nat.le_of_ble_eq_true rfl, q142, rfl, rfl, rfl⟩
theorem fX0_28 : ax_fl RX0 28 0 5 (.array .int) true := ⟨(RX0, TX0, 8), rfl, Nat.le_of_ble_eq_true rfl, q143, rfl, rfl, rfl⟩
theorem fX2_128 : ax_fl RX2 128 0 5 (.array .int) true := ⟨(RX0, TX0, 8), rfl, Nat.le_of_ble_eq_true rfl, q144, rfl, rfl, rfl⟩
theorem fX0_31 : ax_fl RX0 31 0 6 (.array .int) true := ⟨(RX0, TX0, 8), rfl, Nat.le_of_ble_eq_true rfl, q145, rfl, rfl, rfl⟩
theorem fX2_125 : ax_fl RX2 125 0 6 (.array .int) true := ⟨(RX0, TX0, 8), rfl, Nat.le_of_ble_eq_true rfl, q146, rfl, rfl, rfl⟩
theorem fX0_34 : ax_fl RX0 34 0 7 (.array .int) true := ⟨(RX0, TX0, 8), rfl, Nat.le_of_ble_eq_true rfl, q147, rfl, rfl, rfl⟩
theorem fX2_162 : ax_fl RX2 162 0 7 (.array .int) true := ⟨(RX0, TX0, 8), rfl, Nat.le_of_ble_eq_true rfl, q148, rfl, rfl, rfl⟩
theorem fX2_9 : ax_fl RX2 9 2 0 (.array .int) true := ⟨(RX2, TX2, 7), rfl, Nat.le_of_ble_eq_true rfl, q177, rfl, rfl, rfl⟩
theorem fX2_18 : ax_fl RX2 18 2 1 (.object "EscheatLots$Lots") true := ⟨(RX2, TX2, 7), rfl, Nat.le_of_ble_eq_true rfl, q178, rfl, rfl, rfl⟩
theorem fX4_149 : ax_fl RX4 149 2 1 (.object "EscheatLots$Lots") true := ⟨(RX2, TX2, 7), rfl, Nat.le_of_ble_eq_true rfl, q179, rfl, rfl, rfl⟩
theorem fX2_25 : ax_fl RX2 25 2 2 (.object "EscheatLots$Claims") true := ⟨(RX2, TX2, 7), rfl, Nat.le_of_ble_eq_true rfl, q180, rfl, rfl, rfl⟩
theorem fX2_29 : ax_fl RX2 29 2 3 (.array .int) true := ⟨(RX2, TX2, 7), rfl, Nat.le_of_ble_eq_true rfl, q181, rfl, rfl, rfl⟩
theorem fX2_32 : ax_fl RX2 32 2 4 .int false := ⟨(RX2, TX2, 7), rfl, Nat.le_of_ble_eq_true rfl, q182, rfl, rfl, rfl⟩
theorem fX2_36 : ax_fl RX2 36 2 5 .int false := ⟨(RX2, TX2, 7), rfl, Nat.le_of_ble_eq_true rfl, q183, rfl, rfl, rfl⟩
theorem fX2_39 : ax_fl RX2 39 2 6 .int false := ⟨(RX2, TX2, 7), rfl, Nat.le_of_ble_eq_true rfl, q184, rfl, rfl, rfl⟩
theorem fX3_9 : ax_fl RX3 9 3 0 (.array .char) true := ⟨(RX3, TX3, 7), rfl, Nat.le_of_ble_eq_true rfl, q206, rfl, rfl, rfl⟩
theorem fX3_15 : ax_fl RX3 15 3 1 .int false := ⟨(RX3, TX3, 7), rfl, Nat.le_of_ble_eq_true rfl, q207, rfl, rfl, rfl⟩
theorem fX4_86 : ax_fl RX4 86 3 1 .int false := ⟨(RX3, TX3, 7), rfl, Nat.le_of_ble_eq_true rfl, q208, rfl, rfl, rfl⟩
theorem fX3_19 : ax_fl RX3 19 3 2 .int false := ⟨(RX3, TX3, 7), rfl, Nat.le_of_ble_eq_true rfl, q209, rfl, rfl, rfl⟩
theorem fX4_118 : ax_fl RX4 118 3 2 .int false := ⟨(RX3, TX3, 7), rfl, Nat.le_of_ble_eq_true rfl, q210, rfl, rfl, rfl⟩
theorem fX3_22 : ax_fl RX3 22 3 3 .char false := ⟨(RX3, TX3, 7), rfl, Nat.le_of_ble_eq_true rfl, q211, rfl, rfl, rfl⟩
theorem fX4_132 : ax_fl RX4 132 3 3 .char false := ⟨(RX3, TX3, 7), rfl, Nat.le_of_ble_eq_true rfl, q212, rfl, rfl, rfl⟩
theorem fX3_26 : ax_fl RX3 26 3 4 .int false := ⟨(RX3, TX3, 7), rfl, Nat.le_of_ble_eq_true rfl, q213, rfl, rfl, rfl⟩
theorem fX4_136 : ax_fl RX4 136 3 4 .int false := ⟨(RX3, TX3, 7), rfl, Nat.le_of_ble_eq_true rfl, q214, rfl, rfl, rfl⟩
theorem fX3_29 : ax_fl RX3 29 3 5 .int false := ⟨(RX3, TX3, 7), rfl, Nat.le_of_ble_eq_true rfl, q215, rfl, rfl, rfl⟩
theorem fX4_139 : ax_fl RX4 139 3 5 .int false := ⟨(RX3, TX3, 7), rfl, Nat.le_of_ble_eq_true rfl, q216, rfl, rfl, rfl⟩
theorem fX3_32 : ax_fl RX3 32 3 6 .int false := ⟨(RX3, TX3, 7), rfl, Nat.le_of_ble_eq_true rfl, q217, rfl, rfl, rfl⟩
theorem fX4_142 : ax_fl RX4 142 3 6 .int false := ⟨(RX3, TX3, 7), rfl, Nat.le_of_ble_eq_true rfl, q218, rfl, rfl, rfl⟩
theorem fX4_10 : ax_fl RX4 10 4 0 (.object "EscheatLots$Office") true := ⟨(RX4, TX4, 6), rfl, Nat.le_of_ble_eq_true rfl, q236, rfl, rfl, rfl⟩
theorem fX4_19 : ax_fl RX4 19 4 1 (.object "EscheatLots$Pad") true := ⟨(RX4, TX4, 6), rfl, Nat.le_of_ble_eq_true rfl, q237, rfl, rfl, rfl⟩
theorem fX4_23 : ax_fl RX4 23 4 2 (.array (.object "EscheatLots$Office")) true := ⟨(RX4, TX4, 6), rfl, Nat.le_of_ble_eq_true rfl, q238, rfl, rfl, rfl⟩
theorem fX4_27 : ax_fl RX4 27 4 3 .int false := ⟨(RX4, TX4, 6), rfl, Nat.le_of_ble_eq_true rfl, q239, rfl, rfl, rfl⟩
theorem fX4_31 : ax_fl RX4 31 4 4 (.array (.object "EscheatLots$Office")) true := ⟨(RX4, TX4, 6), rfl, Nat.le_of_ble_eq_true rfl, q240, rfl, rfl, rfl⟩
theorem fX4_34 : ax_fl RX4 34 4 5 (.array .boolean) true := ⟨(RX4, TX4, 6), rfl, Nat.le_of_ble_eq_true rfl, q241, rfl, rfl, rfl⟩
theorem fX5_7 : ax_fl RX5 7 5 0 (.array .int) true := ⟨(RX5, TX5, 11), rfl, Nat.le_of_ble_eq_true rfl, q686, rfl, rfl, rfl⟩
theorem fX5_13 : ax_fl RX5 13 5 1 (.array .int) true := ⟨(RX5, TX5, 11), rfl, Nat.le_of_ble_eq_true rfl, q687, rfl, rfl, rfl⟩
theorem fX5_16 : ax_fl RX5 16 5 2 (.array .int) true := ⟨(RX5, TX5, 11), rfl, Nat.le_of_ble_eq_true rfl, q688, rfl, rfl, rfl⟩
theorem fX5_36 : ax_fl RX5 36 5 3 .int false := ⟨(RX5, TX5, 11), rfl, Nat.le_of_ble_eq_true rfl, q689, rfl, rfl, rfl⟩
theorem fX5_19 : ax_fl RX5 19 5 4 (.array .int) true := ⟨(RX5, TX5, 11), rfl, Nat.le_of_ble_eq_true rfl, q690, rfl, rfl, rfl⟩
theorem fX5_22 : ax_fl RX5 22 5 5 (.array .boolean) true := ⟨(RX5, TX5, 11), rfl, Nat.le_of_ble_eq_true rfl, q691, rfl, rfl, rfl⟩
theorem fX5_26 : ax_fl RX5 26 5 6 (.array .int) true := ⟨(RX5, TX5, 11), rfl, Nat.le_of_ble_eq_true rfl, q692, rfl, rfl, rfl⟩
theorem fX5_197 : ax_fl RX5 197 5 7 .int false := ⟨(RX5, TX5, 11), rfl, Nat.le_of_ble_eq_true rfl, q693, rfl, rfl, rfl⟩
theorem fX5_211 : ax_fl RX5 211 5 8 .int false := ⟨(RX5, TX5, 11), rfl, Nat.le_of_ble_eq_true rfl, q694, rfl, rfl, rfl⟩
theorem fX5_29 : ax_fl RX5 29 5 9 (.array .int) true := ⟨(RX5, TX5, 11), rfl, Nat.le_of_ble_eq_true rfl, q695, rfl, rfl, rfl⟩
theorem fX5_226 : ax_fl RX5 226 5 10 .int false := ⟨(RX5, TX5, 11), rfl, Nat.le_of_ble_eq_true rfl, q696, rfl, rfl, rfl⟩
theorem wMax : Cond.static Lib.Math.max.name ∈ TB ∧ Cond.initialized "java/lang/Math" ∈ TB ∧ Cond.code Lib.Math.max.name Lib.Math.max.code 2 (some .int) ∈ TB := ⟨q569, q79, q570⟩
theorem wMin : Cond.static Lib.Math.min.name ∈ TB ∧ Cond.initialized "java/lang/Math" ∈ TB ∧ Cond.code Lib.Math.min.name Lib.Math.min.code 2 (some .int) ∈ TB := ⟨q172, q79, q173⟩
theorem wCopy : Cond.native arraycopyName ∈ TB ∧ Cond.static arraycopyName ∈ TB ∧ Cond.initialized "java/lang/System" ∈ TB := ⟨q176, q175, q80⟩
theorem wObj : Cond.instanceMethod Lib.objectInit ∈ TB ∧ Cond.code Lib.objectInit ⟨#[0xb1]⟩ 1 none ∈ TB := ⟨q90, q91⟩
end
section
/-! what an office is: numbers by row and place. Rows 0 settings, 1 value, 2 state, 3 counted, 4 since, 5 heir, 6 lot, 7 line, 8 proof, 9 state of claims, 10 waited, 11 brought, 12 paidOrder; row 13: lots, claims, paidHeirs, crown, day -/
abbrev Sg : Type := Nat → Nat → Int32
def up2 (σ : Sg) (k j : Nat) (v : Int32) : Sg := fun a b => if a = k ∧ b = j then v else σ a b
theorem up2_s (σ : Sg) (k j : Nat) (v : Int32) : up2 σ k j v k j = v := if_pos ⟨rfl, rfl⟩
theorem up2_k {σ : Sg} {k j a b : Nat} (v : Int32) (h : a ≠ k) : up2 σ k j v a b = σ a b := if_neg (fun q => h q.1)
theorem up2_j {σ : Sg} {k j a b : Nat} (v : Int32) (h : b ≠ j) : up2 σ k j v a b = σ a b := if_neg (fun q => h q.2)
theorem up2_upd (σ : Sg) (k j : Nat) (v : Int32) (i : Nat) : upd (σ k) j v i = up2 σ k j v k i := by
  unfold upd up2
  simp
def RwAt (h : Nat → Option va_E) (t a len : Nat) (g : Nat → Int32) : Prop := ∃ f, h a = some (.inl (t, len, .inl f)) ∧ ∀ i, i < len → f i = g i
/-- what lies outside n cells from o on stays -/
def Fr (o n : Nat) (h h' : Nat → Option va_E) : Prop := ∀ q, (q < o ∨ o + n ≤ q) → h' q = h q
theorem Fr.rf {o n : Nat} {h : Nat → Option va_E} : Fr o n h h := fun _ _ => rfl
theorem Fr.tr {o n : Nat} {h h1 h2 : Nat → Option va_E} (a : Fr o n h h1) (b : Fr o n h1 h2) : Fr o n h h2 := fun q hq => (b q hq).trans (a q hq)
theorem Fr.wide {o n o' n' : Nat} {h h' : Nat → Option va_E} (a : Fr o n h h') (h1 : o' ≤ o) (h2 : o + n ≤ o' + n') : Fr o' n' h h' := fun q hq => a q (by omega)
theorem Fr.set {o n a : Nat} {h : Nat → Option va_E} (e : va_E) (h1 : o ≤ a) (h2 : a < o + n) : Fr o n h (hset h a e) := fun q hq => hset_n e (by omega)
theorem RwAt.kept {h h' : Nat → Option va_E} {t a len : Nat} {g : Nat → Int32} (H : RwAt h t a len g) (e : h' a = h a) : RwAt h' t a len g := by
  obtain ⟨f, h1, h2⟩ := H
  exact ⟨f, e.trans h1, h2⟩
theorem RwAt.to {h : Nat → Option va_E} {t a len : Nat} {g g' : Nat → Int32} (H : RwAt h t a len g) (e : ∀ i, i < len → g i = g' i) : RwAt h t a len g' := by
  obtain ⟨f, h1, h2⟩ := H
  exact ⟨f, h1, fun i hi => (h2 i hi).trans (e i hi)⟩
def LotsAt (h : Nat → Option va_E) (a : Nat) (σ : Sg) : Prop := h a = some (.inr (1, [.int (σ 13 0), .ref (a + 1), .ref (a + 2), .ref (a + 3), .ref (a + 4)])) ∧ RwAt h 0 (a + 1) 12 (σ 1) ∧ RwAt h 0 (a + 2) 12 (σ 2) ∧ RwAt h 0 (a + 3) 12 (σ 3) ∧ RwAt h 0 (a + 4) 12 (σ 4)
def ClaimsAt (h : Nat → Option va_E) (a : Nat) (σ : Sg) : Prop := h a = some (.inr (0, [.int (σ 13 1), .ref (a + 1), .ref (a + 2), .ref (a + 3), .ref (a + 4), .ref (a + 5), .ref (a + 6), .ref (a + 7)])) ∧ RwAt h 0 (a + 1) 30 (σ 5) ∧ RwAt h 0 (a + 2) 30 (σ 6) ∧ RwAt h 0 (a + 3) 30 (σ 7) ∧ RwAt h 0 (a + 4) 30 (σ 8) ∧ RwAt h 0 (a + 5) 30 (σ 9) ∧ RwAt h 0 (a + 6) 30 (σ 10) ∧ RwAt h 0 (a + 7) 30 (σ 11)
def OffAt (h : Nat → Option va_E) (o : Nat) (σ : Sg) : Prop := h o = some (.inr (2, [.ref (o + 1), .ref (o + 2), .ref (o + 7), .ref (o + 15), .int (σ 13 2), .int (σ 13 3), .int (σ 13 4)])) ∧ RwAt h 0 (o + 1) 5 (σ 0) ∧ LotsAt h (o + 2) σ ∧ ClaimsAt h (o + 7) σ ∧ RwAt h 0 (o + 15) 16 (σ 12)
section ST
variable {h h' : Nat → Option va_E} {a o : Nat} {σ : Sg}
theorem LotsAt.ob (H : LotsAt h a σ) : h a = some (.inr (1, [.int (σ 13 0), .ref (a + 1), .ref (a + 2), .ref (a + 3), .ref (a + 4)])) := H.1
theorem LotsAt.r1 (H : LotsAt h a σ) : RwAt h 0 (a + 1) 12 (σ 1) := H.2.1
theorem LotsAt.r2 (H : LotsAt h a σ) : RwAt h 0 (a + 2) 12 (σ 2) := H.2.2.1
theorem LotsAt.r3 (H : LotsAt h a σ) : RwAt h 0 (a + 3) 12 (σ 3) := H.2.2.2.1
theorem LotsAt.r4 (H : LotsAt h a σ) : RwAt h 0 (a + 4) 12 (σ 4) := H.2.2.2.2
theorem ClaimsAt.ob (H : ClaimsAt h a σ) : h a = some (.inr (0, [.int (σ 13 1), .ref (a + 1), .ref (a + 2), .ref (a + 3), .ref (a + 4), .ref (a + 5), .ref (a + 6), .ref (a + 7)])) := H.1
theorem ClaimsAt.r5 (H : ClaimsAt h a σ) : RwAt h 0 (a + 1) 30 (σ 5) := H.2.1
theorem ClaimsAt.r6 (H : ClaimsAt h a σ) : RwAt h 0 (a + 2) 30 (σ 6) := H.2.2.1
theorem ClaimsAt.r7 (H : ClaimsAt h a σ) : RwAt h 0 (a + 3) 30 (σ 7) := H.2.2.2.1
theorem ClaimsAt.r8 (H : ClaimsAt h a σ) : RwAt h 0 (a + 4) 30 (σ 8) := H.2.2.2.2.1
theorem ClaimsAt.r9 (H : ClaimsAt h a σ) : RwAt h 0 (a + 5) 30 (σ 9) := H.2.2.2.2.2.1
theorem ClaimsAt.r10 (H : ClaimsAt h a σ) : RwAt h 0 (a + 6) 30 (σ 10) := H.2.2.2.2.2.2.1
theorem ClaimsAt.r11 (H : ClaimsAt h a σ) : RwAt h 0 (a + 7) 30 (σ 11) := H.2.2.2.2.2.2.2
theorem OffAt.ob (H : OffAt h o σ) : h o = some (.inr (2, [.ref (o + 1), .ref (o + 2), .ref (o + 7), .ref (o + 15), .int (σ 13 2), .int (σ 13 3), .int (σ 13 4)])) := H.1
theorem OffAt.r0 (H : OffAt h o σ) : RwAt h 0 (o + 1) 5 (σ 0) := H.2.1
theorem OffAt.lo (H : OffAt h o σ) : LotsAt h (o + 2) σ := H.2.2.1
theorem OffAt.cl (H : OffAt h o σ) : ClaimsAt h (o + 7) σ := H.2.2.2.1
theorem OffAt.r12 (H : OffAt h o σ) : RwAt h 0 (o + 15) 16 (σ 12) := H.2.2.2.2
theorem LotsAt.kept (H : LotsAt h a σ) (e : ∀ q, a ≤ q → q < a + 5 → h' q = h q) : LotsAt h' a σ := ⟨(e _ (by omega) (by omega)).trans H.1, H.2.1.kept (e _ (by omega) (by omega)), H.2.2.1.kept (e _ (by omega) (by omega)), H.2.2.2.1.kept (e _ (by omega) (by omega)), H.2.2.2.2.kept (e _ (by omega) (by omega))⟩
theorem ClaimsAt.kept (H : ClaimsAt h a σ) (e : ∀ q, a ≤ q → q < a + 8 → h' q = h q) : ClaimsAt h' a σ := ⟨(e _ (by omega) (by omega)).trans H.1, H.2.1.kept (e _ (by omega) (by omega)), H.2.2.1.kept (e _ (by omega) (by omega)), H.2.2.2.1.kept (e _ (by omega) (by omega)), H.2.2.2.2.1.kept (e _ (by omega) (by omega)), H.2.2.2.2.2.1.kept (e _ (by omega) (by omega)), H.2.2.2.2.2.2.1.kept (e _ (by omega) (by omega)), H.2.2.2.2.2.2.2.kept (e _ (by omega) (by omega))⟩
theorem OffAt.kept (H : OffAt h o σ) (e : ∀ q, o ≤ q → q < o + 16 → h' q = h q) : OffAt h' o σ := ⟨(e _ (by omega) (by omega)).trans H.1, H.2.1.kept (e _ (by omega) (by omega)), H.2.2.1.kept (fun q h1 h2 => e q (by omega) (by omega)), H.2.2.2.1.kept (fun q h1 h2 => e q (by omega) (by omega)), H.2.2.2.2.kept (e _ (by omega) (by omega))⟩
theorem OffAt.fr {n o2 : Nat} (H : OffAt h o σ) (f : Fr o2 n h h') (hd : o + 16 ≤ o2 ∨ o2 + n ≤ o) : OffAt h' o σ := H.kept fun q h1 h2 => f q (by omega)
end ST
/-- answers: nothing changed; or an office did -/
def RO (r0 : Option Value) (hp : Hp) : Option Value → Hp → Prop := fun r hp' => r = r0 ∧ hp' = hp
def MO (r0 : Option Value) (z o : Nat) (h : Nat → Option va_E) (σ' : Sg) : Option Value → Hp → Prop := fun r hp' => r = r0 ∧ ∃ h', hp' = (z, h') ∧ OffAt h' o σ' ∧ Fr o 16 h h'
def bI (b : Bool) : Int32 := if b = true then 1 else 0
theorem bI_t : bI true = 1 := rfl
theorem bI_f : bI false = 0 := rfl
theorem bI_ne {b : Bool} (h : ¬ bI b = 0) : b = true := by
  cases b
  · exact absurd rfl h
  · rfl
theorem bI_eq {b : Bool} (h : bI b = 0) : b = false := by
  cases b
  · rfl
  · exact absurd h (by decide)
theorem bI_z (b : Bool) : narrow .boolean (.int (bI b)) = .int (bI b) := by cases b <;> rfl
section STX
variable {st : Nat → Nat} {k : Nat} {y : MethodName} {cc : ByteArray} {nL : Nat} {ret : Option FieldType} {hp0 : Hp} {mc ms : Nat} {fin : Option Value → Hp → Prop} {pc : Nat} {lv stk : List Value} {hp : Hp} {cl sl : Nat}
theorem e_ald {a len j : Nat} {i : Int32} {g : Nat → Int32} (hd : decode cc pc = .ok (.iaload, 1)) (hA : RwAt hp.2 0 a len g) (hi : ax_ix i len j) (h : Ev st k y cc nL ret hp0 mc ms fin (pc + 1) lv (.int (g j) :: stk) hp cl sl) : Ev st k y cc nL ret hp0 mc ms fin pc lv (.int i :: .ref a :: stk) hp cl sl := by
  obtain ⟨f, h1, h2⟩ := hA
  refine x_iald hd h1 hi ?_
  rw [h2 j hi.2.2]
  exact h
theorem e_cald {a len j : Nat} {i : Int32} {g : Nat → Int32} (hd : decode cc pc = .ok (.caload, 1)) (hA : RwAt hp.2 2 a len g) (hi : ax_ix i len j) (h : Ev st k y cc nL ret hp0 mc ms fin (pc + 1) lv (.int (g j) :: stk) hp cl sl) : Ev st k y cc nL ret hp0 mc ms fin pc lv (.int i :: .ref a :: stk) hp cl sl := by
  obtain ⟨f, h1, h2⟩ := hA
  refine x_cald hd h1 hi ?_
  rw [h2 j hi.2.2]
  exact h
theorem e_zald {a len j : Nat} {i : Int32} {g : Nat → Int32} (hd : decode cc pc = .ok (.baload, 1)) (hA : RwAt hp.2 1 a len g) (hi : ax_ix i len j) (h : Ev st k y cc nL ret hp0 mc ms fin (pc + 1) lv (.int (g j) :: stk) hp cl sl) : Ev st k y cc nL ret hp0 mc ms fin pc lv (.int i :: .ref a :: stk) hp cl sl := by
  obtain ⟨f, h1, h2⟩ := hA
  refine x_zald hd h1 hi ?_
  rw [h2 j hi.2.2]
  exact h
theorem e_len {a t len : Nat} {g : Nat → Int32} {v : Int32} (hd : decode cc pc = .ok (.arraylength, 1)) (hA : RwAt hp.2 t a len g) (ht : t < 4) (hv : Int32.ofNat len = v) (h : Ev st k y cc nL ret hp0 mc ms fin (pc + 1) lv (.int v :: stk) hp cl sl) : Ev st k y cc nL ret hp0 mc ms fin pc lv (.ref a :: stk) hp cl sl := by
  obtain ⟨f, h1, h2⟩ := hA
  exact x_alen hd h1 ht hv h
/-- a store into a row of numbers: the row as it is then, all else as it was -/
theorem e_ast {a len j : Nat} {i x : Int32} {g : Nat → Int32} (hd : decode cc pc = .ok (.iastore, 1)) (hA : RwAt hp.2 0 a len g) (hi : ax_ix i len j) (h : ∀ h', RwAt h' 0 a len (upd g j x) → (∀ q, q ≠ a → h' q = hp.2 q) → Ev st k y cc nL ret hp0 mc ms fin (pc + 1) lv stk (hp.1, h') cl sl) : Ev st k y cc nL ret hp0 mc ms fin pc lv (.int x :: .int i :: .ref a :: stk) hp cl sl := by
  obtain ⟨f, h1, h2⟩ := hA
  refine x_iast hd h1 hi (h _ ⟨_, hset_s _ _ _, fun b hb => ?_⟩ (fun q hq => hset_n _ hq))
  unfold upd
  split
  · rfl
  · exact h2 b hb
/-- rows of an office: where they lie, how long they are -/
def oad (o K : Nat) : Nat := match K with
  | 0 => o + 1
  | 1 => o + 2 + 1
  | 2 => o + 2 + 2
  | 3 => o + 2 + 3
  | 4 => o + 2 + 4
  | 5 => o + 7 + 1
  | 6 => o + 7 + 2
  | 7 => o + 7 + 3
  | 8 => o + 7 + 4
  | 9 => o + 7 + 5
  | 10 => o + 7 + 6
  | 11 => o + 7 + 7
  | _ => o + 15
def oln (K : Nat) : Nat := match K with
  | 0 => 5
  | 1 => 12
  | 2 => 12
  | 3 => 12
  | 4 => 12
  | 12 => 16
  | _ => 30
theorem OffAt.row {h : Nat → Option va_E} {o : Nat} {σ : Sg} (H : OffAt h o σ) (K : Nat) (hK : K < 13) : RwAt h 0 (oad o K) (oln K) (σ K) := by
  match K, hK with
  | 0, _ => exact H.r0
  | 1, _ => exact H.lo.r1
  | 2, _ => exact H.lo.r2
  | 3, _ => exact H.lo.r3
  | 4, _ => exact H.lo.r4
  | 5, _ => exact H.cl.r5
  | 6, _ => exact H.cl.r6
  | 7, _ => exact H.cl.r7
  | 8, _ => exact H.cl.r8
  | 9, _ => exact H.cl.r9
  | 10, _ => exact H.cl.r10
  | 11, _ => exact H.cl.r11
  | 12, _ => exact H.r12
theorem OffAt.of {h : Nat → Option va_E} {o : Nat} {σ : Sg} (h1 : h o = some (.inr (2, [.ref (o + 1), .ref (o + 2), .ref (o + 7), .ref (o + 15), .int (σ 13 2), .int (σ 13 3), .int (σ 13 4)]))) (h2 : h (o + 2) = some (.inr (1, [.int (σ 13 0), .ref (o + 2 + 1), .ref (o + 2 + 2), .ref (o + 2 + 3), .ref (o + 2 + 4)]))) (h3 : h (o + 7) = some (.inr (0, [.int (σ 13 1), .ref (o + 7 + 1), .ref (o + 7 + 2), .ref (o + 7 + 3), .ref (o + 7 + 4), .ref (o + 7 + 5), .ref (o + 7 + 6), .ref (o + 7 + 7)]))) (hr : ∀ K, K < 13 → RwAt h 0 (oad o K) (oln K) (σ K)) : OffAt h o σ :=
  ⟨h1, hr 0 (by decide), ⟨h2, hr 1 (by decide), hr 2 (by decide), hr 3 (by decide), hr 4 (by decide)⟩, ⟨h3, hr 5 (by decide), hr 6 (by decide), hr 7 (by decide), hr 8 (by decide), hr 9 (by decide), hr 10 (by decide), hr 11 (by decide)⟩, hr 12 (by decide)⟩
theorem oad_in {o K : Nat} (hK : K < 13) : o < oad o K ∧ oad o K < o + 16 ∧ oad o K ≠ o + 2 ∧ oad o K ≠ o + 7 := by
  match K, hK with
  | 0, _ | 1, _ | 2, _ | 3, _ | 4, _ | 5, _ | 6, _ | 7, _ | 8, _ | 9, _ | 10, _ | 11, _ | 12, _ => simp only [oad]; omega
theorem oad_ne {o K K' : Nat} (hK : K < 13) (hK' : K' < 13) (hne : K ≠ K') : oad o K ≠ oad o K' := by
  have key : ∀ K, K < 13 → oad o K = o + (oad 0 K) := by
    intro K hK
    match K, hK with
    | 0, _ | 1, _ | 2, _ | 3, _ | 4, _ | 5, _ | 6, _ | 7, _ | 8, _ | 9, _ | 10, _ | 11, _ | 12, _ => simp [oad, Nat.add_assoc]
  have k2 : ∀ K, K < 13 → ∀ K', K' < 13 → K ≠ K' → oad 0 K ≠ oad 0 K' := by decide
  have := k2 K hK K' hK' hne
  rw [key K hK, key K' hK']
  omega
/-- a store into a row of an office -/
theorem OffAt.wr {h h' : Nat → Option va_E} {o K j : Nat} {σ : Sg} {x : Int32} (H : OffAt h o σ) (hK : K < 13) (hA : RwAt h' 0 (oad o K) (oln K) (upd (σ K) j x)) (he : ∀ q, q ≠ oad o K → h' q = h q) : OffAt h' o (up2 σ K j x) := by
  obtain ⟨i1, i2, i3, i4⟩ := oad_in (o := o) hK
  have n13 : ∀ b, up2 σ K j x 13 b = σ 13 b := fun b => up2_k x (by omega)
  refine OffAt.of ?_ ?_ ?_ ?_
  · rw [he _ (by omega), n13, n13, n13]; exact H.ob
  · rw [he _ (by omega), n13]; exact H.lo.ob
  · rw [he _ (by omega), n13]; exact H.cl.ob
  · intro K' hK'
    by_cases hk : K' = K
    · subst hk
      exact hA.to fun i _ => up2_upd σ K' j x i
    · have h1 := (H.row K' hK').kept (he _ (oad_ne hK' hK hk))
      exact h1.to fun i _ => (up2_k x hk).symm
theorem e_oast {o K j : Nat} {i x : Int32} {σ : Sg} (hd : decode cc pc = .ok (.iastore, 1)) (H : OffAt hp.2 o σ) (hK : K < 13) (hi : ax_ix i (oln K) j) (h : ∀ h', OffAt h' o (up2 σ K j x) → Fr o 16 hp.2 h' → Ev st k y cc nL ret hp0 mc ms fin (pc + 1) lv stk (hp.1, h') cl sl) : Ev st k y cc nL ret hp0 mc ms fin pc lv (.int x :: .int i :: .ref (oad o K) :: stk) hp cl sl := by
  refine e_ast hd (H.row K hK) hi (fun h' hA he => h h' (H.wr hK hA he) (fun q hq => he q ?_))
  have := oad_in (o := o) hK
  omega
/-- stores into the fields of numbers: paidHeirs, crown, day; lots; claims -/
theorem e_oput {o idx j : Nat} {σ : Sg} {x : Int32} (hd : decode cc pc = .ok (.putfield idx, 3)) (hj : j = 4 ∨ j = 5 ∨ j = 6) (hf : ax_fl y.cls idx 2 j .int false) (H : OffAt hp.2 o σ) (h : ∀ h', OffAt h' o (up2 σ 13 (j - 2) x) → Fr o 16 hp.2 h' → Ev st k y cc nL ret hp0 mc ms fin (pc + 3) lv stk (hp.1, h') cl sl) : Ev st k y cc nL ret hp0 mc ms fin pc lv (.int x :: .ref o :: stk) hp cl sl := by
  refine x_put hd hf H.ob rfl rfl (by rcases hj with rfl | rfl | rfl <;> exact Nat.le_of_ble_eq_true rfl) (h _ ?_ (Fr.set _ (Nat.le_refl o) (by omega)))
  have hr : ∀ K, K < 13 → ∀ b, up2 σ 13 (j - 2) x K b = σ K b := fun K hK b => up2_k x (by omega)
  refine OffAt.of ?_ ?_ ?_ ?_
  · rw [hset_s]
    rcases hj with rfl | rfl | rfl <;> rfl
  · rw [hset_n _ (by omega), up2_j x (by omega)]; exact H.lo.ob
  · rw [hset_n _ (by omega), up2_j x (by omega)]; exact H.cl.ob
  · intro K hK
    obtain ⟨i1, i2, i3, i4⟩ := oad_in (o := o) hK
    exact ((H.row K hK).kept (hset_n _ (by omega))).to fun i _ => (hr K hK i).symm
theorem e_lput {o idx : Nat} {σ : Sg} {x : Int32} (hd : decode cc pc = .ok (.putfield idx, 3)) (hf : ax_fl y.cls idx 1 0 .int false) (H : OffAt hp.2 o σ) (h : ∀ h', OffAt h' o (up2 σ 13 0 x) → Fr o 16 hp.2 h' → Ev st k y cc nL ret hp0 mc ms fin (pc + 3) lv stk (hp.1, h') cl sl) : Ev st k y cc nL ret hp0 mc ms fin pc lv (.int x :: .ref (o + 2) :: stk) hp cl sl := by
  refine x_put hd hf H.lo.ob rfl rfl (Nat.le_of_ble_eq_true rfl) (h _ ?_ (Fr.set _ (by omega) (by omega)))
  have hr : ∀ K, K < 13 → ∀ b, up2 σ 13 0 x K b = σ K b := fun K hK b => up2_k x (by omega)
  refine OffAt.of ?_ ?_ ?_ ?_
  · rw [hset_n _ (by omega), up2_j x (by omega), up2_j x (by omega), up2_j x (by omega)]; exact H.ob
  · rw [hset_s]; rfl
  · rw [hset_n _ (by omega), up2_j x (by omega)]; exact H.cl.ob
  · intro K hK
    obtain ⟨i1, i2, i3, i4⟩ := oad_in (o := o) hK
    exact ((H.row K hK).kept (hset_n _ (by omega))).to fun i _ => (hr K hK i).symm
theorem e_cput {o idx : Nat} {σ : Sg} {x : Int32} (hd : decode cc pc = .ok (.putfield idx, 3)) (hf : ax_fl y.cls idx 0 0 .int false) (H : OffAt hp.2 o σ) (h : ∀ h', OffAt h' o (up2 σ 13 1 x) → Fr o 16 hp.2 h' → Ev st k y cc nL ret hp0 mc ms fin (pc + 3) lv stk (hp.1, h') cl sl) : Ev st k y cc nL ret hp0 mc ms fin pc lv (.int x :: .ref (o + 7) :: stk) hp cl sl := by
  refine x_put hd hf H.cl.ob rfl rfl (Nat.le_of_ble_eq_true rfl) (h _ ?_ (Fr.set _ (by omega) (by omega)))
  have hr : ∀ K, K < 13 → ∀ b, up2 σ 13 1 x K b = σ K b := fun K hK b => up2_k x (by omega)
  refine OffAt.of ?_ ?_ ?_ ?_
  · rw [hset_n _ (by omega), up2_j x (by omega), up2_j x (by omega), up2_j x (by omega)]; exact H.ob
  · rw [hset_n _ (by omega), up2_j x (by omega)]; exact H.lo.ob
  · rw [hset_s]; rfl
  · intro K hK
    obtain ⟨i1, i2, i3, i4⟩ := oad_in (o := o) hK
    exact ((H.row K hK).kept (hset_n _ (by omega))).to fun i _ => (hr K hK i).symm
/-- stores and counts of locals, with a name for the number -/
theorem e_ist_n {i : Fin 4} {x : Int32} {lv' : Int32 → List Value} (hd : decode cc pc = .ok (.istore_n i, 1)) (hn : (i : Nat) < lv.length) (ho : ax_ok lv i = true) (hl : ∀ v, lv.set i (.int v) = lv' v) (h : ∀ v, v = x → Ev st k y cc nL ret hp0 mc ms fin (pc + 1) (lv' v) stk hp cl sl) : Ev st k y cc nL ret hp0 mc ms fin pc lv (.int x :: stk) hp cl sl :=
  x_istore_n hd hn ho (by rw [hl]; exact h x rfl)
theorem e_ist {i : Nat} {x : Int32} {lv' : Int32 → List Value} (hd : decode cc pc = .ok (.istore i, 2)) (hn : i < lv.length) (ho : ax_ok lv i = true) (hl : ∀ v, lv.set i (.int v) = lv' v) (h : ∀ v, v = x → Ev st k y cc nL ret hp0 mc ms fin (pc + 2) (lv' v) stk hp cl sl) : Ev st k y cc nL ret hp0 mc ms fin pc lv (.int x :: stk) hp cl sl :=
  x_istore hd hn ho (by rw [hl]; exact h x rfl)
theorem e_inc {i : Nat} {n : Int} {x : Int32} {lv' : Int32 → List Value} (hd : decode cc pc = .ok (.iinc i n, 3)) (hi : lv[i]? = some (.int x)) (ho : ax_ok lv i = true) (hl : ∀ v, lv.set i (.int v) = lv' v) (h : ∀ v, v = x + Int32.ofInt n → Ev st k y cc nL ret hp0 mc ms fin (pc + 3) (lv' v) stk hp cl sl) : Ev st k y cc nL ret hp0 mc ms fin pc lv stk hp cl sl :=
  x_iinc hd hi rfl ho (by rw [hl]; exact h _ rfl)
theorem e_nm {x : Int32} (h : ∀ v, v = x → Ev st k y cc nL ret hp0 mc ms fin pc lv (.int v :: stk) hp cl sl) : Ev st k y cc nL ret hp0 mc ms fin pc lv (.int x :: stk) hp cl sl := h x rfl
end STX
end
section
/-! calls whose answers are told by RO, MO -/
section CRX
variable {st : Nat → Nat} {k : Nat} {y : MethodName} {cc : ByteArray} {nL : Nat} {ret : Option FieldType} {hp0 : Hp} {mc ms : Nat} {fin : Option Value → Hp → Prop} {pc : Nat} {lv stk stk0 : List Value} {hp : Hp} {cl sl : Nat}
variable {idx n nL1 : Nat} {y1 : MethodName} {cc1 : ByteArray} {ret1 : Option FieldType} {As : List Value} {v : Value} {z o : Nat} {h0 : Nat → Option va_E} {σ' : Sg}
theorem c_VR {a ci : Nat} {fs : List Value} (hd : decode cc pc = .ok (.invokevirtual idx, 3)) (hy : ax_kM y1 cc1 nL1 ret1 n) (hi : Cond.instanceMethod y1 ∈ TB ∧ Cond.selects y1.cls y1 y1 ∈ TB) (hl : Cond.methodLink y.cls idx y1 ∈ TB) (hc : CT st k y1 cc1 nL1 ret1 (.ref a :: As) hp 0 0 (RO (some v) hp)) (hh : hp.2 a = some (.inr (ci, fs))) (hci : (vwCl[ci]?).map (fun q => q.1) = some y1.cls) (hs : stk0 = As.reverse ++ .ref a :: stk) (hn : As.length = n) (hr : (stk.map fun v => v.category).sum ≤ 8) (hm : cl ≤ mc ∧ sl ≤ ms) (h : Ev st (k + 1) y cc nL ret hp0 mc ms fin (pc + 3) lv (v :: stk) hp cl sl) : Ev st (k + 1) y cc nL ret hp0 mc ms fin pc lv stk0 hp cl sl :=
  x_callV hd hy hi hl hc hh hci hs hn hr hm (fun r hp' hq => by obtain ⟨rfl, rfl⟩ := hq; exact h)
theorem c_VRn {a ci : Nat} {fs : List Value} (hd : decode cc pc = .ok (.invokevirtual idx, 3)) (hy : ax_kM y1 cc1 nL1 ret1 n) (hi : Cond.instanceMethod y1 ∈ TB ∧ Cond.selects y1.cls y1 y1 ∈ TB) (hl : Cond.methodLink y.cls idx y1 ∈ TB) (hc : CT st k y1 cc1 nL1 ret1 (.ref a :: As) hp 0 0 (RO none hp)) (hh : hp.2 a = some (.inr (ci, fs))) (hci : (vwCl[ci]?).map (fun q => q.1) = some y1.cls) (hs : stk0 = As.reverse ++ .ref a :: stk) (hn : As.length = n) (hr : (stk.map fun v => v.category).sum ≤ 8) (hm : cl ≤ mc ∧ sl ≤ ms) (h : Ev st (k + 1) y cc nL ret hp0 mc ms fin (pc + 3) lv stk hp cl sl) : Ev st (k + 1) y cc nL ret hp0 mc ms fin pc lv stk0 hp cl sl :=
  x_callV hd hy hi hl hc hh hci hs hn hr hm (fun r hp' hq => by obtain ⟨rfl, rfl⟩ := hq; exact h)
theorem c_VM {a ci : Nat} {fs : List Value} (hd : decode cc pc = .ok (.invokevirtual idx, 3)) (hy : ax_kM y1 cc1 nL1 ret1 n) (hi : Cond.instanceMethod y1 ∈ TB ∧ Cond.selects y1.cls y1 y1 ∈ TB) (hl : Cond.methodLink y.cls idx y1 ∈ TB) (hc : CT st k y1 cc1 nL1 ret1 (.ref a :: As) hp 0 0 (MO (some v) hp.1 o hp.2 σ')) (hh : hp.2 a = some (.inr (ci, fs))) (hci : (vwCl[ci]?).map (fun q => q.1) = some y1.cls) (hs : stk0 = As.reverse ++ .ref a :: stk) (hn : As.length = n) (hr : (stk.map fun v => v.category).sum ≤ 8) (hm : cl ≤ mc ∧ sl ≤ ms) (h : ∀ h', OffAt h' o σ' → Fr o 16 hp.2 h' → Ev st (k + 1) y cc nL ret hp0 mc ms fin (pc + 3) lv (v :: stk) (hp.1, h') cl sl) : Ev st (k + 1) y cc nL ret hp0 mc ms fin pc lv stk0 hp cl sl :=
  x_callV hd hy hi hl hc hh hci hs hn hr hm (fun r hp' hq => by obtain ⟨rfl, h2, rfl, q1, q2⟩ := hq; exact h h2 q1 q2)
theorem c_VMn {a ci : Nat} {fs : List Value} (hd : decode cc pc = .ok (.invokevirtual idx, 3)) (hy : ax_kM y1 cc1 nL1 ret1 n) (hi : Cond.instanceMethod y1 ∈ TB ∧ Cond.selects y1.cls y1 y1 ∈ TB) (hl : Cond.methodLink y.cls idx y1 ∈ TB) (hc : CT st k y1 cc1 nL1 ret1 (.ref a :: As) hp 0 0 (MO none hp.1 o hp.2 σ')) (hh : hp.2 a = some (.inr (ci, fs))) (hci : (vwCl[ci]?).map (fun q => q.1) = some y1.cls) (hs : stk0 = As.reverse ++ .ref a :: stk) (hn : As.length = n) (hr : (stk.map fun v => v.category).sum ≤ 8) (hm : cl ≤ mc ∧ sl ≤ ms) (h : ∀ h', OffAt h' o σ' → Fr o 16 hp.2 h' → Ev st (k + 1) y cc nL ret hp0 mc ms fin (pc + 3) lv stk (hp.1, h') cl sl) : Ev st (k + 1) y cc nL ret hp0 mc ms fin pc lv stk0 hp cl sl :=
  x_callV hd hy hi hl hc hh hci hs hn hr hm (fun r hp' hq => by obtain ⟨rfl, h2, rfl, q1, q2⟩ := hq; exact h h2 q1 q2)
theorem c_SR (hd : decode cc pc = .ok (.invokestatic idx, 3)) (hy : ax_kM y1 cc1 nL1 ret1 n) (hi : Cond.static y1 ∈ TB) (hl : Cond.methodLink y.cls idx y1 ∈ TB) (hc : CT st k y1 cc1 nL1 ret1 As hp 0 0 (RO (some v) hp)) (hs : stk0 = As.reverse ++ stk) (hn : As.length = n) (hr : (stk.map fun v => v.category).sum ≤ 8) (hm : cl ≤ mc ∧ sl ≤ ms) (h : Ev st (k + 1) y cc nL ret hp0 mc ms fin (pc + 3) lv (v :: stk) hp cl sl) : Ev st (k + 1) y cc nL ret hp0 mc ms fin pc lv stk0 hp cl sl :=
  x_callS hd hy hi hl hc hs hn hr hm (fun r hp' hq => by obtain ⟨rfl, rfl⟩ := hq; exact h)
theorem c_SRn (hd : decode cc pc = .ok (.invokestatic idx, 3)) (hy : ax_kM y1 cc1 nL1 ret1 n) (hi : Cond.static y1 ∈ TB) (hl : Cond.methodLink y.cls idx y1 ∈ TB) (hc : CT st k y1 cc1 nL1 ret1 As hp 0 0 (RO none hp)) (hs : stk0 = As.reverse ++ stk) (hn : As.length = n) (hr : (stk.map fun v => v.category).sum ≤ 8) (hm : cl ≤ mc ∧ sl ≤ ms) (h : Ev st (k + 1) y cc nL ret hp0 mc ms fin (pc + 3) lv stk hp cl sl) : Ev st (k + 1) y cc nL ret hp0 mc ms fin pc lv stk0 hp cl sl :=
  x_callS hd hy hi hl hc hs hn hr hm (fun r hp' hq => by obtain ⟨rfl, rfl⟩ := hq; exact h)
theorem c_SM (hd : decode cc pc = .ok (.invokestatic idx, 3)) (hy : ax_kM y1 cc1 nL1 ret1 n) (hi : Cond.static y1 ∈ TB) (hl : Cond.methodLink y.cls idx y1 ∈ TB) (hc : CT st k y1 cc1 nL1 ret1 As hp 0 0 (MO (some v) hp.1 o hp.2 σ')) (hs : stk0 = As.reverse ++ stk) (hn : As.length = n) (hr : (stk.map fun v => v.category).sum ≤ 8) (hm : cl ≤ mc ∧ sl ≤ ms) (h : ∀ h', OffAt h' o σ' → Fr o 16 hp.2 h' → Ev st (k + 1) y cc nL ret hp0 mc ms fin (pc + 3) lv (v :: stk) (hp.1, h') cl sl) : Ev st (k + 1) y cc nL ret hp0 mc ms fin pc lv stk0 hp cl sl :=
  x_callS hd hy hi hl hc hs hn hr hm (fun r hp' hq => by obtain ⟨rfl, h2, rfl, q1, q2⟩ := hq; exact h h2 q1 q2)
theorem c_SMn (hd : decode cc pc = .ok (.invokestatic idx, 3)) (hy : ax_kM y1 cc1 nL1 ret1 n) (hi : Cond.static y1 ∈ TB) (hl : Cond.methodLink y.cls idx y1 ∈ TB) (hc : CT st k y1 cc1 nL1 ret1 As hp 0 0 (MO none hp.1 o hp.2 σ')) (hs : stk0 = As.reverse ++ stk) (hn : As.length = n) (hr : (stk.map fun v => v.category).sum ≤ 8) (hm : cl ≤ mc ∧ sl ≤ ms) (h : ∀ h', OffAt h' o σ' → Fr o 16 hp.2 h' → Ev st (k + 1) y cc nL ret hp0 mc ms fin (pc + 3) lv stk (hp.1, h') cl sl) : Ev st (k + 1) y cc nL ret hp0 mc ms fin pc lv stk0 hp cl sl :=
  x_callS hd hy hi hl hc hs hn hr hm (fun r hp' hq => by obtain ⟨rfl, h2, rfl, q1, q2⟩ := hq; exact h h2 q1 q2)
theorem c_NR {host : String} (hd : decode cc pc = .ok (.invokestatic idx, 3)) (hy : ax_kM y1 cc1 nL1 ret1 n) (hi : Cond.static y1 ∈ TB) (hl : Cond.methodLinkNest y.cls idx y1 host ∈ NB) (hc : CT st k y1 cc1 nL1 ret1 As hp 0 0 (RO (some v) hp)) (hs : stk0 = As.reverse ++ stk) (hn : As.length = n) (hr : (stk.map fun v => v.category).sum ≤ 8) (hm : cl ≤ mc ∧ sl ≤ ms) (h : Ev st (k + 1) y cc nL ret hp0 mc ms fin (pc + 3) lv (v :: stk) hp cl sl) : Ev st (k + 1) y cc nL ret hp0 mc ms fin pc lv stk0 hp cl sl :=
  x_callSN hd hy hi hl hc hs hn hr hm (fun r hp' hq => by obtain ⟨rfl, rfl⟩ := hq; exact h)
theorem c_NRn {host : String} (hd : decode cc pc = .ok (.invokestatic idx, 3)) (hy : ax_kM y1 cc1 nL1 ret1 n) (hi : Cond.static y1 ∈ TB) (hl : Cond.methodLinkNest y.cls idx y1 host ∈ NB) (hc : CT st k y1 cc1 nL1 ret1 As hp 0 0 (RO none hp)) (hs : stk0 = As.reverse ++ stk) (hn : As.length = n) (hr : (stk.map fun v => v.category).sum ≤ 8) (hm : cl ≤ mc ∧ sl ≤ ms) (h : Ev st (k + 1) y cc nL ret hp0 mc ms fin (pc + 3) lv stk hp cl sl) : Ev st (k + 1) y cc nL ret hp0 mc ms fin pc lv stk0 hp cl sl :=
  x_callSN hd hy hi hl hc hs hn hr hm (fun r hp' hq => by obtain ⟨rfl, rfl⟩ := hq; exact h)
theorem c_NM {host : String} (hd : decode cc pc = .ok (.invokestatic idx, 3)) (hy : ax_kM y1 cc1 nL1 ret1 n) (hi : Cond.static y1 ∈ TB) (hl : Cond.methodLinkNest y.cls idx y1 host ∈ NB) (hc : CT st k y1 cc1 nL1 ret1 As hp 0 0 (MO (some v) hp.1 o hp.2 σ')) (hs : stk0 = As.reverse ++ stk) (hn : As.length = n) (hr : (stk.map fun v => v.category).sum ≤ 8) (hm : cl ≤ mc ∧ sl ≤ ms) (h : ∀ h', OffAt h' o σ' → Fr o 16 hp.2 h' → Ev st (k + 1) y cc nL ret hp0 mc ms fin (pc + 3) lv (v :: stk) (hp.1, h') cl sl) : Ev st (k + 1) y cc nL ret hp0 mc ms fin pc lv stk0 hp cl sl :=
  x_callSN hd hy hi hl hc hs hn hr hm (fun r hp' hq => by obtain ⟨rfl, h2, rfl, q1, q2⟩ := hq; exact h h2 q1 q2)
theorem c_NMn {host : String} (hd : decode cc pc = .ok (.invokestatic idx, 3)) (hy : ax_kM y1 cc1 nL1 ret1 n) (hi : Cond.static y1 ∈ TB) (hl : Cond.methodLinkNest y.cls idx y1 host ∈ NB) (hc : CT st k y1 cc1 nL1 ret1 As hp 0 0 (MO none hp.1 o hp.2 σ')) (hs : stk0 = As.reverse ++ stk) (hn : As.length = n) (hr : (stk.map fun v => v.category).sum ≤ 8) (hm : cl ≤ mc ∧ sl ≤ ms) (h : ∀ h', OffAt h' o σ' → Fr o 16 hp.2 h' → Ev st (k + 1) y cc nL ret hp0 mc ms fin (pc + 3) lv stk (hp.1, h') cl sl) : Ev st (k + 1) y cc nL ret hp0 mc ms fin pc lv stk0 hp cl sl :=
  x_callSN hd hy hi hl hc hs hn hr hm (fun r hp' hq => by obtain ⟨rfl, h2, rfl, q1, q2⟩ := hq; exact h h2 q1 q2)
end CRX
end
section
/-! loops as folds; sets of places as numbers -/
def lp {α : Type} (f : Nat → α → α) : Nat → Nat → α → α
  | _, 0, a => a
  | i, k + 1, a => lp f (i + 1) k (f i a)
theorem lp_0 {α : Type} (f : Nat → α → α) (i : Nat) (a : α) : lp f i 0 a = a := rfl
theorem lp_s {α : Type} (f : Nat → α → α) (i k : Nat) (a : α) : lp f i (k + 1) a = lp f (i + 1) k (f i a) := rfl
def bit (i : Nat) : Int32 := (1 : Int32) <<< (nI i &&& 31)
def bsf (p : Nat → Bool) (i : Nat) (a : Int32) : Int32 := if p i = true then a ||| bit i else a
theorem bsf_t {p : Nat → Bool} {i : Nat} (a : Int32) (h : p i = true) : bsf p i a = a ||| bit i := if_pos h
theorem bsf_f {p : Nat → Bool} {i : Nat} (a : Int32) (h : p i = false) : bsf p i a = a := if_neg (by rw [h]; decide)
/-- the set of the places below n with p -/
def bs (p : Nat → Bool) (n : Nat) : Int32 := lp (bsf p) 0 n 0
def inc1 {i : Nat} {v : Int32} (h : v = nI i + Int32.ofInt 1) : v = nI (i + 1) := h.trans (nI_1 i)
theorem RO.mk {v w : Int32} {hp : Hp} (h : v = w) : RO (some (.int w)) hp (some (.int v)) hp := ⟨by rw [h], rfl⟩
/-- the counts of an office -/
def nLo (σ : Sg) : Nat := (σ 13 0).toNatClampNeg
def nCl (σ : Sg) : Nat := (σ 13 1).toNatClampNeg
def nPd (σ : Sg) : Nat := (σ 13 2).toNatClampNeg
def LOk (σ : Sg) : Prop := σ 13 0 = nI (nLo σ) ∧ nLo σ ≤ 12
def COk (σ : Sg) : Prop := σ 13 1 = nI (nCl σ) ∧ nCl σ ≤ 30
def POk (σ : Sg) : Prop := σ 13 2 = nI (nPd σ) ∧ nPd σ ≤ 16
/-! what the class's methods answer -/
def sHolds (set m : Int32) : Bool := decide ((set >>> (m &&& 31)) &&& 1 = 1)
def sExists (n x : Int32) : Bool := !decide (x < 0) && !decide (n ≤ x)
def sSumf (g : Nat → Int32) (set : Int32) (i : Nat) (a : Int32) : Int32 := if sHolds set (nI i) = true then a + g i else a
def sNumf (g : Nat → Int32) (set : Int32) (i : Nat) (a : Int32) : Int32 := if sHolds set (nI i) = true then a ||| ((1 : Int32) <<< (g i &&& 31)) else a
theorem ax_ix_of {n x : Int32} {N len : Nat} (hn : n = nI N) (hN : N ≤ len) (hl : len < 2 ^ 31) (h : sExists n x = true) : ∃ j, ax_ix x len j ∧ j < N ∧ x = nI j := by
  unfold sExists at h
  simp only [Bool.and_eq_true, Bool.not_eq_true', decide_eq_false_iff_not] at h
  obtain ⟨h1, h2⟩ := h
  obtain ⟨j, hj, rfl⟩ := nI_of h1
  subst hn
  have hlt : j < N := by
    rcases Nat.lt_or_ge j N with q | q
    · exact q
    · exact absurd (nI_le q (by omega)) h2
  exact ⟨j, ax_ixN (by omega) hl, hlt, rfl⟩
end
section
set_option maxRecDepth 100000 in
set_option maxHeartbeats 4000000 in
theorem t_holds {st : Nat → Nat} (d : Nat) {z : Nat} {h : Nat → Option va_E} (x m : Int32) : CT st (d + 1) yX4_holds cX4_holds 2 (some .boolean) [.int x, .int m] (z, h) 0 0 (RO (some (.int (bI (sHolds x m)))) (z, h)) := by
  refine CT.of (lv := [.int x, .int m]) (by decide) (Nat.le_of_ble_eq_true rfl) rfl rfl ?_
  refine x_iload_n dX4_holds_0 rfl ?_
  refine x_iload_n dX4_holds_1 rfl ?_
  refine x_ishr dX4_holds_2 ?_
  refine x_iconst (v := 1) dX4_holds_3 rfl ?_
  refine x_iand dX4_holds_4 ?_
  refine x_iconst (v := 1) dX4_holds_5 rfl ?_
  refine x_icmp_ne (tgt := 13) dX4_holds_6 (by decide) (fun c6 => ?_) (fun c6 => ?_)
  · refine x_iconst (v := 0) dX4_holds_13 rfl ?_
    refine x_iret dX4_holds_14 (Or.inr ⟨rfl, by first | rfl | exact bI_z _⟩) rfl (Nat.le_refl _) ?_
    exact RO.mk (by simp [bI, sHolds, c6])
  · refine x_iconst (v := 1) dX4_holds_9 rfl ?_
    refine x_goto (tgt := 14) dX4_holds_10 (by decide) ?_
    refine x_iret dX4_holds_14 (Or.inr ⟨rfl, by first | rfl | exact bI_z _⟩) rfl (Nat.le_refl _) ?_
    exact RO.mk (by simp [bI, sHolds, c6])

set_option maxRecDepth 100000 in
set_option maxHeartbeats 4000000 in
theorem t_firstOnes {st : Nat → Nat} (d : Nat) {z : Nat} {h : Nat → Option va_E} (n : Int32) : CT st (d + 1) yX4_firstOnes cX4_firstOnes 1 (some .int) [.int n] (z, h) 0 0 (RO (some (.int (((1 : Int32) <<< (n &&& 31)) - 1))) (z, h)) := by
  refine CT.of (lv := [.int n]) (by decide) (Nat.le_of_ble_eq_true rfl) rfl rfl ?_
  refine x_iconst (v := 1) dX4_firstOnes_0 rfl ?_
  refine x_iload_n dX4_firstOnes_1 rfl ?_
  refine x_ishl dX4_firstOnes_2 ?_
  refine x_iconst (v := 1) dX4_firstOnes_3 rfl ?_
  refine x_isub dX4_firstOnes_4 ?_
  refine x_iret dX4_firstOnes_5 (Or.inl rfl) rfl (Nat.le_refl _) ?_
  exact RO.mk rfl

set_option maxRecDepth 100000 in
set_option maxHeartbeats 4000000 in
theorem L_rowsWith {st : Nat → Nat} (d : Nat) {z : Nat} {h : Nat → Option va_E} {a len N : Nat} {g : Nat → Int32} (H : RwAt h 0 a len g) (hl : len < 2 ^ 31) (hN : N ≤ len) (w : Int32) : ∀ (k : Nat) (i : Nat) (r : Int32), i + k = N → lp (bsf (fun i => decide (g i = w))) i k r = bs (fun i => decide (g i = w)) N → Ev st (d + 1) yX4_rowsWith cX4_rowsWith 5 (some .int) (z, h) 0 0 (RO (some (.int (bs (fun i => decide (g i = w)) N))) (z, h)) 5 [.ref a, .int (nI N), .int w, .int r, .int (nI i)] [] (z, h) 0 0 := by
  intro k
  induction k with
  | zero =>
    intro i r hik hR
    refine x_iload dX4_rowsWith_5 rfl ?_
    refine x_iload_n dX4_rowsWith_7 rfl ?_
    refine x_icmp_ge (tgt := 39) dX4_rowsWith_8 (by decide) (fun c8 => ?_) (fun c8 => absurd (nI_le (a := N) (b := i) (by omega) (by omega)) c8)
    refine x_iload_n dX4_rowsWith_39 rfl ?_
    refine x_iret dX4_rowsWith_40 (Or.inl rfl) rfl (Nat.le_refl _) ?_
    exact RO.mk hR
  | succ k ih =>
    intro i r hik hR
    refine x_iload dX4_rowsWith_5 rfl ?_
    refine x_iload_n dX4_rowsWith_7 rfl ?_
    refine x_icmp_ge (tgt := 39) dX4_rowsWith_8 (by decide) (fun c8 => absurd c8 (nI_ge (a := i) (b := N) (by omega) (by omega))) (fun c8 => ?_)
    refine x_iload dX4_rowsWith_11 rfl ?_
    refine x_aload_n dX4_rowsWith_13 rfl ?_
    refine e_len dX4_rowsWith_14 H (Nat.le_of_ble_eq_true rfl) rfl ?_
    refine x_icmp_ge (tgt := 39) dX4_rowsWith_15 (by decide) (fun c15 => absurd c15 (nI_ge (a := i) (b := len) (by omega) (by omega))) (fun c15 => ?_)
    refine x_aload_n dX4_rowsWith_18 rfl ?_
    refine x_iload dX4_rowsWith_19 rfl ?_
    refine e_ald dX4_rowsWith_21 H (ax_ixN (j := i) (by omega) hl) ?_
    refine x_iload_n dX4_rowsWith_22 rfl ?_
    refine x_icmp_ne (tgt := 33) dX4_rowsWith_23 (by decide) (fun c23 => ?_) (fun c23 => ?_)
    · refine e_inc (lv' := fun v => [.ref a, .int (nI N), .int w, .int r, .int v]) dX4_rowsWith_33 rfl rfl (fun _ => rfl) (fun v1 ev1 => ?_)
      refine x_goto (tgt := 5) dX4_rowsWith_36 (by decide) ?_
      obtain rfl := inc1 ev1
      exact ih (i + 1) _ (by omega) (by rw [← hR, lp_s, bsf_f _ (by simp [c23])])
    · refine x_iload_n dX4_rowsWith_26 rfl ?_
      refine x_iconst (v := 1) dX4_rowsWith_27 rfl ?_
      refine x_iload dX4_rowsWith_28 rfl ?_
      refine x_ishl dX4_rowsWith_30 ?_
      refine x_ior dX4_rowsWith_31 ?_
      refine e_ist_n (lv' := fun v => [.ref a, .int (nI N), .int w, .int v, .int (nI i)]) dX4_rowsWith_32 (Nat.le_of_ble_eq_true rfl) rfl (fun _ => rfl) (fun v2 ev2 => ?_)
      refine e_inc (lv' := fun v => [.ref a, .int (nI N), .int w, .int v2, .int v]) dX4_rowsWith_33 rfl rfl (fun _ => rfl) (fun v3 ev3 => ?_)
      refine x_goto (tgt := 5) dX4_rowsWith_36 (by decide) ?_
      obtain rfl := inc1 ev3
      exact ih (i + 1) _ (by omega) (by rw [← hR, lp_s, bsf_t _ (by simp [c23]), ev2]; rfl)

set_option maxRecDepth 100000 in
set_option maxHeartbeats 4000000 in
theorem t_rowsWith0 {st : Nat → Nat} (d : Nat) {z : Nat} {h : Nat → Option va_E} {a len N : Nat} {g : Nat → Int32} (H : RwAt h 0 a len g) (hl : len < 2 ^ 31) (hN : N ≤ len) (w : Int32) : CT st (d + 1) yX4_rowsWith cX4_rowsWith 5 (some .int) [.ref a, .int (nI N), .int w] (z, h) 0 0 (RO (some (.int (bs (fun i => decide (g i = w)) N))) (z, h)) := by
  refine CT.of (lv := [.ref a, .int (nI N), .int w, .null, .null]) (by decide) (Nat.le_of_ble_eq_true rfl) rfl rfl ?_
  refine x_iconst (v := 0) dX4_rowsWith_0 rfl ?_
  refine e_ist_n (lv' := fun v => [.ref a, .int (nI N), .int w, .int v, .null]) dX4_rowsWith_1 (Nat.le_of_ble_eq_true rfl) rfl (fun _ => rfl) (fun v1 ev1 => ?_)
  refine x_iconst (v := 0) dX4_rowsWith_2 rfl ?_
  refine e_ist (lv' := fun v => [.ref a, .int (nI N), .int w, .int v1, .int v]) dX4_rowsWith_3 (Nat.le_of_ble_eq_true rfl) rfl (fun _ => rfl) (fun v2 ev2 => ?_)
  subst ev1 ev2
  exact L_rowsWith d H hl hN w N 0 0 (by omega) rfl

set_option maxRecDepth 100000 in
set_option maxHeartbeats 4000000 in
theorem t_rowsWith {st : Nat → Nat} (d : Nat) {z : Nat} {h : Nat → Option va_E} {a len N : Nat} {g : Nat → Int32} {n : Int32} (hn : n = nI N) (H : RwAt h 0 a len g) (hl : len < 2 ^ 31) (hN : N ≤ len) (w : Int32) : CT st (d + 1) yX4_rowsWith cX4_rowsWith 5 (some .int) [.ref a, .int n, .int w] (z, h) 0 0 (RO (some (.int (bs (fun i => decide (g i = w)) N))) (z, h)) := by
  subst hn
  exact t_rowsWith0 d H hl hN w

set_option maxRecDepth 100000 in
set_option maxHeartbeats 4000000 in
theorem L_sum {st : Nat → Nat} (d : Nat) {z : Nat} {h : Nat → Option va_E} {a len : Nat} {g : Nat → Int32} (H : RwAt h 0 a len g) (hl : len < 2 ^ 31) (w : Int32) : ∀ (k : Nat) (i : Nat) (r : Int32), i + k = len → lp (sSumf g w) i k r = lp (sSumf g w) 0 len 0 → Ev st (d + 2) yX4_sum cX4_sum 4 (some .int) (z, h) 0 0 (RO (some (.int (lp (sSumf g w) 0 len 0))) (z, h)) 4 [.ref a, .int w, .int r, .int (nI i)] [] (z, h) 0 0 := by
  intro k
  induction k with
  | zero =>
    intro i r hik hR
    refine x_iload_n dX4_sum_4 rfl ?_
    refine x_aload_n dX4_sum_5 rfl ?_
    refine e_len dX4_sum_6 H (Nat.le_of_ble_eq_true rfl) rfl ?_
    refine x_icmp_ge (tgt := 30) dX4_sum_7 (by decide) (fun c7 => ?_) (fun c7 => absurd (nI_le (a := len) (b := i) (by omega) (by omega)) c7)
    refine x_iload_n dX4_sum_30 rfl ?_
    refine x_iret dX4_sum_31 (Or.inl rfl) rfl (Nat.le_refl _) ?_
    exact RO.mk hR
  | succ k ih =>
    intro i r hik hR
    refine x_iload_n dX4_sum_4 rfl ?_
    refine x_aload_n dX4_sum_5 rfl ?_
    refine e_len dX4_sum_6 H (Nat.le_of_ble_eq_true rfl) rfl ?_
    refine x_icmp_ge (tgt := 30) dX4_sum_7 (by decide) (fun c7 => absurd c7 (nI_ge (a := i) (b := len) (by omega) (by omega))) (fun c7 => ?_)
    refine x_iload_n dX4_sum_10 rfl ?_
    refine x_iload_n dX4_sum_11 rfl ?_
    refine c_SR dX4_sum_12 kX4_holds q433 q450 (t_holds _ _ _) rfl rfl (Nat.le_of_ble_eq_true rfl) ⟨Nat.le_refl _, Nat.le_refl _⟩ ?_
    refine x_if_eq (tgt := 24) dX4_sum_15 (by decide) (fun c15 => ?_) (fun c15 => ?_)
    · have c15 := bI_eq c15
      refine e_inc (lv' := fun v => [.ref a, .int w, .int r, .int v]) dX4_sum_24 rfl rfl (fun _ => rfl) (fun v1 ev1 => ?_)
      refine x_goto (tgt := 4) dX4_sum_27 (by decide) ?_
      obtain rfl := inc1 ev1
      exact ih (i + 1) _ (by omega) (by rw [← hR, lp_s, show sSumf g w i r = r from if_neg (by rw [c15]; decide)])
    · have c15 := bI_ne c15
      refine x_iload_n dX4_sum_18 rfl ?_
      refine x_aload_n dX4_sum_19 rfl ?_
      refine x_iload_n dX4_sum_20 rfl ?_
      refine e_ald dX4_sum_21 H (ax_ixN (j := i) (by omega) hl) ?_
      refine x_iadd dX4_sum_22 ?_
      refine e_ist_n (lv' := fun v => [.ref a, .int w, .int v, .int (nI i)]) dX4_sum_23 (Nat.le_of_ble_eq_true rfl) rfl (fun _ => rfl) (fun v2 ev2 => ?_)
      refine e_inc (lv' := fun v => [.ref a, .int w, .int v2, .int v]) dX4_sum_24 rfl rfl (fun _ => rfl) (fun v3 ev3 => ?_)
      refine x_goto (tgt := 4) dX4_sum_27 (by decide) ?_
      obtain rfl := inc1 ev3
      exact ih (i + 1) _ (by omega) (by rw [← hR, lp_s, ev2, show sSumf g w i r = _ from if_pos c15])

set_option maxRecDepth 100000 in
set_option maxHeartbeats 4000000 in
theorem t_sum {st : Nat → Nat} (d : Nat) {z : Nat} {h : Nat → Option va_E} {a len : Nat} {g : Nat → Int32} (H : RwAt h 0 a len g) (hl : len < 2 ^ 31) (w : Int32) : CT st (d + 2) yX4_sum cX4_sum 4 (some .int) [.ref a, .int w] (z, h) 0 0 (RO (some (.int (lp (sSumf g w) 0 len 0))) (z, h)) := by
  refine CT.of (lv := [.ref a, .int w, .null, .null]) (by decide) (Nat.le_of_ble_eq_true rfl) rfl rfl ?_
  refine x_iconst (v := 0) dX4_sum_0 rfl ?_
  refine e_ist_n (lv' := fun v => [.ref a, .int w, .int v, .null]) dX4_sum_1 (Nat.le_of_ble_eq_true rfl) rfl (fun _ => rfl) (fun v1 ev1 => ?_)
  refine x_iconst (v := 0) dX4_sum_2 rfl ?_
  refine e_ist_n (lv' := fun v => [.ref a, .int w, .int v1, .int v]) dX4_sum_3 (Nat.le_of_ble_eq_true rfl) rfl (fun _ => rfl) (fun v2 ev2 => ?_)
  subst ev1 ev2
  exact L_sum d H hl w len 0 0 (by omega) rfl

set_option maxRecDepth 100000 in
set_option maxHeartbeats 4000000 in
theorem L_numbersIn {st : Nat → Nat} (d : Nat) {z : Nat} {h : Nat → Option va_E} {a len : Nat} {g : Nat → Int32} (H : RwAt h 0 a len g) (hl : len < 2 ^ 31) (w : Int32) : ∀ (k : Nat) (i : Nat) (r : Int32), i + k = len → lp (sNumf g w) i k r = lp (sNumf g w) 0 len 0 → Ev st (d + 2) yX4_numbersIn cX4_numbersIn 4 (some .int) (z, h) 0 0 (RO (some (.int (lp (sNumf g w) 0 len 0))) (z, h)) 4 [.ref a, .int w, .int r, .int (nI i)] [] (z, h) 0 0 := by
  intro k
  induction k with
  | zero =>
    intro i r hik hR
    refine x_iload_n dX4_numbersIn_4 rfl ?_
    refine x_aload_n dX4_numbersIn_5 rfl ?_
    refine e_len dX4_numbersIn_6 H (Nat.le_of_ble_eq_true rfl) rfl ?_
    refine x_icmp_ge (tgt := 32) dX4_numbersIn_7 (by decide) (fun c7 => ?_) (fun c7 => absurd (nI_le (a := len) (b := i) (by omega) (by omega)) c7)
    refine x_iload_n dX4_numbersIn_32 rfl ?_
    refine x_iret dX4_numbersIn_33 (Or.inl rfl) rfl (Nat.le_refl _) ?_
    exact RO.mk hR
  | succ k ih =>
    intro i r hik hR
    refine x_iload_n dX4_numbersIn_4 rfl ?_
    refine x_aload_n dX4_numbersIn_5 rfl ?_
    refine e_len dX4_numbersIn_6 H (Nat.le_of_ble_eq_true rfl) rfl ?_
    refine x_icmp_ge (tgt := 32) dX4_numbersIn_7 (by decide) (fun c7 => absurd c7 (nI_ge (a := i) (b := len) (by omega) (by omega))) (fun c7 => ?_)
    refine x_iload_n dX4_numbersIn_10 rfl ?_
    refine x_iload_n dX4_numbersIn_11 rfl ?_
    refine c_SR dX4_numbersIn_12 kX4_holds q433 q450 (t_holds _ _ _) rfl rfl (Nat.le_of_ble_eq_true rfl) ⟨Nat.le_refl _, Nat.le_refl _⟩ ?_
    refine x_if_eq (tgt := 26) dX4_numbersIn_15 (by decide) (fun c15 => ?_) (fun c15 => ?_)
    · have c15 := bI_eq c15
      refine e_inc (lv' := fun v => [.ref a, .int w, .int r, .int v]) dX4_numbersIn_26 rfl rfl (fun _ => rfl) (fun v1 ev1 => ?_)
      refine x_goto (tgt := 4) dX4_numbersIn_29 (by decide) ?_
      obtain rfl := inc1 ev1
      exact ih (i + 1) _ (by omega) (by rw [← hR, lp_s, show sNumf g w i r = r from if_neg (by rw [c15]; decide)])
    · have c15 := bI_ne c15
      refine x_iload_n dX4_numbersIn_18 rfl ?_
      refine x_iconst (v := 1) dX4_numbersIn_19 rfl ?_
      refine x_aload_n dX4_numbersIn_20 rfl ?_
      refine x_iload_n dX4_numbersIn_21 rfl ?_
      refine e_ald dX4_numbersIn_22 H (ax_ixN (j := i) (by omega) hl) ?_
      refine x_ishl dX4_numbersIn_23 ?_
      refine x_ior dX4_numbersIn_24 ?_
      refine e_ist_n (lv' := fun v => [.ref a, .int w, .int v, .int (nI i)]) dX4_numbersIn_25 (Nat.le_of_ble_eq_true rfl) rfl (fun _ => rfl) (fun v2 ev2 => ?_)
      refine e_inc (lv' := fun v => [.ref a, .int w, .int v2, .int v]) dX4_numbersIn_26 rfl rfl (fun _ => rfl) (fun v3 ev3 => ?_)
      refine x_goto (tgt := 4) dX4_numbersIn_29 (by decide) ?_
      obtain rfl := inc1 ev3
      exact ih (i + 1) _ (by omega) (by rw [← hR, lp_s, ev2, show sNumf g w i r = _ from if_pos c15])

set_option maxRecDepth 100000 in
set_option maxHeartbeats 4000000 in
theorem t_numbersIn {st : Nat → Nat} (d : Nat) {z : Nat} {h : Nat → Option va_E} {a len : Nat} {g : Nat → Int32} (H : RwAt h 0 a len g) (hl : len < 2 ^ 31) (w : Int32) : CT st (d + 2) yX4_numbersIn cX4_numbersIn 4 (some .int) [.ref a, .int w] (z, h) 0 0 (RO (some (.int (lp (sNumf g w) 0 len 0))) (z, h)) := by
  refine CT.of (lv := [.ref a, .int w, .null, .null]) (by decide) (Nat.le_of_ble_eq_true rfl) rfl rfl ?_
  refine x_iconst (v := 0) dX4_numbersIn_0 rfl ?_
  refine e_ist_n (lv' := fun v => [.ref a, .int w, .int v, .null]) dX4_numbersIn_1 (Nat.le_of_ble_eq_true rfl) rfl (fun _ => rfl) (fun v1 ev1 => ?_)
  refine x_iconst (v := 0) dX4_numbersIn_2 rfl ?_
  refine e_ist_n (lv' := fun v => [.ref a, .int w, .int v1, .int v]) dX4_numbersIn_3 (Nat.le_of_ble_eq_true rfl) rfl (fun _ => rfl) (fun v2 ev2 => ?_)
  subst ev1 ev2
  exact L_numbersIn d H hl w len 0 0 (by omega) rfl
end
section
/-! WHAT THE CLASS'S METHODS ANSWER, in the words of an office's rows -/
def ush (x z : Int32) : Int32 := (x.toUInt32 >>> (z.toUInt32 &&& Int32.toUInt32 31)).toInt32
def sBit (x : Int32) : Int32 :=
  let b := x - (ush x 1 &&& 1431655765)
  let c := (b &&& 858993459) + (ush b 2 &&& 858993459)
  let e := (c + ush c 4) &&& 252645135
  let f := e + ush e 8
  let g := f + ush f 16
  g &&& 63
-- lots
def lAll (σ : Sg) : Int32 := ((1 : Int32) <<< (σ 13 0 &&& 31)) - 1
def lIn (σ : Sg) (w : Int32) : Int32 := bs (fun i => decide (σ 2 i = w)) (nLo σ)
def sOver (σ : Sg) (j : Nat) : Bool := decide (σ 2 j = 2) || decide (σ 2 j = 4)
-- claims
def cAll (σ : Sg) : Int32 := ((1 : Int32) <<< (σ 13 1 &&& 31)) - 1
def cIn (σ : Sg) (w : Int32) : Int32 := bs (fun c => decide (σ 9 c = w)) (nCl σ)
def cStanding (σ : Sg) : Int32 := cIn σ 0 ||| cIn σ 1
def cOfHeir (σ : Sg) (w : Int32) : Int32 := bs (fun c => decide (σ 5 c = w)) (nCl σ)
def cToLot (σ : Sg) (w : Int32) : Int32 := bs (fun c => decide (σ 6 c = w)) (nCl σ)
def cOpenTo (σ : Sg) (w : Int32) : Int32 := cToLot σ w &&& cIn σ 0
def cUpTo (σ : Sg) (w : Int32) : Int32 := cToLot σ w &&& cIn σ 1
def cStandTo (σ : Sg) (w : Int32) : Int32 := cToLot σ w &&& cStanding σ
def cBrought (σ : Sg) : Int32 := cAll σ &&& (bs (fun c => decide (σ 11 c = 0)) (nCl σ) ^^^ (-1))
def sOpen (σ : Sg) (j : Nat) : Bool := decide (σ 9 j = 0)
def sStands (σ : Sg) (j : Nat) : Bool := decide (σ 9 j = 0) || decide (σ 9 j = 1)
def nlf (σ : Sg) (set : Int32) (c : Nat) (a : Int32) : Int32 := if sHolds set (nI c) = true then (if a = -6 then σ 7 c else if a ≤ σ 7 c then a else σ 7 c) else a
def cNearLine (σ : Sg) (set : Int32) : Int32 := lp (nlf σ set) 0 (nCl σ) (-6)
def cNearest (σ : Sg) (set : Int32) : Int32 := set &&& bs (fun c => decide (σ 7 c = cNearLine σ set)) (nCl σ)
def wLong (σ : Sg) (c : Nat) (lapse : Int32) : Sg := if lapse ≤ σ 10 c + 1 then up2 (up2 σ 10 c (σ 10 c + 1)) 9 c 4 else up2 σ 10 c (σ 10 c + 1)
def wDayF (lapse : Int32) (c : Nat) (q : Sg × Int32) : Sg × Int32 :=
  let σ' := if sOpen q.1 c = true then wLong q.1 c lapse else q.1
  (σ', if sStands σ' c = true then q.2 ||| ((1 : Int32) <<< (σ' 6 c &&& 31)) else q.2)
def wDay (σ : Sg) (lapse : Int32) : Sg × Int32 := lp (wDayF lapse) 0 (nCl σ) (σ, 0)
-- the office
def sHeir (x : Int32) : Bool := !decide (x < 0) && !decide (16 ≤ x)
def oSet (σ : Sg) (s v : Int32) : Int32 × Sg :=
  if s < 0 then (-2, σ) else if s < 5 then (let j := s.toNatClampNeg
    if v < ax_f 0 j then (-2, σ) else if v ≤ ax_f 1 j then (σ 0 j, up2 σ 0 j v) else (-2, σ)) else (-2, σ)
def oLot (σ : Sg) (v : Int32) : Int32 × Sg :=
  if v < 1 then (-2, σ) else if v ≤ 9999 then (if σ 13 0 < 12 then (σ 13 0, up2 (up2 σ 1 (nLo σ) v) 13 0 (σ 13 0 + 1)) else (-4, σ)) else (-2, σ)
def oNotice (σ : Sg) (x : Int32) : Int32 × Sg :=
  if sExists (σ 13 0) x = true then (let j := x.toNatClampNeg
    if σ 2 j = 0 then (sBit (lIn (up2 σ 2 j 1) 1), up2 σ 2 j 1) else (-5, σ)) else (-1, σ)
def sCanClaim (σ : Sg) (j : Nat) : Bool := if σ 2 j = 3 then !decide (σ 0 3 < σ 4 j) else !sOver σ j
def oClaim (σ : Sg) (he x ln : Int32) : Int32 × Sg :=
  if sHeir he = true then (if sExists (σ 13 0) x = true then (let j := x.toNatClampNeg
    if ln < 1 then (-2, σ) else if ln ≤ 5 then (if sCanClaim σ j = true then (if cOfHeir σ he &&& cStandTo σ x = 0 then
      (if σ 13 1 < 30 then (σ 13 1, up2 (up2 (up2 (up2 σ 5 (nCl σ) he) 6 (nCl σ) x) 7 (nCl σ) ln) 13 1 (σ 13 1 + 1)) else (-4, σ)) else (-5, σ)) else (-5, σ)) else (-2, σ)) else (-1, σ)) else (-1, σ)
def min32 (x z : Int32) : Int32 := if z < x then z else x
def max32 (x z : Int32) : Int32 := if x < z then z else x
def oProve (σ : Sg) (x p : Int32) : Int32 × Sg :=
  if sExists (σ 13 1) x = true then (let j := x.toNatClampNeg
    if p < 1 then (-2, σ) else if p ≤ 100 then (if sOpen σ j = true then (min32 100 (σ 8 j + p), up2 (up2 σ 8 j (min32 100 (σ 8 j + p))) 10 j 0) else (-5, σ)) else (-2, σ)) else (-1, σ)
def oDecide (σ : Sg) (x : Int32) : Int32 × Sg :=
  if sExists (σ 13 1) x = true then (let j := x.toNatClampNeg
    if sOpen σ j = true then (let v : Int32 := if σ 8 j < σ 0 1 then 2 else 1
      (v, up2 σ 9 j v)) else (-5, σ)) else (-1, σ)
def oWithdraw (σ : Sg) (x : Int32) : Int32 × Sg :=
  if sExists (σ 13 1) x = true then (let j := x.toNatClampNeg
    if sStands σ j = true then (sBit (cStandTo (up2 σ 9 j 3) (σ 6 j)), up2 σ 9 j 3) else (-5, σ)) else (-1, σ)
def sCoins (σ : Sg) (j : Nat) : Int32 := if σ 2 j = 3 then σ 1 j - σ 1 j * σ 0 4 / 100 else σ 1 j
def sPart (coins sh cl : Int32) : Int32 :=
  if sBit sh = 0 then 0 else if sh &&& cl = 0 then 0 else coins / sBit sh + (if coins - coins / sBit sh * sBit sh ≤ sBit (sh &&& (cl - 1)) then 0 else 1)
def sPurse (σ : Sg) (he : Int32) : Int32 := lp (sSumf (σ 11) (cOfHeir σ he)) 0 30 0
def sPayO (σ : Sg) (c : Nat) (coins : Int32) : Sg := if coins ≤ 0 then σ else if sPurse σ (σ 5 c) = 0 then (if σ 13 2 < 16 then up2 (up2 σ 12 (nPd σ) (σ 5 c)) 13 2 (σ 13 2 + 1) else σ) else σ
def sSettleC (σ : Sg) (c : Nat) (coins : Int32) : Sg := up2 (up2 (sPayO σ c coins) 11 c coins) 9 c 5
def sLeave (σ : Sg) (j : Nat) (coins : Int32) : Sg := if σ 2 j = 3 then up2 (up2 σ 13 3 (σ 13 3 - coins)) 2 j 4 else up2 σ 2 j 2
def shareF (up coins sh : Int32) (c : Nat) (σ : Sg) : Sg := if sHolds up (nI c) = true then sSettleC σ c (sPart coins sh (bit c)) else σ
def oSettle (σ : Sg) (x : Int32) : Int32 × Sg :=
  if sExists (σ 13 0) x = true then (let j := x.toNatClampNeg
    let up := cUpTo σ x
    if sOver σ j = false ∧ cOpenTo σ x = 0 ∧ up ≠ 0 then (let coins := sCoins σ j
      let sh := cNearest σ up
      (sBit sh, sLeave (lp (shareF up coins sh) 0 (nCl σ) σ) j coins)) else (-5, σ)) else (-1, σ)
def sCount (σ : Sg) (j : Nat) : Int32 × Sg :=
  let σ1 := up2 σ 3 j (σ 3 j + 1)
  if σ1 3 j < σ 0 0 then (0, σ1) else (1, up2 (up2 σ1 2 j 3) 13 3 (σ 13 3 + σ 1 j))
def pDayF (claimed : Int32) (j : Nat) (q : Sg × Int32) : Sg × Int32 :=
  if q.1 2 j = 3 then (up2 q.1 4 j (q.1 4 j + 1), q.2) else if q.1 2 j = 1 then (if sHolds claimed (nI j) = true then q else ((sCount q.1 j).2, q.2 + (sCount q.1 j).1)) else q
def pDay (σ : Sg) : Sg × Int32 :=
  let w := wDay σ (σ 0 2)
  let q := lp (pDayF w.2) 0 (nLo w.1) (w.1, 0)
  (up2 q.1 13 4 (q.1 13 4 + 1), q.2)
def pDaysF (_ : Nat) (q : Sg × Int32) : Sg × Int32 := ((pDay q.1).1, q.2 + (pDay q.1).2)
def oPass (σ : Sg) (n : Int32) : Int32 × Sg :=
  if n < 1 then (-2, σ) else if n ≤ 400 then (if σ 13 4 + n ≤ 9999 then (let q := lp pDaysF 0 n.toNatClampNeg (σ, 0)
    (q.2, q.1)) else (-5, σ)) else (-2, σ)
def oOf (σ : Sg) (x w : Int32) : Int32 :=
  if sExists (σ 13 0) x = true then (let j := x.toNatClampNeg
    if w = 0 then σ 1 j else if w = 1 then σ 2 j else if w = 2 then σ 3 j else if w = 3 then σ 4 j else if w = 4 then cStandTo σ x else if w = 5 then cToLot σ x else if w = 6 then cNearLine σ (cUpTo σ x) else -2) else -1
def oOfClaim (σ : Sg) (x w : Int32) : Int32 :=
  if sExists (σ 13 1) x = true then (let j := x.toNatClampNeg
    if w = 0 then σ 5 j else if w = 1 then σ 6 j else if w = 2 then σ 7 j else if w = 3 then σ 8 j else if w = 4 then σ 9 j else if w = 5 then σ 10 j else if w = 6 then σ 11 j else -2) else -1
def oHeir (σ : Sg) (x w : Int32) : Int32 :=
  if sHeir x = true then (if w = 0 then sPurse σ x else if w = 1 then cOfHeir σ x else if w = 2 then cOfHeir σ x &&& cStanding σ else if w = 3 then lp (sNumf (σ 6) (cOfHeir σ x &&& cBrought σ)) 0 30 0 else -2) else -1
def oPaid (σ : Sg) (x : Int32) : Int32 := if x < 0 then -1 else if x < σ 13 2 then σ 12 x.toNatClampNeg else -1
def oNumber (σ : Sg) (w : Int32) : Int32 :=
  if 3 ≤ w ∧ w ≤ 7 then lIn σ (w - 3) else if 14 ≤ w ∧ w < 19 then σ 0 (w - 14).toNatClampNeg
  else if w = 0 then σ 13 4 else if w = 1 then σ 13 0 else if w = 2 then σ 13 1 else if w = 8 then lp (sSumf (σ 1) (lAll σ)) 0 12 0
  else if w = 9 then lp (sSumf (σ 1) (lIn σ 0 ||| lIn σ 1)) 0 12 0 else if w = 10 then σ 13 3 else if w = 11 then lp (sSumf (σ 11) (cAll σ)) 0 30 0
  else if w = 12 then cStanding σ else if w = 13 then sBit (lp (sNumf (σ 5) (cAll σ)) 0 30 0) else -2
def oWhy (σ : Sg) (x : Int32) : Int32 :=
  if sExists (σ 13 0) x = true then (if σ 2 x.toNatClampNeg = 1 then (if cOpenTo σ x = 0 then (if cUpTo σ x = 0 then 0 else 3) else 2) else 1) else -1
def sLapse (σ : Sg) (c : Nat) : Int32 := max32 1 (σ 0 2 - σ 10 c)
def idleF (σ : Sg) (op : Int32) (c : Nat) (a : Int32) : Int32 := if sHolds op (nI c) = true then max32 a (sLapse σ c - 1) else a
def sIdle (σ : Sg) (x : Int32) : Int32 := lp (idleF σ (cOpenTo σ x)) 0 (nCl σ) 0
def oFalls (σ : Sg) (x : Int32) : Int32 :=
  if sExists (σ 13 0) x = true then (let j := x.toNatClampNeg
    if σ 2 j = 1 then (if cUpTo σ x = 0 then sIdle σ x + max32 1 (σ 0 0 - σ 3 j) else -6) else -5) else -1
def oShare (σ : Sg) (x he w : Int32) : Int32 :=
  if sExists (σ 13 0) x = true then (if sHeir he = true then (if w ≠ 0 ∧ w ≠ 1 then -2 else let j := x.toNatClampNeg
    if sOver σ j = true then -5 else let sh := cNearest σ (if w = 0 then cUpTo σ x else cStandTo σ x)
      sPart (sCoins σ j) sh (sh &&& cOfHeir σ he)) else -1) else -1
def ffF (σ : Sg) (j : Nat) (q : Int32 × Int32) : Int32 × Int32 := let f := oFalls σ (nI j)
  if f ≤ 0 then q else if q.2 = -6 then (nI j, f) else if q.2 ≤ f then q else (nI j, f)
def oNextFall (σ : Sg) (w : Int32) : Int32 :=
  if w ≠ 0 ∧ w ≠ 1 then -2 else let q := lp (ffF σ) 0 (nLo σ) (-6, -6)
    if w = 0 then q.1 else q.2
def sAhead (σ : Sg) (c b : Nat) : Bool := if sLapse σ c < sLapse σ b then true else if sLapse σ c = sLapse σ b then decide (σ 6 c < σ 6 b) else false
def flF (σ : Sg) (c : Nat) (a : Int32) : Int32 := if sOpen σ c = true then (if a = -6 then nI c else if sAhead σ c a.toNatClampNeg = true then nI c else a) else a
def oNextLapse (σ : Sg) (w : Int32) : Int32 :=
  if w ≠ 0 ∧ w ≠ 1 then -2 else let a := lp (flF σ) 0 (nCl σ) (-6)
    if w = 1 then a else if a = -6 then a else sLapse σ a.toNatClampNeg
theorem MO.mk {p : Int32 × Sg} {v : Int32} {σ' : Sg} {z o : Nat} {h h' : Nat → Option va_E} (he : p = (v, σ')) (hO : OffAt h' o σ') (hF : Fr o 16 h h') : MO (some (.int p.1)) z o h p.2 (some (.int v)) (z, h') := by
  subst he
  exact ⟨rfl, h', rfl, hO, hF⟩
theorem MO.mkn {τ σ' : Sg} {z o : Nat} {h h' : Nat → Option va_E} (he : τ = σ') (hO : OffAt h' o σ') (hF : Fr o 16 h h') : MO none z o h τ none (z, h') := by
  subst he
  exact ⟨rfl, h', rfl, hO, hF⟩
theorem nI_cl {j : Nat} (h : j < 2 ^ 31) : (nI j).toNatClampNeg = j := nI_clamp h
theorem cnt_lt {σ : Sg} {r N M : Nat} (h : σ 13 r = nI N) (hN : N ≤ M) (hM : M < 2 ^ 31) (hc : σ 13 r < nI M) : N < M := by
  rw [h] at hc
  exact (nI_ltI (by omega) hM).mp hc
end
section
theorem t_rowsWith2 : True := trivial
set_option maxRecDepth 100000 in
set_option maxHeartbeats 4000000 in
theorem t_bitCount {st : Nat → Nat} (d : Nat) {z : Nat} {h : Nat → Option va_E} (x : Int32) : CT st (d + 1) yJ6_bitCount_0f7a4 cJ6_bitCount_0f7a4 1 (some .int) [.int x] (z, h) 0 0 (RO (some (.int (sBit x))) (z, h)) := by
  refine CT.of (lv := [.int x]) (by decide) (Nat.le_of_ble_eq_true rfl) rfl rfl ?_
  refine x_iload_n dJ6_bitCount_0f7a4_0 rfl ?_
  refine x_iload_n dJ6_bitCount_0f7a4_1 rfl ?_
  refine x_iconst (v := 1) dJ6_bitCount_0f7a4_2 rfl ?_
  refine x_iushr dJ6_bitCount_0f7a4_3 rfl ?_
  refine x_ldcw dJ6_bitCount_0f7a4_4 q324 ?_
  refine x_iand dJ6_bitCount_0f7a4_7 ?_
  refine x_isub dJ6_bitCount_0f7a4_8 ?_
  refine e_ist_n (lv' := fun v => [.int v]) dJ6_bitCount_0f7a4_9 (Nat.le_of_ble_eq_true rfl) rfl (fun _ => rfl) (fun v1 ev1 => ?_)
  refine x_iload_n dJ6_bitCount_0f7a4_10 rfl ?_
  refine x_ldcw dJ6_bitCount_0f7a4_11 q325 ?_
  refine x_iand dJ6_bitCount_0f7a4_14 ?_
  refine x_iload_n dJ6_bitCount_0f7a4_15 rfl ?_
  refine x_iconst (v := 2) dJ6_bitCount_0f7a4_16 rfl ?_
  refine x_iushr dJ6_bitCount_0f7a4_17 rfl ?_
  refine x_ldcw dJ6_bitCount_0f7a4_18 q325 ?_
  refine x_iand dJ6_bitCount_0f7a4_21 ?_
  refine x_iadd dJ6_bitCount_0f7a4_22 ?_
  refine e_ist_n (lv' := fun v => [.int v]) dJ6_bitCount_0f7a4_23 (Nat.le_of_ble_eq_true rfl) rfl (fun _ => rfl) (fun v2 ev2 => ?_)
  refine x_iload_n dJ6_bitCount_0f7a4_24 rfl ?_
  refine x_iload_n dJ6_bitCount_0f7a4_25 rfl ?_
  refine x_iconst (v := 4) dJ6_bitCount_0f7a4_26 rfl ?_
  refine x_iushr dJ6_bitCount_0f7a4_27 rfl ?_
  refine x_iadd dJ6_bitCount_0f7a4_28 ?_
  refine x_ldcw dJ6_bitCount_0f7a4_29 q326 ?_
  refine x_iand dJ6_bitCount_0f7a4_32 ?_
  refine e_ist_n (lv' := fun v => [.int v]) dJ6_bitCount_0f7a4_33 (Nat.le_of_ble_eq_true rfl) rfl (fun _ => rfl) (fun v3 ev3 => ?_)
  refine x_iload_n dJ6_bitCount_0f7a4_34 rfl ?_
  refine x_iload_n dJ6_bitCount_0f7a4_35 rfl ?_
  refine x_bipush (v := 8) dJ6_bitCount_0f7a4_36 rfl ?_
  refine x_iushr dJ6_bitCount_0f7a4_38 rfl ?_
  refine x_iadd dJ6_bitCount_0f7a4_39 ?_
  refine e_ist_n (lv' := fun v => [.int v]) dJ6_bitCount_0f7a4_40 (Nat.le_of_ble_eq_true rfl) rfl (fun _ => rfl) (fun v4 ev4 => ?_)
  refine x_iload_n dJ6_bitCount_0f7a4_41 rfl ?_
  refine x_iload_n dJ6_bitCount_0f7a4_42 rfl ?_
  refine x_bipush (v := 16) dJ6_bitCount_0f7a4_43 rfl ?_
  refine x_iushr dJ6_bitCount_0f7a4_45 rfl ?_
  refine x_iadd dJ6_bitCount_0f7a4_46 ?_
  refine e_ist_n (lv' := fun v => [.int v]) dJ6_bitCount_0f7a4_47 (Nat.le_of_ble_eq_true rfl) rfl (fun _ => rfl) (fun v5 ev5 => ?_)
  refine x_iload_n dJ6_bitCount_0f7a4_48 rfl ?_
  refine x_bipush (v := 63) dJ6_bitCount_0f7a4_49 rfl ?_
  refine x_iand dJ6_bitCount_0f7a4_51 ?_
  refine x_iret dJ6_bitCount_0f7a4_52 (Or.inl rfl) rfl (Nat.le_refl _) ?_
  exact RO.mk (by subst_vars; rfl)

set_option maxRecDepth 100000 in
set_option maxHeartbeats 4000000 in
theorem t_Cexists {st : Nat → Nat} (d : Nat) {z : Nat} {h : Nat → Option va_E} {a : Nat} {σ : Sg} (H : ClaimsAt h a σ) (x : Int32) : CT st (d + 1) yX0_exists cX0_exists 2 (some .boolean) [.ref a, .int x] (z, h) 0 0 (RO (some (.int (bI (sExists (σ 13 1) x)))) (z, h)) := by
  refine CT.of (lv := [.ref a, .int x]) (by decide) (Nat.le_of_ble_eq_true rfl) rfl rfl ?_
  refine x_iload_n dX0_exists_0 rfl ?_
  refine x_if_lt (tgt := 16) dX0_exists_1 (by decide) (fun c1 => ?_) (fun c1 => ?_)
  · refine x_iconst (v := 0) dX0_exists_16 rfl ?_
    refine x_iret dX0_exists_17 (Or.inr ⟨rfl, by first | rfl | exact bI_z _⟩) rfl (Nat.le_refl _) ?_
    exact RO.mk (by simp [bI, sExists, *])
  · refine x_iload_n dX0_exists_4 rfl ?_
    refine x_aload_n dX0_exists_5 rfl ?_
    refine x_get dX0_exists_6 fX0_9 H.ob rfl ?_
    refine x_icmp_ge (tgt := 16) dX0_exists_9 (by decide) (fun c9 => ?_) (fun c9 => ?_)
    · refine x_iconst (v := 0) dX0_exists_16 rfl ?_
      refine x_iret dX0_exists_17 (Or.inr ⟨rfl, by first | rfl | exact bI_z _⟩) rfl (Nat.le_refl _) ?_
      exact RO.mk (by simp [bI, sExists, *])
    · refine x_iconst (v := 1) dX0_exists_12 rfl ?_
      refine x_goto (tgt := 17) dX0_exists_13 (by decide) ?_
      refine x_iret dX0_exists_17 (Or.inr ⟨rfl, by first | rfl | exact bI_z _⟩) rfl (Nat.le_refl _) ?_
      exact RO.mk (by simp [bI, sExists, *])

set_option maxRecDepth 100000 in
set_option maxHeartbeats 4000000 in
theorem t_Lexists {st : Nat → Nat} (d : Nat) {z : Nat} {h : Nat → Option va_E} {a : Nat} {σ : Sg} (H : LotsAt h a σ) (x : Int32) : CT st (d + 1) yX1_exists cX1_exists 2 (some .boolean) [.ref a, .int x] (z, h) 0 0 (RO (some (.int (bI (sExists (σ 13 0) x)))) (z, h)) := by
  refine CT.of (lv := [.ref a, .int x]) (by decide) (Nat.le_of_ble_eq_true rfl) rfl rfl ?_
  refine x_iload_n dX1_exists_0 rfl ?_
  refine x_if_lt (tgt := 16) dX1_exists_1 (by decide) (fun c1 => ?_) (fun c1 => ?_)
  · refine x_iconst (v := 0) dX1_exists_16 rfl ?_
    refine x_iret dX1_exists_17 (Or.inr ⟨rfl, by first | rfl | exact bI_z _⟩) rfl (Nat.le_refl _) ?_
    exact RO.mk (by simp [bI, sExists, *])
  · refine x_iload_n dX1_exists_4 rfl ?_
    refine x_aload_n dX1_exists_5 rfl ?_
    refine x_get dX1_exists_6 fX1_9 H.ob rfl ?_
    refine x_icmp_ge (tgt := 16) dX1_exists_9 (by decide) (fun c9 => ?_) (fun c9 => ?_)
    · refine x_iconst (v := 0) dX1_exists_16 rfl ?_
      refine x_iret dX1_exists_17 (Or.inr ⟨rfl, by first | rfl | exact bI_z _⟩) rfl (Nat.le_refl _) ?_
      exact RO.mk (by simp [bI, sExists, *])
    · refine x_iconst (v := 1) dX1_exists_12 rfl ?_
      refine x_goto (tgt := 17) dX1_exists_13 (by decide) ?_
      refine x_iret dX1_exists_17 (Or.inr ⟨rfl, by first | rfl | exact bI_z _⟩) rfl (Nat.le_refl _) ?_
      exact RO.mk (by simp [bI, sExists, *])

set_option maxRecDepth 100000 in
set_option maxHeartbeats 4000000 in
theorem t_isOpen {st : Nat → Nat} (d : Nat) {z : Nat} {h : Nat → Option va_E} {a j : Nat} {σ : Sg} (H : ClaimsAt h a σ) (hj : j < 30) : CT st (d + 1) yX0_isOpen cX0_isOpen 2 (some .boolean) [.ref a, .int (nI j)] (z, h) 0 0 (RO (some (.int (bI (sOpen σ j)))) (z, h)) := by
  refine CT.of (lv := [.ref a, .int (nI j)]) (by decide) (Nat.le_of_ble_eq_true rfl) rfl rfl ?_
  refine x_aload_n dX0_isOpen_0 rfl ?_
  refine x_get dX0_isOpen_1 fX0_28 H.ob rfl ?_
  refine x_iload_n dX0_isOpen_4 rfl ?_
  refine e_ald dX0_isOpen_5 H.r9 (ax_ixN (j := j) (by omega) (Nat.le_of_ble_eq_true rfl)) ?_
  refine x_if_ne (tgt := 13) dX0_isOpen_6 (by decide) (fun c6 => ?_) (fun c6 => ?_)
  · refine x_iconst (v := 0) dX0_isOpen_13 rfl ?_
    refine x_iret dX0_isOpen_14 (Or.inr ⟨rfl, by first | rfl | exact bI_z _⟩) rfl (Nat.le_refl _) ?_
    exact RO.mk (by simp [bI, sOpen, *])
  · refine x_iconst (v := 1) dX0_isOpen_9 rfl ?_
    refine x_goto (tgt := 14) dX0_isOpen_10 (by decide) ?_
    refine x_iret dX0_isOpen_14 (Or.inr ⟨rfl, by first | rfl | exact bI_z _⟩) rfl (Nat.le_refl _) ?_
    exact RO.mk (by simp [bI, sOpen, *])

set_option maxRecDepth 100000 in
set_option maxHeartbeats 4000000 in
theorem t_stands {st : Nat → Nat} (d : Nat) {z : Nat} {h : Nat → Option va_E} {a j : Nat} {σ : Sg} (H : ClaimsAt h a σ) (hj : j < 30) : CT st (d + 1) yX0_stands cX0_stands 2 (some .boolean) [.ref a, .int (nI j)] (z, h) 0 0 (RO (some (.int (bI (sStands σ j)))) (z, h)) := by
  refine CT.of (lv := [.ref a, .int (nI j)]) (by decide) (Nat.le_of_ble_eq_true rfl) rfl rfl ?_
  refine x_aload_n dX0_stands_0 rfl ?_
  refine x_get dX0_stands_1 fX0_28 H.ob rfl ?_
  refine x_iload_n dX0_stands_4 rfl ?_
  refine e_ald dX0_stands_5 H.r9 (ax_ixN (j := j) (by omega) (Nat.le_of_ble_eq_true rfl)) ?_
  refine x_if_eq (tgt := 19) dX0_stands_6 (by decide) (fun c6 => ?_) (fun c6 => ?_)
  · refine x_iconst (v := 1) dX0_stands_19 rfl ?_
    refine x_goto (tgt := 24) dX0_stands_20 (by decide) ?_
    refine x_iret dX0_stands_24 (Or.inr ⟨rfl, by first | rfl | exact bI_z _⟩) rfl (Nat.le_refl _) ?_
    exact RO.mk (by simp [bI, sStands, *])
  · refine x_aload_n dX0_stands_9 rfl ?_
    refine x_get dX0_stands_10 fX0_28 H.ob rfl ?_
    refine x_iload_n dX0_stands_13 rfl ?_
    refine e_ald dX0_stands_14 H.r9 (ax_ixN (j := j) (by omega) (Nat.le_of_ble_eq_true rfl)) ?_
    refine x_iconst (v := 1) dX0_stands_15 rfl ?_
    refine x_icmp_ne (tgt := 23) dX0_stands_16 (by decide) (fun c16 => ?_) (fun c16 => ?_)
    · refine x_iconst (v := 0) dX0_stands_23 rfl ?_
      refine x_iret dX0_stands_24 (Or.inr ⟨rfl, by first | rfl | exact bI_z _⟩) rfl (Nat.le_refl _) ?_
      exact RO.mk (by simp [bI, sStands, *])
    · refine x_iconst (v := 1) dX0_stands_19 rfl ?_
      refine x_goto (tgt := 24) dX0_stands_20 (by decide) ?_
      refine x_iret dX0_stands_24 (Or.inr ⟨rfl, by first | rfl | exact bI_z _⟩) rfl (Nat.le_refl _) ?_
      exact RO.mk (by simp [bI, sStands, *])

set_option maxRecDepth 100000 in
set_option maxHeartbeats 4000000 in
theorem t_isOver {st : Nat → Nat} (d : Nat) {z : Nat} {h : Nat → Option va_E} {a j : Nat} {σ : Sg} (H : LotsAt h a σ) (hj : j < 12) : CT st (d + 1) yX1_isOver cX1_isOver 2 (some .boolean) [.ref a, .int (nI j)] (z, h) 0 0 (RO (some (.int (bI (sOver σ j)))) (z, h)) := by
  refine CT.of (lv := [.ref a, .int (nI j)]) (by decide) (Nat.le_of_ble_eq_true rfl) rfl rfl ?_
  refine x_aload_n dX1_isOver_0 rfl ?_
  refine x_get dX1_isOver_1 fX1_19 H.ob rfl ?_
  refine x_iload_n dX1_isOver_4 rfl ?_
  refine e_ald dX1_isOver_5 H.r2 (ax_ixN (j := j) (by omega) (Nat.le_of_ble_eq_true rfl)) ?_
  refine x_iconst (v := 2) dX1_isOver_6 rfl ?_
  refine x_icmp_eq (tgt := 20) dX1_isOver_7 (by decide) (fun c7 => ?_) (fun c7 => ?_)
  · refine x_iconst (v := 1) dX1_isOver_20 rfl ?_
    refine x_goto (tgt := 25) dX1_isOver_21 (by decide) ?_
    refine x_iret dX1_isOver_25 (Or.inr ⟨rfl, by first | rfl | exact bI_z _⟩) rfl (Nat.le_refl _) ?_
    exact RO.mk (by simp [bI, sOver, *])
  · refine x_aload_n dX1_isOver_10 rfl ?_
    refine x_get dX1_isOver_11 fX1_19 H.ob rfl ?_
    refine x_iload_n dX1_isOver_14 rfl ?_
    refine e_ald dX1_isOver_15 H.r2 (ax_ixN (j := j) (by omega) (Nat.le_of_ble_eq_true rfl)) ?_
    refine x_iconst (v := 4) dX1_isOver_16 rfl ?_
    refine x_icmp_ne (tgt := 24) dX1_isOver_17 (by decide) (fun c17 => ?_) (fun c17 => ?_)
    · refine x_iconst (v := 0) dX1_isOver_24 rfl ?_
      refine x_iret dX1_isOver_25 (Or.inr ⟨rfl, by first | rfl | exact bI_z _⟩) rfl (Nat.le_refl _) ?_
      exact RO.mk (by simp [bI, sOver, *])
    · refine x_iconst (v := 1) dX1_isOver_20 rfl ?_
      refine x_goto (tgt := 25) dX1_isOver_21 (by decide) ?_
      refine x_iret dX1_isOver_25 (Or.inr ⟨rfl, by first | rfl | exact bI_z _⟩) rfl (Nat.le_refl _) ?_
      exact RO.mk (by simp [bI, sOver, *])

set_option maxRecDepth 100000 in
set_option maxHeartbeats 4000000 in
theorem t_Call {st : Nat → Nat} (d : Nat) {z : Nat} {h : Nat → Option va_E} {a : Nat} {σ : Sg} (H : ClaimsAt h a σ) : CT st (d + 2) yX0_all cX0_all 1 (some .int) [.ref a] (z, h) 0 0 (RO (some (.int (cAll σ))) (z, h)) := by
  refine CT.of (lv := [.ref a]) (by decide) (Nat.le_of_ble_eq_true rfl) rfl rfl ?_
  refine x_aload_n dX0_all_0 rfl ?_
  refine x_get dX0_all_1 fX0_9 H.ob rfl ?_
  refine c_NR dX0_all_4 kX4_firstOnes q517 q516 (t_firstOnes _ _) rfl rfl (Nat.le_of_ble_eq_true rfl) ⟨Nat.le_refl _, Nat.le_refl _⟩ ?_
  refine x_iret dX0_all_7 (Or.inl rfl) rfl (Nat.le_refl _) ?_
  exact RO.mk rfl

set_option maxRecDepth 100000 in
set_option maxHeartbeats 4000000 in
theorem t_Lall {st : Nat → Nat} (d : Nat) {z : Nat} {h : Nat → Option va_E} {a : Nat} {σ : Sg} (H : LotsAt h a σ) : CT st (d + 2) yX1_all cX1_all 1 (some .int) [.ref a] (z, h) 0 0 (RO (some (.int (lAll σ))) (z, h)) := by
  refine CT.of (lv := [.ref a]) (by decide) (Nat.le_of_ble_eq_true rfl) rfl rfl ?_
  refine x_aload_n dX1_all_0 rfl ?_
  refine x_get dX1_all_1 fX1_9 H.ob rfl ?_
  refine c_NR dX1_all_4 kX4_firstOnes q517 q542 (t_firstOnes _ _) rfl rfl (Nat.le_of_ble_eq_true rfl) ⟨Nat.le_refl _, Nat.le_refl _⟩ ?_
  refine x_iret dX1_all_7 (Or.inl rfl) rfl (Nat.le_refl _) ?_
  exact RO.mk rfl

set_option maxRecDepth 100000 in
set_option maxHeartbeats 4000000 in
theorem t_CinState {st : Nat → Nat} (d : Nat) {z : Nat} {h : Nat → Option va_E} {a : Nat} {σ : Sg} (H : ClaimsAt h a σ) (hC : COk σ) (w : Int32) : CT st (d + 2) yX0_inState cX0_inState 2 (some .int) [.ref a, .int w] (z, h) 0 0 (RO (some (.int (cIn σ w))) (z, h)) := by
  refine CT.of (lv := [.ref a, .int w]) (by decide) (Nat.le_of_ble_eq_true rfl) rfl rfl ?_
  refine x_aload_n dX0_inState_0 rfl ?_
  refine x_get dX0_inState_1 fX0_28 H.ob rfl ?_
  refine x_aload_n dX0_inState_4 rfl ?_
  refine x_get dX0_inState_5 fX0_9 H.ob rfl ?_
  refine x_iload_n dX0_inState_8 rfl ?_
  refine c_NR dX0_inState_9 kX4_rowsWith q319 q350 (t_rowsWith _ (hn := hC.1) H.r9 (Nat.le_of_ble_eq_true rfl) hC.2 _) rfl rfl (Nat.le_of_ble_eq_true rfl) ⟨Nat.le_refl _, Nat.le_refl _⟩ ?_
  refine x_iret dX0_inState_12 (Or.inl rfl) rfl (Nat.le_refl _) ?_
  exact RO.mk rfl

set_option maxRecDepth 100000 in
set_option maxHeartbeats 4000000 in
theorem t_LinState {st : Nat → Nat} (d : Nat) {z : Nat} {h : Nat → Option va_E} {a : Nat} {σ : Sg} (H : LotsAt h a σ) (hL : LOk σ) (w : Int32) : CT st (d + 2) yX1_inState cX1_inState 2 (some .int) [.ref a, .int w] (z, h) 0 0 (RO (some (.int (lIn σ w))) (z, h)) := by
  refine CT.of (lv := [.ref a, .int w]) (by decide) (Nat.le_of_ble_eq_true rfl) rfl rfl ?_
  refine x_aload_n dX1_inState_0 rfl ?_
  refine x_get dX1_inState_1 fX1_19 H.ob rfl ?_
  refine x_aload_n dX1_inState_4 rfl ?_
  refine x_get dX1_inState_5 fX1_9 H.ob rfl ?_
  refine x_iload_n dX1_inState_8 rfl ?_
  refine c_NR dX1_inState_9 kX4_rowsWith q319 q318 (t_rowsWith _ (hn := hL.1) H.r2 (Nat.le_of_ble_eq_true rfl) hL.2 _) rfl rfl (Nat.le_of_ble_eq_true rfl) ⟨Nat.le_refl _, Nat.le_refl _⟩ ?_
  refine x_iret dX1_inState_12 (Or.inl rfl) rfl (Nat.le_refl _) ?_
  exact RO.mk rfl

set_option maxRecDepth 100000 in
set_option maxHeartbeats 4000000 in
theorem t_standing {st : Nat → Nat} (d : Nat) {z : Nat} {h : Nat → Option va_E} {a : Nat} {σ : Sg} (H : ClaimsAt h a σ) (hC : COk σ)  : CT st (d + 3) yX0_standing cX0_standing 1 (some .int) [.ref a] (z, h) 0 0 (RO (some (.int (cStanding σ))) (z, h)) := by
  refine CT.of (lv := [.ref a]) (by decide) (Nat.le_of_ble_eq_true rfl) rfl rfl ?_
  refine x_aload_n dX0_standing_0 rfl ?_
  refine x_iconst (v := 0) dX0_standing_1 rfl ?_
  refine c_VR dX0_standing_2 kX0_inState iX0_inState q363 (t_CinState _ H hC _) H.ob rfl rfl rfl (Nat.le_of_ble_eq_true rfl) ⟨Nat.le_refl _, Nat.le_refl _⟩ ?_
  refine x_aload_n dX0_standing_5 rfl ?_
  refine x_iconst (v := 1) dX0_standing_6 rfl ?_
  refine c_VR dX0_standing_7 kX0_inState iX0_inState q363 (t_CinState _ H hC _) H.ob rfl rfl rfl (Nat.le_of_ble_eq_true rfl) ⟨Nat.le_refl _, Nat.le_refl _⟩ ?_
  refine x_ior dX0_standing_10 ?_
  refine x_iret dX0_standing_11 (Or.inl rfl) rfl (Nat.le_refl _) ?_
  exact RO.mk rfl

set_option maxRecDepth 100000 in
set_option maxHeartbeats 4000000 in
theorem t_ofHeir {st : Nat → Nat} (d : Nat) {z : Nat} {h : Nat → Option va_E} {a : Nat} {σ : Sg} (H : ClaimsAt h a σ) (hC : COk σ) (w : Int32) : CT st (d + 2) yX0_ofHeir cX0_ofHeir 2 (some .int) [.ref a, .int w] (z, h) 0 0 (RO (some (.int (cOfHeir σ w))) (z, h)) := by
  refine CT.of (lv := [.ref a, .int w]) (by decide) (Nat.le_of_ble_eq_true rfl) rfl rfl ?_
  refine x_aload_n dX0_ofHeir_0 rfl ?_
  refine x_get dX0_ofHeir_1 fX0_15 H.ob rfl ?_
  refine x_aload_n dX0_ofHeir_4 rfl ?_
  refine x_get dX0_ofHeir_5 fX0_9 H.ob rfl ?_
  refine x_iload_n dX0_ofHeir_8 rfl ?_
  refine c_NR dX0_ofHeir_9 kX4_rowsWith q319 q350 (t_rowsWith _ (hn := hC.1) H.r5 (Nat.le_of_ble_eq_true rfl) hC.2 _) rfl rfl (Nat.le_of_ble_eq_true rfl) ⟨Nat.le_refl _, Nat.le_refl _⟩ ?_
  refine x_iret dX0_ofHeir_12 (Or.inl rfl) rfl (Nat.le_refl _) ?_
  exact RO.mk rfl

set_option maxRecDepth 100000 in
set_option maxHeartbeats 4000000 in
theorem t_toLot {st : Nat → Nat} (d : Nat) {z : Nat} {h : Nat → Option va_E} {a : Nat} {σ : Sg} (H : ClaimsAt h a σ) (hC : COk σ) (w : Int32) : CT st (d + 2) yX0_toLot cX0_toLot 2 (some .int) [.ref a, .int w] (z, h) 0 0 (RO (some (.int (cToLot σ w))) (z, h)) := by
  refine CT.of (lv := [.ref a, .int w]) (by decide) (Nat.le_of_ble_eq_true rfl) rfl rfl ?_
  refine x_aload_n dX0_toLot_0 rfl ?_
  refine x_get dX0_toLot_1 fX0_19 H.ob rfl ?_
  refine x_aload_n dX0_toLot_4 rfl ?_
  refine x_get dX0_toLot_5 fX0_9 H.ob rfl ?_
  refine x_iload_n dX0_toLot_8 rfl ?_
  refine c_NR dX0_toLot_9 kX4_rowsWith q319 q350 (t_rowsWith _ (hn := hC.1) H.r6 (Nat.le_of_ble_eq_true rfl) hC.2 _) rfl rfl (Nat.le_of_ble_eq_true rfl) ⟨Nat.le_refl _, Nat.le_refl _⟩ ?_
  refine x_iret dX0_toLot_12 (Or.inl rfl) rfl (Nat.le_refl _) ?_
  exact RO.mk rfl

set_option maxRecDepth 100000 in
set_option maxHeartbeats 4000000 in
theorem t_openTo {st : Nat → Nat} (d : Nat) {z : Nat} {h : Nat → Option va_E} {a : Nat} {σ : Sg} (H : ClaimsAt h a σ) (hC : COk σ) (w : Int32) : CT st (d + 3) yX0_openTo cX0_openTo 2 (some .int) [.ref a, .int w] (z, h) 0 0 (RO (some (.int (cOpenTo σ w))) (z, h)) := by
  refine CT.of (lv := [.ref a, .int w]) (by decide) (Nat.le_of_ble_eq_true rfl) rfl rfl ?_
  refine x_aload_n dX0_openTo_0 rfl ?_
  refine x_iload_n dX0_openTo_1 rfl ?_
  refine c_VR dX0_openTo_2 kX0_toLot iX0_toLot q355 (t_toLot _ H hC _) H.ob rfl rfl rfl (Nat.le_of_ble_eq_true rfl) ⟨Nat.le_refl _, Nat.le_refl _⟩ ?_
  refine x_aload_n dX0_openTo_5 rfl ?_
  refine x_iconst (v := 0) dX0_openTo_6 rfl ?_
  refine c_VR dX0_openTo_7 kX0_inState iX0_inState q363 (t_CinState _ H hC _) H.ob rfl rfl rfl (Nat.le_of_ble_eq_true rfl) ⟨Nat.le_refl _, Nat.le_refl _⟩ ?_
  refine x_iand dX0_openTo_10 ?_
  refine x_iret dX0_openTo_11 (Or.inl rfl) rfl (Nat.le_refl _) ?_
  exact RO.mk rfl

set_option maxRecDepth 100000 in
set_option maxHeartbeats 4000000 in
theorem t_upheldTo {st : Nat → Nat} (d : Nat) {z : Nat} {h : Nat → Option va_E} {a : Nat} {σ : Sg} (H : ClaimsAt h a σ) (hC : COk σ) (w : Int32) : CT st (d + 3) yX0_upheldTo cX0_upheldTo 2 (some .int) [.ref a, .int w] (z, h) 0 0 (RO (some (.int (cUpTo σ w))) (z, h)) := by
  refine CT.of (lv := [.ref a, .int w]) (by decide) (Nat.le_of_ble_eq_true rfl) rfl rfl ?_
  refine x_aload_n dX0_upheldTo_0 rfl ?_
  refine x_iload_n dX0_upheldTo_1 rfl ?_
  refine c_VR dX0_upheldTo_2 kX0_toLot iX0_toLot q355 (t_toLot _ H hC _) H.ob rfl rfl rfl (Nat.le_of_ble_eq_true rfl) ⟨Nat.le_refl _, Nat.le_refl _⟩ ?_
  refine x_aload_n dX0_upheldTo_5 rfl ?_
  refine x_iconst (v := 1) dX0_upheldTo_6 rfl ?_
  refine c_VR dX0_upheldTo_7 kX0_inState iX0_inState q363 (t_CinState _ H hC _) H.ob rfl rfl rfl (Nat.le_of_ble_eq_true rfl) ⟨Nat.le_refl _, Nat.le_refl _⟩ ?_
  refine x_iand dX0_upheldTo_10 ?_
  refine x_iret dX0_upheldTo_11 (Or.inl rfl) rfl (Nat.le_refl _) ?_
  exact RO.mk rfl

set_option maxRecDepth 100000 in
set_option maxHeartbeats 4000000 in
theorem t_standingTo {st : Nat → Nat} (d : Nat) {z : Nat} {h : Nat → Option va_E} {a : Nat} {σ : Sg} (H : ClaimsAt h a σ) (hC : COk σ) (w : Int32) : CT st (d + 4) yX0_standingTo cX0_standingTo 2 (some .int) [.ref a, .int w] (z, h) 0 0 (RO (some (.int (cStandTo σ w))) (z, h)) := by
  refine CT.of (lv := [.ref a, .int w]) (by decide) (Nat.le_of_ble_eq_true rfl) rfl rfl ?_
  refine x_aload_n dX0_standingTo_0 rfl ?_
  refine x_iload_n dX0_standingTo_1 rfl ?_
  refine c_VR dX0_standingTo_2 kX0_toLot iX0_toLot q355 (t_toLot _ H hC _) H.ob rfl rfl rfl (Nat.le_of_ble_eq_true rfl) ⟨Nat.le_refl _, Nat.le_refl _⟩ ?_
  refine x_aload_n dX0_standingTo_5 rfl ?_
  refine c_VR dX0_standingTo_6 kX0_standing iX0_standing q359 (t_standing _ H hC) H.ob rfl rfl rfl (Nat.le_of_ble_eq_true rfl) ⟨Nat.le_refl _, Nat.le_refl _⟩ ?_
  refine x_iand dX0_standingTo_9 ?_
  refine x_iret dX0_standingTo_10 (Or.inl rfl) rfl (Nat.le_refl _) ?_
  exact RO.mk rfl

set_option maxRecDepth 100000 in
set_option maxHeartbeats 4000000 in
theorem t_thatBrought {st : Nat → Nat} (d : Nat) {z : Nat} {h : Nat → Option va_E} {a : Nat} {σ : Sg} (H : ClaimsAt h a σ) (hC : COk σ)  : CT st (d + 3) yX0_thatBrought cX0_thatBrought 1 (some .int) [.ref a] (z, h) 0 0 (RO (some (.int (cBrought σ))) (z, h)) := by
  refine CT.of (lv := [.ref a]) (by decide) (Nat.le_of_ble_eq_true rfl) rfl rfl ?_
  refine x_aload_n dX0_thatBrought_0 rfl ?_
  refine c_VR dX0_thatBrought_1 kX0_all iX0_all q512 (t_Call _ H) H.ob rfl rfl rfl (Nat.le_of_ble_eq_true rfl) ⟨Nat.le_refl _, Nat.le_refl _⟩ ?_
  refine x_aload_n dX0_thatBrought_4 rfl ?_
  refine x_get dX0_thatBrought_5 fX0_34 H.ob rfl ?_
  refine x_aload_n dX0_thatBrought_8 rfl ?_
  refine x_get dX0_thatBrought_9 fX0_9 H.ob rfl ?_
  refine x_iconst (v := 0) dX0_thatBrought_12 rfl ?_
  refine c_NR dX0_thatBrought_13 kX4_rowsWith q319 q350 (t_rowsWith _ (hn := hC.1) H.r11 (Nat.le_of_ble_eq_true rfl) hC.2 _) rfl rfl (Nat.le_of_ble_eq_true rfl) ⟨Nat.le_refl _, Nat.le_refl _⟩ ?_
  refine x_iconst (v := (-1)) dX0_thatBrought_16 rfl ?_
  refine x_ixor dX0_thatBrought_17 ?_
  refine x_iand dX0_thatBrought_18 ?_
  refine x_iret dX0_thatBrought_19 (Or.inl rfl) rfl (Nat.le_refl _) ?_
  exact RO.mk rfl

set_option maxRecDepth 100000 in
set_option maxHeartbeats 4000000 in
theorem L_nearestLine {st : Nat → Nat} (d : Nat) {z : Nat} {h : Nat → Option va_E} {a : Nat} {σ : Sg} (H : ClaimsAt h a σ) (hC : COk σ) (w : Int32) : ∀ (k : Nat) (i : Nat) (r : Int32), i + k = nCl σ → lp (nlf σ w) i k r = cNearLine σ w → Ev st (d + 2) yX0_nearestLine cX0_nearestLine 4 (some .int) (z, h) 0 0 (RO (some (.int (cNearLine σ w))) (z, h)) 5 [.ref a, .int w, .int r, .int (nI i)] [] (z, h) 0 0 := by
  intro k
  induction k with
  | zero =>
    intro i r hik hR
    refine x_iload_n dX0_nearestLine_5 rfl ?_
    refine x_aload_n dX0_nearestLine_6 rfl ?_
    refine x_get dX0_nearestLine_7 fX0_9 H.ob rfl ?_
    have hc30 := hC.2
    rw [hC.1]
    refine x_icmp_ge (tgt := 50) dX0_nearestLine_10 (by decide) (fun c10 => ?_) (fun c10 => absurd (nI_le (a := nCl σ) (b := i) (by omega) (by omega)) c10)
    refine x_iload_n dX0_nearestLine_50 rfl ?_
    refine x_iret dX0_nearestLine_51 (Or.inl rfl) rfl (Nat.le_refl _) ?_
    exact RO.mk hR
  | succ k ih =>
    intro i r hik hR
    refine x_iload_n dX0_nearestLine_5 rfl ?_
    refine x_aload_n dX0_nearestLine_6 rfl ?_
    refine x_get dX0_nearestLine_7 fX0_9 H.ob rfl ?_
    have hc30 := hC.2
    rw [hC.1]
    refine x_icmp_ge (tgt := 50) dX0_nearestLine_10 (by decide) (fun c10 => absurd c10 (nI_ge (a := i) (b := nCl σ) (by omega) (by omega))) (fun c10 => ?_)
    refine x_iload_n dX0_nearestLine_13 rfl ?_
    refine x_iload_n dX0_nearestLine_14 rfl ?_
    refine c_NR dX0_nearestLine_15 kX4_holds q433 q432 (t_holds _ _ _) rfl rfl (Nat.le_of_ble_eq_true rfl) ⟨Nat.le_refl _, Nat.le_refl _⟩ ?_
    refine x_if_eq (tgt := 44) dX0_nearestLine_18 (by decide) (fun c18 => ?_) (fun c18 => ?_)
    · have c18 := bI_eq c18
      refine e_inc (lv' := fun v => [.ref a, .int w, .int r, .int v]) dX0_nearestLine_44 rfl rfl (fun _ => rfl) (fun v1 ev1 => ?_)
      refine x_goto (tgt := 5) dX0_nearestLine_47 (by decide) ?_
      obtain rfl := inc1 ev1
      exact ih (i + 1) _ (by omega) (by rw [← hR, lp_s]; congr 1; simp [nlf, *])
    · have c18 := bI_ne c18
      refine x_iload_n dX0_nearestLine_21 rfl ?_
      refine x_bipush (v := (-6)) dX0_nearestLine_22 rfl ?_
      refine x_icmp_eq (tgt := 37) dX0_nearestLine_24 (by decide) (fun c24 => ?_) (fun c24 => ?_)
      · refine x_aload_n dX0_nearestLine_37 rfl ?_
        refine x_get dX0_nearestLine_38 fX0_22 H.ob rfl ?_
        refine x_iload_n dX0_nearestLine_41 rfl ?_
        refine e_ald dX0_nearestLine_42 H.r7 (ax_ixN (j := i) (by omega) (Nat.le_of_ble_eq_true rfl)) ?_
        refine e_ist_n (lv' := fun v => [.ref a, .int w, .int v, .int (nI i)]) dX0_nearestLine_43 (Nat.le_of_ble_eq_true rfl) rfl (fun _ => rfl) (fun v2 ev2 => ?_)
        refine e_inc (lv' := fun v => [.ref a, .int w, .int v2, .int v]) dX0_nearestLine_44 rfl rfl (fun _ => rfl) (fun v3 ev3 => ?_)
        refine x_goto (tgt := 5) dX0_nearestLine_47 (by decide) ?_
        obtain rfl := inc1 ev3
        exact ih (i + 1) _ (by omega) (by rw [← hR, lp_s]; congr 1; subst ev2; simp [nlf, *])
      · refine x_aload_n dX0_nearestLine_27 rfl ?_
        refine x_get dX0_nearestLine_28 fX0_22 H.ob rfl ?_
        refine x_iload_n dX0_nearestLine_31 rfl ?_
        refine e_ald dX0_nearestLine_32 H.r7 (ax_ixN (j := i) (by omega) (Nat.le_of_ble_eq_true rfl)) ?_
        refine x_iload_n dX0_nearestLine_33 rfl ?_
        refine x_icmp_ge (tgt := 44) dX0_nearestLine_34 (by decide) (fun c34 => ?_) (fun c34 => ?_)
        · refine e_inc (lv' := fun v => [.ref a, .int w, .int r, .int v]) dX0_nearestLine_44 rfl rfl (fun _ => rfl) (fun v4 ev4 => ?_)
          refine x_goto (tgt := 5) dX0_nearestLine_47 (by decide) ?_
          obtain rfl := inc1 ev4
          exact ih (i + 1) _ (by omega) (by rw [← hR, lp_s]; congr 1; simp [nlf, *])
        · refine x_aload_n dX0_nearestLine_37 rfl ?_
          refine x_get dX0_nearestLine_38 fX0_22 H.ob rfl ?_
          refine x_iload_n dX0_nearestLine_41 rfl ?_
          refine e_ald dX0_nearestLine_42 H.r7 (ax_ixN (j := i) (by omega) (Nat.le_of_ble_eq_true rfl)) ?_
          refine e_ist_n (lv' := fun v => [.ref a, .int w, .int v, .int (nI i)]) dX0_nearestLine_43 (Nat.le_of_ble_eq_true rfl) rfl (fun _ => rfl) (fun v5 ev5 => ?_)
          refine e_inc (lv' := fun v => [.ref a, .int w, .int v5, .int v]) dX0_nearestLine_44 rfl rfl (fun _ => rfl) (fun v6 ev6 => ?_)
          refine x_goto (tgt := 5) dX0_nearestLine_47 (by decide) ?_
          obtain rfl := inc1 ev6
          exact ih (i + 1) _ (by omega) (by rw [← hR, lp_s]; congr 1; subst ev5; simp [nlf, *])

set_option maxRecDepth 100000 in
set_option maxHeartbeats 4000000 in
theorem t_nearestLine {st : Nat → Nat} (d : Nat) {z : Nat} {h : Nat → Option va_E} {a : Nat} {σ : Sg} (H : ClaimsAt h a σ) (hC : COk σ) (w : Int32) : CT st (d + 2) yX0_nearestLine cX0_nearestLine 4 (some .int) [.ref a, .int w] (z, h) 0 0 (RO (some (.int (cNearLine σ w))) (z, h)) := by
  refine CT.of (lv := [.ref a, .int w, .null, .null]) (by decide) (Nat.le_of_ble_eq_true rfl) rfl rfl ?_
  refine x_bipush (v := (-6)) dX0_nearestLine_0 rfl ?_
  refine e_ist_n (lv' := fun v => [.ref a, .int w, .int v, .null]) dX0_nearestLine_2 (Nat.le_of_ble_eq_true rfl) rfl (fun _ => rfl) (fun v1 ev1 => ?_)
  refine x_iconst (v := 0) dX0_nearestLine_3 rfl ?_
  refine e_ist_n (lv' := fun v => [.ref a, .int w, .int v1, .int v]) dX0_nearestLine_4 (Nat.le_of_ble_eq_true rfl) rfl (fun _ => rfl) (fun v2 ev2 => ?_)
  subst ev1 ev2
  exact L_nearestLine d H hC w (nCl σ) 0 (-6) (by omega) rfl

set_option maxRecDepth 100000 in
set_option maxHeartbeats 4000000 in
theorem t_nearest {st : Nat → Nat} (d : Nat) {z : Nat} {h : Nat → Option va_E} {a : Nat} {σ : Sg} (H : ClaimsAt h a σ) (hC : COk σ) (w : Int32) : CT st (d + 3) yX0_nearest cX0_nearest 2 (some .int) [.ref a, .int w] (z, h) 0 0 (RO (some (.int (cNearest σ w))) (z, h)) := by
  refine CT.of (lv := [.ref a, .int w]) (by decide) (Nat.le_of_ble_eq_true rfl) rfl rfl ?_
  refine x_iload_n dX0_nearest_0 rfl ?_
  refine x_aload_n dX0_nearest_1 rfl ?_
  refine x_get dX0_nearest_2 fX0_22 H.ob rfl ?_
  refine x_aload_n dX0_nearest_5 rfl ?_
  refine x_get dX0_nearest_6 fX0_9 H.ob rfl ?_
  refine x_aload_n dX0_nearest_9 rfl ?_
  refine x_iload_n dX0_nearest_10 rfl ?_
  refine c_VR dX0_nearest_11 kX0_nearestLine iX0_nearestLine q428 (t_nearestLine _ H hC _) H.ob rfl rfl rfl (Nat.le_of_ble_eq_true rfl) ⟨Nat.le_refl _, Nat.le_refl _⟩ ?_
  refine c_NR dX0_nearest_14 kX4_rowsWith q319 q350 (t_rowsWith _ (hn := hC.1) H.r7 (Nat.le_of_ble_eq_true rfl) hC.2 _) rfl rfl (Nat.le_of_ble_eq_true rfl) ⟨Nat.le_refl _, Nat.le_refl _⟩ ?_
  refine x_iand dX0_nearest_17 ?_
  refine x_iret dX0_nearest_18 (Or.inl rfl) rfl (Nat.le_refl _) ?_
  exact RO.mk rfl

set_option maxRecDepth 100000 in
set_option maxHeartbeats 4000000 in
theorem t_isHeir {st : Nat → Nat} (d : Nat) {z : Nat} {h : Nat → Option va_E} (x : Int32) : CT st (d + 1) yX2_isHeir cX2_isHeir 1 (some .boolean) [.int x] (z, h) 0 0 (RO (some (.int (bI (sHeir x)))) (z, h)) := by
  refine CT.of (lv := [.int x]) (by decide) (Nat.le_of_ble_eq_true rfl) rfl rfl ?_
  refine x_iload_n dX2_isHeir_0 rfl ?_
  refine x_if_lt (tgt := 14) dX2_isHeir_1 (by decide) (fun c1 => ?_) (fun c1 => ?_)
  · refine x_iconst (v := 0) dX2_isHeir_14 rfl ?_
    refine x_iret dX2_isHeir_15 (Or.inr ⟨rfl, by first | rfl | exact bI_z _⟩) rfl (Nat.le_refl _) ?_
    exact RO.mk (by simp [bI, sHeir, *])
  · refine x_iload_n dX2_isHeir_4 rfl ?_
    refine x_bipush (v := 16) dX2_isHeir_5 rfl ?_
    refine x_icmp_ge (tgt := 14) dX2_isHeir_7 (by decide) (fun c7 => ?_) (fun c7 => ?_)
    · refine x_iconst (v := 0) dX2_isHeir_14 rfl ?_
      refine x_iret dX2_isHeir_15 (Or.inr ⟨rfl, by first | rfl | exact bI_z _⟩) rfl (Nat.le_refl _) ?_
      exact RO.mk (by simp [bI, sHeir, *])
    · refine x_iconst (v := 1) dX2_isHeir_10 rfl ?_
      refine x_goto (tgt := 15) dX2_isHeir_11 (by decide) ?_
      refine x_iret dX2_isHeir_15 (Or.inr ⟨rfl, by first | rfl | exact bI_z _⟩) rfl (Nat.le_refl _) ?_
      exact RO.mk (by simp [bI, sHeir, *])

set_option maxRecDepth 100000 in
set_option maxHeartbeats 4000000 in
theorem t_canBeClaimed {st : Nat → Nat} (d : Nat) {z : Nat} {h : Nat → Option va_E} {o : Nat} {σ : Sg} (H : OffAt h o σ) (hL : LOk σ) (hC : COk σ) {j : Nat} (hj : j < 12)  : CT st (d + 2) yX2_canBeClaimed cX2_canBeClaimed 2 (some .boolean) [.ref o, .int (nI j)] (z, h) 0 0 (RO (some (.int (bI (sCanClaim σ j)))) (z, h)) := by
  refine CT.of (lv := [.ref o, .int (nI j)]) (by decide) (Nat.le_of_ble_eq_true rfl) rfl rfl ?_
  refine x_aload_n dX2_canBeClaimed_0 rfl ?_
  refine x_get dX2_canBeClaimed_1 fX2_18 H.ob rfl ?_
  refine x_get dX2_canBeClaimed_4 fX2_72 H.lo.ob rfl ?_
  refine x_iload_n dX2_canBeClaimed_7 rfl ?_
  refine e_ald dX2_canBeClaimed_8 H.lo.r2 (ax_ixN (j := j) (by omega) (Nat.le_of_ble_eq_true rfl)) ?_
  refine x_iconst (v := 3) dX2_canBeClaimed_9 rfl ?_
  refine x_icmp_ne (tgt := 37) dX2_canBeClaimed_10 (by decide) (fun c10 => ?_) (fun c10 => ?_)
  · refine x_aload_n dX2_canBeClaimed_37 rfl ?_
    refine x_get dX2_canBeClaimed_38 fX2_18 H.ob rfl ?_
    refine x_iload_n dX2_canBeClaimed_41 rfl ?_
    refine c_VR dX2_canBeClaimed_42 kX1_isOver iX1_isOver q342 (t_isOver _ H.lo (by omega)) H.lo.ob rfl rfl rfl (Nat.le_of_ble_eq_true rfl) ⟨Nat.le_refl _, Nat.le_refl _⟩ ?_
    refine x_if_ne (tgt := 52) dX2_canBeClaimed_45 (by decide) (fun c45 => ?_) (fun c45 => ?_)
    · have c45 := bI_ne c45
      refine x_iconst (v := 0) dX2_canBeClaimed_52 rfl ?_
      refine x_iret dX2_canBeClaimed_53 (Or.inr ⟨rfl, by first | rfl | exact bI_z _⟩) rfl (Nat.le_refl _) ?_
      exact RO.mk (by simp [bI, sCanClaim, *])
    · have c45 := bI_eq c45
      refine x_iconst (v := 1) dX2_canBeClaimed_48 rfl ?_
      refine x_goto (tgt := 53) dX2_canBeClaimed_49 (by decide) ?_
      refine x_iret dX2_canBeClaimed_53 (Or.inr ⟨rfl, by first | rfl | exact bI_z _⟩) rfl (Nat.le_refl _) ?_
      exact RO.mk (by simp [bI, sCanClaim, *])
  · refine x_aload_n dX2_canBeClaimed_13 rfl ?_
    refine x_get dX2_canBeClaimed_14 fX2_18 H.ob rfl ?_
    refine x_get dX2_canBeClaimed_17 fX2_106 H.lo.ob rfl ?_
    refine x_iload_n dX2_canBeClaimed_20 rfl ?_
    refine e_ald dX2_canBeClaimed_21 H.lo.r4 (ax_ixN (j := j) (by omega) (Nat.le_of_ble_eq_true rfl)) ?_
    refine x_aload_n dX2_canBeClaimed_22 rfl ?_
    refine x_get dX2_canBeClaimed_23 fX2_9 H.ob rfl ?_
    refine x_iconst (v := 3) dX2_canBeClaimed_26 rfl ?_
    refine e_ald dX2_canBeClaimed_27 H.r0 (ax_ixN (j := 3) (Nat.le_of_ble_eq_true rfl) (Nat.le_of_ble_eq_true rfl)) ?_
    refine x_icmp_gt (tgt := 35) dX2_canBeClaimed_28 (by decide) (fun c28 => ?_) (fun c28 => ?_)
    · refine x_iconst (v := 0) dX2_canBeClaimed_35 rfl ?_
      refine x_iret dX2_canBeClaimed_36 (Or.inr ⟨rfl, by first | rfl | exact bI_z _⟩) rfl (Nat.le_refl _) ?_
      exact RO.mk (by simp [bI, sCanClaim, *])
    · refine x_iconst (v := 1) dX2_canBeClaimed_31 rfl ?_
      refine x_goto (tgt := 36) dX2_canBeClaimed_32 (by decide) ?_
      refine x_iret dX2_canBeClaimed_36 (Or.inr ⟨rfl, by first | rfl | exact bI_z _⟩) rfl (Nat.le_refl _) ?_
      exact RO.mk (by simp [bI, sCanClaim, *])

set_option maxRecDepth 100000 in
set_option maxHeartbeats 4000000 in
theorem t_coinsToShare {st : Nat → Nat} (d : Nat) {z : Nat} {h : Nat → Option va_E} {o : Nat} {σ : Sg} (H : OffAt h o σ) (hL : LOk σ) (hC : COk σ) {j : Nat} (hj : j < 12)  : CT st (d + 1) yX2_coinsToShare cX2_coinsToShare 3 (some .int) [.ref o, .int (nI j)] (z, h) 0 0 (RO (some (.int (sCoins σ j))) (z, h)) := by
  refine CT.of (lv := [.ref o, .int (nI j), .null]) (by decide) (Nat.le_of_ble_eq_true rfl) rfl rfl ?_
  refine x_aload_n dX2_coinsToShare_0 rfl ?_
  refine x_get dX2_coinsToShare_1 fX2_18 H.ob rfl ?_
  refine x_get dX2_coinsToShare_4 fX2_65 H.lo.ob rfl ?_
  refine x_iload_n dX2_coinsToShare_7 rfl ?_
  refine e_ald dX2_coinsToShare_8 H.lo.r1 (ax_ixN (j := j) (by omega) (Nat.le_of_ble_eq_true rfl)) ?_
  refine e_ist_n (lv' := fun v => [.ref o, .int (nI j), .int v]) dX2_coinsToShare_9 (Nat.le_of_ble_eq_true rfl) rfl (fun _ => rfl) (fun v1 ev1 => ?_)
  refine x_aload_n dX2_coinsToShare_10 rfl ?_
  refine x_get dX2_coinsToShare_11 fX2_18 H.ob rfl ?_
  refine x_get dX2_coinsToShare_14 fX2_72 H.lo.ob rfl ?_
  refine x_iload_n dX2_coinsToShare_17 rfl ?_
  refine e_ald dX2_coinsToShare_18 H.lo.r2 (ax_ixN (j := j) (by omega) (Nat.le_of_ble_eq_true rfl)) ?_
  refine x_iconst (v := 3) dX2_coinsToShare_19 rfl ?_
  refine x_icmp_ne (tgt := 39) dX2_coinsToShare_20 (by decide) (fun c20 => ?_) (fun c20 => ?_)
  · refine x_iload_n dX2_coinsToShare_39 rfl ?_
    refine x_iret dX2_coinsToShare_40 (Or.inl rfl) rfl (Nat.le_refl _) ?_
    exact RO.mk (by subst_vars; simp [sCoins, *])
  · refine x_iload_n dX2_coinsToShare_23 rfl ?_
    refine x_iload_n dX2_coinsToShare_24 rfl ?_
    refine x_aload_n dX2_coinsToShare_25 rfl ?_
    refine x_get dX2_coinsToShare_26 fX2_9 H.ob rfl ?_
    refine x_iconst (v := 4) dX2_coinsToShare_29 rfl ?_
    refine e_ald dX2_coinsToShare_30 H.r0 (ax_ixN (j := 4) (Nat.le_of_ble_eq_true rfl) (Nat.le_of_ble_eq_true rfl)) ?_
    refine x_imul dX2_coinsToShare_31 ?_
    refine x_bipush (v := 100) dX2_coinsToShare_32 rfl ?_
    refine x_idiv dX2_coinsToShare_34 (by decide) ?_
    refine x_isub dX2_coinsToShare_35 ?_
    refine x_goto (tgt := 40) dX2_coinsToShare_36 (by decide) ?_
    refine x_iret dX2_coinsToShare_40 (Or.inl rfl) rfl (Nat.le_refl _) ?_
    exact RO.mk (by subst_vars; simp [sCoins, *])

set_option maxRecDepth 100000 in
set_option maxHeartbeats 4000000 in
theorem t_part {st : Nat → Nat} (d : Nat) {z : Nat} {h : Nat → Option va_E} (x sh c : Int32) : CT st (d + 2) yX2_part cX2_part 5 (some .int) [.int x, .int sh, .int c] (z, h) 0 0 (RO (some (.int (sPart x sh c))) (z, h)) := by
  refine CT.of (lv := [.int x, .int sh, .int c, .null, .null]) (by decide) (Nat.le_of_ble_eq_true rfl) rfl rfl ?_
  refine x_iload_n dX2_part_0 rfl ?_
  refine c_SR dX2_part_1 kJ6_bitCount_0f7a4 q322 q321 (t_bitCount _ _) rfl rfl (Nat.le_of_ble_eq_true rfl) ⟨Nat.le_refl _, Nat.le_refl _⟩ ?_
  refine e_ist_n (lv' := fun v => [.int x, .int sh, .int c, .int v, .null]) dX2_part_4 (Nat.le_of_ble_eq_true rfl) rfl (fun _ => rfl) (fun v1 ev1 => ?_)
  refine x_iload_n dX2_part_5 rfl ?_
  refine x_if_eq (tgt := 15) dX2_part_6 (by decide) (fun c6 => ?_) (fun c6 => ?_)
  · refine x_iconst (v := 0) dX2_part_15 rfl ?_
    refine x_iret dX2_part_16 (Or.inl rfl) rfl (Nat.le_refl _) ?_
    exact RO.mk (by subst_vars; simp [sPart, *])
  · refine x_iload_n dX2_part_9 rfl ?_
    refine x_iload_n dX2_part_10 rfl ?_
    refine x_iand dX2_part_11 ?_
    refine x_if_ne (tgt := 17) dX2_part_12 (by decide) (fun c12 => ?_) (fun c12 => ?_)
    · refine x_iload_n dX2_part_17 rfl ?_
      refine x_iload_n dX2_part_18 rfl ?_
      refine x_iconst (v := 1) dX2_part_19 rfl ?_
      refine x_isub dX2_part_20 ?_
      refine x_iand dX2_part_21 ?_
      refine c_SR dX2_part_22 kJ6_bitCount_0f7a4 q322 q321 (t_bitCount _ _) rfl rfl (Nat.le_of_ble_eq_true rfl) ⟨Nat.le_refl _, Nat.le_refl _⟩ ?_
      refine e_ist (lv' := fun v => [.int x, .int sh, .int c, .int v1, .int v]) dX2_part_25 (Nat.le_of_ble_eq_true rfl) rfl (fun _ => rfl) (fun v2 ev2 => ?_)
      refine x_iload_n dX2_part_27 rfl ?_
      refine x_iload_n dX2_part_28 rfl ?_
      refine x_idiv dX2_part_29 c6 ?_
      refine x_iload dX2_part_30 rfl ?_
      refine x_iload_n dX2_part_32 rfl ?_
      refine x_iload_n dX2_part_33 rfl ?_
      refine x_irem dX2_part_34 c6 ?_
      refine x_icmp_ge (tgt := 42) dX2_part_35 (by decide) (fun c35 => ?_) (fun c35 => ?_)
      · refine x_iconst (v := 0) dX2_part_42 rfl ?_
        refine x_iadd dX2_part_43 ?_
        refine x_iret dX2_part_44 (Or.inl rfl) rfl (Nat.le_refl _) ?_
        exact RO.mk (by subst_vars; simp [sPart, *])
      · refine x_iconst (v := 1) dX2_part_38 rfl ?_
        refine x_goto (tgt := 43) dX2_part_39 (by decide) ?_
        refine x_iadd dX2_part_43 ?_
        refine x_iret dX2_part_44 (Or.inl rfl) rfl (Nat.le_refl _) ?_
        exact RO.mk (by subst_vars; simp [sPart, *])
    · refine x_iconst (v := 0) dX2_part_15 rfl ?_
      refine x_iret dX2_part_16 (Or.inl rfl) rfl (Nat.le_refl _) ?_
      exact RO.mk (by subst_vars; simp [sPart, *])

set_option maxRecDepth 100000 in
set_option maxHeartbeats 4000000 in
theorem t_purse {st : Nat → Nat} (d : Nat) {z : Nat} {h : Nat → Option va_E} {o : Nat} {σ : Sg} (H : OffAt h o σ) (hL : LOk σ) (hC : COk σ) (x : Int32) : CT st (d + 3) yX2_purse cX2_purse 2 (some .int) [.ref o, .int x] (z, h) 0 0 (RO (some (.int (sPurse σ x))) (z, h)) := by
  refine CT.of (lv := [.ref o, .int x]) (by decide) (Nat.le_of_ble_eq_true rfl) rfl rfl ?_
  refine x_aload_n dX2_purse_0 rfl ?_
  refine x_get dX2_purse_1 fX2_25 H.ob rfl ?_
  refine x_get dX2_purse_4 fX2_162 H.cl.ob rfl ?_
  refine x_aload_n dX2_purse_7 rfl ?_
  refine x_get dX2_purse_8 fX2_25 H.ob rfl ?_
  refine x_iload_n dX2_purse_11 rfl ?_
  refine c_VR dX2_purse_12 kX0_ofHeir iX0_ofHeir q346 (t_ofHeir _ H.cl hC _) H.cl.ob rfl rfl rfl (Nat.le_of_ble_eq_true rfl) ⟨Nat.le_refl _, Nat.le_refl _⟩ ?_
  refine c_NR dX2_purse_15 kX4_sum q448 q447 (t_sum _ H.cl.r11 (Nat.le_of_ble_eq_true rfl) _) rfl rfl (Nat.le_of_ble_eq_true rfl) ⟨Nat.le_refl _, Nat.le_refl _⟩ ?_
  refine x_iret dX2_purse_18 (Or.inl rfl) rfl (Nat.le_refl _) ?_
  exact RO.mk rfl

set_option maxRecDepth 100000 in
set_option maxHeartbeats 4000000 in
theorem t_daysToLapse {st : Nat → Nat} (d : Nat) {z : Nat} {h : Nat → Option va_E} {o j : Nat} {σ : Sg} (H : OffAt h o σ) (hj : j < 30)  : CT st (d + 1) yX2_daysToLapse cX2_daysToLapse 2 (some .int) [.ref o, .int (nI j)] (z, h) 0 0 (RO (some (.int (sLapse σ j))) (z, h)) := by
  refine CT.of (lv := [.ref o, .int (nI j)]) (by decide) (Nat.le_of_ble_eq_true rfl) rfl rfl ?_
  refine x_iconst (v := 1) dX2_daysToLapse_0 rfl ?_
  refine x_aload_n dX2_daysToLapse_1 rfl ?_
  refine x_get dX2_daysToLapse_2 fX2_9 H.ob rfl ?_
  refine x_iconst (v := 2) dX2_daysToLapse_5 rfl ?_
  refine e_ald dX2_daysToLapse_6 H.r0 (ax_ixN (j := 2) (Nat.le_of_ble_eq_true rfl) (Nat.le_of_ble_eq_true rfl)) ?_
  refine x_aload_n dX2_daysToLapse_7 rfl ?_
  refine x_get dX2_daysToLapse_8 fX2_25 H.ob rfl ?_
  refine x_get dX2_daysToLapse_11 fX2_125 H.cl.ob rfl ?_
  refine x_iload_n dX2_daysToLapse_14 rfl ?_
  refine e_ald dX2_daysToLapse_15 H.cl.r10 (ax_ixN (j := j) (by omega) (Nat.le_of_ble_eq_true rfl)) ?_
  refine x_isub dX2_daysToLapse_16 ?_
  refine x_max dX2_daysToLapse_17 q568 wMax (Nat.le_of_ble_eq_true rfl) ⟨Nat.le_refl _, Nat.le_refl _⟩ ?_
  refine x_iret dX2_daysToLapse_20 (Or.inl rfl) rfl (Nat.le_refl _) ?_
  exact RO.mk rfl
end
