section
-- ===== PART A: goes FIRST, ahead of the names: the tables' words, and 'selects' of the private methods out of them =====
/-- a private method of a class that the tables say can be made, by its rows of tables_1 -/
def lw_okq (q : MethodName × Nat) : Prop := (q.1.cls ≠ "java/lang/invoke/MethodHandle" ∧ q.1.cls ≠ "java/lang/invoke/VarHandle") ∧ Cond.instantiable q.1.cls q.2 ∈ tables_1 ∧ Cond.privateMethod q.1 ∈ tables_1 ∧ Cond.instanceMethod q.1 ∈ tables_1
theorem lw_p0 : lw_okq (⟨"Strikehall$Contract", "hasQuote", "()Z"⟩, 10) := ⟨⟨by decide +kernel, by decide +kernel⟩, List.mem_of_getElem? (i := 148) (by decide +kernel), List.mem_of_getElem? (i := 146) (by decide +kernel), List.mem_of_getElem? (i := 147) (by decide +kernel)⟩
theorem lw_p1 : lw_okq (⟨"Strikehall$Contract", "takeQuoteAway", "()V"⟩, 10) := ⟨⟨by decide +kernel, by decide +kernel⟩, List.mem_of_getElem? (i := 148) (by decide +kernel), List.mem_of_getElem? (i := 151) (by decide +kernel), List.mem_of_getElem? (i := 152) (by decide +kernel)⟩
theorem lw_p2 : lw_okq (⟨"Strikehall$Contract", "tellQuote", "(III)V"⟩, 10) := ⟨⟨by decide +kernel, by decide +kernel⟩, List.mem_of_getElem? (i := 148) (by decide +kernel), List.mem_of_getElem? (i := 155) (by decide +kernel), List.mem_of_getElem? (i := 156) (by decide +kernel)⟩
theorem lw_p3 : lw_okq (⟨"Strikehall$Contract", "dropUsedUp", "()V"⟩, 10) := ⟨⟨by decide +kernel, by decide +kernel⟩, List.mem_of_getElem? (i := 148) (by decide +kernel), List.mem_of_getElem? (i := 159) (by decide +kernel), List.mem_of_getElem? (i := 160) (by decide +kernel)⟩
theorem lw_p4 : lw_okq (⟨"Strikehall", "firstFault", "()I"⟩, 8) := ⟨⟨by decide +kernel, by decide +kernel⟩, List.mem_of_getElem? (i := 22) (by decide +kernel), List.mem_of_getElem? (i := 168) (by decide +kernel), List.mem_of_getElem? (i := 169) (by decide +kernel)⟩
theorem lw_p5 : lw_okq (⟨"Strikehall", "hasCrossedQuote", "()Z"⟩, 8) := ⟨⟨by decide +kernel, by decide +kernel⟩, List.mem_of_getElem? (i := 22) (by decide +kernel), List.mem_of_getElem? (i := 172) (by decide +kernel), List.mem_of_getElem? (i := 173) (by decide +kernel)⟩
theorem lw_p6 : lw_okq (⟨"Strikehall$Contract", "isQuotedBoth", "()Z"⟩, 10) := ⟨⟨by decide +kernel, by decide +kernel⟩, List.mem_of_getElem? (i := 148) (by decide +kernel), List.mem_of_getElem? (i := 176) (by decide +kernel), List.mem_of_getElem? (i := 177) (by decide +kernel)⟩
theorem lw_p7 : lw_okq (⟨"Strikehall", "hasStrikesFault", "()Z"⟩, 8) := ⟨⟨by decide +kernel, by decide +kernel⟩, List.mem_of_getElem? (i := 22) (by decide +kernel), List.mem_of_getElem? (i := 180) (by decide +kernel), List.mem_of_getElem? (i := 181) (by decide +kernel)⟩
theorem lw_p8 : lw_okq (⟨"Strikehall", "hasMiddleFault", "()Z"⟩, 8) := ⟨⟨by decide +kernel, by decide +kernel⟩, List.mem_of_getElem? (i := 22) (by decide +kernel), List.mem_of_getElem? (i := 190) (by decide +kernel), List.mem_of_getElem? (i := 191) (by decide +kernel)⟩
theorem lw_p9 : lw_okq (⟨"Strikehall", "hasMiddleFaultWith", "(LStrikehall$Contract;LStrikehall$Contract;)Z"⟩, 8) := ⟨⟨by decide +kernel, by decide +kernel⟩, List.mem_of_getElem? (i := 22) (by decide +kernel), List.mem_of_getElem? (i := 194) (by decide +kernel), List.mem_of_getElem? (i := 195) (by decide +kernel)⟩
theorem lw_p10 : lw_okq (⟨"Strikehall", "hasExpiriesFault", "()Z"⟩, 8) := ⟨⟨by decide +kernel, by decide +kernel⟩, List.mem_of_getElem? (i := 22) (by decide +kernel), List.mem_of_getElem? (i := 201) (by decide +kernel), List.mem_of_getElem? (i := 202) (by decide +kernel)⟩
theorem lw_p11 : lw_okq (⟨"Strikehall", "worthNow", "()J"⟩, 8) := ⟨⟨by decide +kernel, by decide +kernel⟩, List.mem_of_getElem? (i := 22) (by decide +kernel), List.mem_of_getElem? (i := 212) (by decide +kernel), List.mem_of_getElem? (i := 213) (by decide +kernel)⟩
theorem lw_p12 : lw_okq (⟨"Strikehall", "worthAt", "(I)J"⟩, 8) := ⟨⟨by decide +kernel, by decide +kernel⟩, List.mem_of_getElem? (i := 22) (by decide +kernel), List.mem_of_getElem? (i := 216) (by decide +kernel), List.mem_of_getElem? (i := 217) (by decide +kernel)⟩
theorem lw_p13 : lw_okq (⟨"Strikehall", "moneyAt", "(I)J"⟩, 8) := ⟨⟨by decide +kernel, by decide +kernel⟩, List.mem_of_getElem? (i := 22) (by decide +kernel), List.mem_of_getElem? (i := 220) (by decide +kernel), List.mem_of_getElem? (i := 221) (by decide +kernel)⟩
theorem lw_p14 : lw_okq (⟨"Strikehall$Contract", "lotsAt", "(I)I"⟩, 10) := ⟨⟨by decide +kernel, by decide +kernel⟩, List.mem_of_getElem? (i := 148) (by decide +kernel), List.mem_of_getElem? (i := 225) (by decide +kernel), List.mem_of_getElem? (i := 226) (by decide +kernel)⟩
theorem lw_p15 : lw_okq (⟨"Strikehall$Share", "markAt", "(LStrikehall$Contract;I)I"⟩, 6) := ⟨⟨by decide +kernel, by decide +kernel⟩, List.mem_of_getElem? (i := 30) (by decide +kernel), List.mem_of_getElem? (i := 229) (by decide +kernel), List.mem_of_getElem? (i := 230) (by decide +kernel)⟩
def lw_privs_1 : List (MethodName × Nat) := [(⟨"Strikehall$Contract", "hasQuote", "()Z"⟩, 10), (⟨"Strikehall$Contract", "takeQuoteAway", "()V"⟩, 10), (⟨"Strikehall$Contract", "tellQuote", "(III)V"⟩, 10), (⟨"Strikehall$Contract", "dropUsedUp", "()V"⟩, 10), (⟨"Strikehall", "firstFault", "()I"⟩, 8), (⟨"Strikehall", "hasCrossedQuote", "()Z"⟩, 8), (⟨"Strikehall$Contract", "isQuotedBoth", "()Z"⟩, 10), (⟨"Strikehall", "hasStrikesFault", "()Z"⟩, 8), (⟨"Strikehall", "hasMiddleFault", "()Z"⟩, 8), (⟨"Strikehall", "hasMiddleFaultWith", "(LStrikehall$Contract;LStrikehall$Contract;)Z"⟩, 8), (⟨"Strikehall", "hasExpiriesFault", "()Z"⟩, 8), (⟨"Strikehall", "worthNow", "()J"⟩, 8), (⟨"Strikehall", "worthAt", "(I)J"⟩, 8), (⟨"Strikehall", "moneyAt", "(I)J"⟩, 8), (⟨"Strikehall$Contract", "lotsAt", "(I)I"⟩, 10), (⟨"Strikehall$Share", "markAt", "(LStrikehall$Contract;I)I"⟩, 6)]
theorem lw_r1 : ∀ q ∈ lw_privs_1, lw_okq q := List.forall_mem_cons.mpr ⟨lw_p0, List.forall_mem_cons.mpr ⟨lw_p1, List.forall_mem_cons.mpr ⟨lw_p2, List.forall_mem_cons.mpr ⟨lw_p3, List.forall_mem_cons.mpr ⟨lw_p4, List.forall_mem_cons.mpr ⟨lw_p5, List.forall_mem_cons.mpr ⟨lw_p6, List.forall_mem_cons.mpr ⟨lw_p7, List.forall_mem_cons.mpr ⟨lw_p8, List.forall_mem_cons.mpr ⟨lw_p9, List.forall_mem_cons.mpr ⟨lw_p10, List.forall_mem_cons.mpr ⟨lw_p11, List.forall_mem_cons.mpr ⟨lw_p12, List.forall_mem_cons.mpr ⟨lw_p13, List.forall_mem_cons.mpr ⟨lw_p14, List.forall_mem_cons.mpr ⟨lw_p15, fun _ h => absurd h List.not_mem_nil⟩⟩⟩⟩⟩⟩⟩⟩⟩⟩⟩⟩⟩⟩⟩⟩
theorem lw_p16 : lw_okq (⟨"Strikehall$Share", "numberAt", "(LStrikehall$Contract;I)J"⟩, 6) := ⟨⟨by decide +kernel, by decide +kernel⟩, List.mem_of_getElem? (i := 30) (by decide +kernel), List.mem_of_getElem? (i := 233) (by decide +kernel), List.mem_of_getElem? (i := 234) (by decide +kernel)⟩
theorem lw_p17 : lw_okq (⟨"Strikehall$Share", "lowestAfter", "(II)I"⟩, 6) := ⟨⟨by decide +kernel, by decide +kernel⟩, List.mem_of_getElem? (i := 30) (by decide +kernel), List.mem_of_getElem? (i := 237) (by decide +kernel), List.mem_of_getElem? (i := 238) (by decide +kernel)⟩
theorem lw_p18 : lw_okq (⟨"Strikehall$Share", "dividendOn", "(I)I"⟩, 6) := ⟨⟨by decide +kernel, by decide +kernel⟩, List.mem_of_getElem? (i := 30) (by decide +kernel), List.mem_of_getElem? (i := 241) (by decide +kernel), List.mem_of_getElem? (i := 242) (by decide +kernel)⟩
theorem lw_p19 : lw_okq (⟨"Strikehall$Contract", "paysAt", "(I)I"⟩, 10) := ⟨⟨by decide +kernel, by decide +kernel⟩, List.mem_of_getElem? (i := 148) (by decide +kernel), List.mem_of_getElem? (i := 245) (by decide +kernel), List.mem_of_getElem? (i := 246) (by decide +kernel)⟩
theorem lw_p20 : lw_okq (⟨"Strikehall$Share", "belowOf", "(LStrikehall$Contract;)J"⟩, 6) := ⟨⟨by decide +kernel, by decide +kernel⟩, List.mem_of_getElem? (i := 30) (by decide +kernel), List.mem_of_getElem? (i := 255) (by decide +kernel), List.mem_of_getElem? (i := 256) (by decide +kernel)⟩
theorem lw_p21 : lw_okq (⟨"java/lang/Throwable", "fillInStackTrace", "(I)Ljava/lang/Throwable;"⟩, 6) := ⟨⟨by decide +kernel, by decide +kernel⟩, List.mem_of_getElem? (i := 317) (by decide +kernel), List.mem_of_getElem? (i := 315) (by decide +kernel), List.mem_of_getElem? (i := 316) (by decide +kernel)⟩
theorem lw_p22 : lw_okq (⟨"Strikehall", "addProfit", "(IJ)V"⟩, 8) := ⟨⟨by decide +kernel, by decide +kernel⟩, List.mem_of_getElem? (i := 22) (by decide +kernel), List.mem_of_getElem? (i := 347) (by decide +kernel), List.mem_of_getElem? (i := 348) (by decide +kernel)⟩
theorem lw_p23 : lw_okq (⟨"Strikehall$Share", "tellDividend", "(II)V"⟩, 6) := ⟨⟨by decide +kernel, by decide +kernel⟩, List.mem_of_getElem? (i := 30) (by decide +kernel), List.mem_of_getElem? (i := 366) (by decide +kernel), List.mem_of_getElem? (i := 367) (by decide +kernel)⟩
theorem lw_p24 : lw_okq (⟨"java/util/ArrayList", "add", "(Ljava/lang/Object;[Ljava/lang/Object;I)V"⟩, 3) := ⟨⟨by decide +kernel, by decide +kernel⟩, List.mem_of_getElem? (i := 72) (by decide +kernel), List.mem_of_getElem? (i := 445) (by decide +kernel), List.mem_of_getElem? (i := 446) (by decide +kernel)⟩
theorem lw_p25 : lw_okq (⟨"java/util/ArrayList", "grow", "()[Ljava/lang/Object;"⟩, 3) := ⟨⟨by decide +kernel, by decide +kernel⟩, List.mem_of_getElem? (i := 72) (by decide +kernel), List.mem_of_getElem? (i := 449) (by decide +kernel), List.mem_of_getElem? (i := 450) (by decide +kernel)⟩
theorem lw_p26 : lw_okq (⟨"java/util/ArrayList", "grow", "(I)[Ljava/lang/Object;"⟩, 3) := ⟨⟨by decide +kernel, by decide +kernel⟩, List.mem_of_getElem? (i := 72) (by decide +kernel), List.mem_of_getElem? (i := 453) (by decide +kernel), List.mem_of_getElem? (i := 454) (by decide +kernel)⟩
theorem lw_p27 : lw_okq (⟨"Strikehall", "contractOf", "(I)LStrikehall$Contract;"⟩, 8) := ⟨⟨by decide +kernel, by decide +kernel⟩, List.mem_of_getElem? (i := 22) (by decide +kernel), List.mem_of_getElem? (i := 501) (by decide +kernel), List.mem_of_getElem? (i := 502) (by decide +kernel)⟩
theorem lw_p28 : lw_okq (⟨"Strikehall", "checkNotOver", "(LStrikehall$Contract;)V"⟩, 8) := ⟨⟨by decide +kernel, by decide +kernel⟩, List.mem_of_getElem? (i := 22) (by decide +kernel), List.mem_of_getElem? (i := 521) (by decide +kernel), List.mem_of_getElem? (i := 522) (by decide +kernel)⟩
theorem lw_p29 : lw_okq (⟨"Strikehall", "buy", "(ILStrikehall$Contract;II)I"⟩, 8) := ⟨⟨by decide +kernel, by decide +kernel⟩, List.mem_of_getElem? (i := 22) (by decide +kernel), List.mem_of_getElem? (i := 546) (by decide +kernel), List.mem_of_getElem? (i := 547) (by decide +kernel)⟩
theorem lw_p30 : lw_okq (⟨"Strikehall", "deal", "(ILStrikehall$Contract;II)V"⟩, 8) := ⟨⟨by decide +kernel, by decide +kernel⟩, List.mem_of_getElem? (i := 22) (by decide +kernel), List.mem_of_getElem? (i := 551) (by decide +kernel), List.mem_of_getElem? (i := 552) (by decide +kernel)⟩
theorem lw_p31 : lw_okq (⟨"Strikehall$Contract", "addLots", "(II)V"⟩, 10) := ⟨⟨by decide +kernel, by decide +kernel⟩, List.mem_of_getElem? (i := 148) (by decide +kernel), List.mem_of_getElem? (i := 555) (by decide +kernel), List.mem_of_getElem? (i := 556) (by decide +kernel)⟩
def lw_privs_2 : List (MethodName × Nat) := [(⟨"Strikehall$Share", "numberAt", "(LStrikehall$Contract;I)J"⟩, 6), (⟨"Strikehall$Share", "lowestAfter", "(II)I"⟩, 6), (⟨"Strikehall$Share", "dividendOn", "(I)I"⟩, 6), (⟨"Strikehall$Contract", "paysAt", "(I)I"⟩, 10), (⟨"Strikehall$Share", "belowOf", "(LStrikehall$Contract;)J"⟩, 6), (⟨"java/lang/Throwable", "fillInStackTrace", "(I)Ljava/lang/Throwable;"⟩, 6), (⟨"Strikehall", "addProfit", "(IJ)V"⟩, 8), (⟨"Strikehall$Share", "tellDividend", "(II)V"⟩, 6), (⟨"java/util/ArrayList", "add", "(Ljava/lang/Object;[Ljava/lang/Object;I)V"⟩, 3), (⟨"java/util/ArrayList", "grow", "()[Ljava/lang/Object;"⟩, 3), (⟨"java/util/ArrayList", "grow", "(I)[Ljava/lang/Object;"⟩, 3), (⟨"Strikehall", "contractOf", "(I)LStrikehall$Contract;"⟩, 8), (⟨"Strikehall", "checkNotOver", "(LStrikehall$Contract;)V"⟩, 8), (⟨"Strikehall", "buy", "(ILStrikehall$Contract;II)I"⟩, 8), (⟨"Strikehall", "deal", "(ILStrikehall$Contract;II)V"⟩, 8), (⟨"Strikehall$Contract", "addLots", "(II)V"⟩, 10)]
theorem lw_r2 : ∀ q ∈ lw_privs_2, lw_okq q := List.forall_mem_cons.mpr ⟨lw_p16, List.forall_mem_cons.mpr ⟨lw_p17, List.forall_mem_cons.mpr ⟨lw_p18, List.forall_mem_cons.mpr ⟨lw_p19, List.forall_mem_cons.mpr ⟨lw_p20, List.forall_mem_cons.mpr ⟨lw_p21, List.forall_mem_cons.mpr ⟨lw_p22, List.forall_mem_cons.mpr ⟨lw_p23, List.forall_mem_cons.mpr ⟨lw_p24, List.forall_mem_cons.mpr ⟨lw_p25, List.forall_mem_cons.mpr ⟨lw_p26, List.forall_mem_cons.mpr ⟨lw_p27, List.forall_mem_cons.mpr ⟨lw_p28, List.forall_mem_cons.mpr ⟨lw_p29, List.forall_mem_cons.mpr ⟨lw_p30, List.forall_mem_cons.mpr ⟨lw_p31, fun _ h => absurd h List.not_mem_nil⟩⟩⟩⟩⟩⟩⟩⟩⟩⟩⟩⟩⟩⟩⟩⟩
theorem lw_p32 : lw_okq (⟨"Strikehall", "addMoney", "(IJ)V"⟩, 8) := ⟨⟨by decide +kernel, by decide +kernel⟩, List.mem_of_getElem? (i := 22) (by decide +kernel), List.mem_of_getElem? (i := 559) (by decide +kernel), List.mem_of_getElem? (i := 560) (by decide +kernel)⟩
theorem lw_p33 : lw_okq (⟨"Strikehall$Contract", "useQuote", "(II)V"⟩, 10) := ⟨⟨by decide +kernel, by decide +kernel⟩, List.mem_of_getElem? (i := 148) (by decide +kernel), List.mem_of_getElem? (i := 563) (by decide +kernel), List.mem_of_getElem? (i := 564) (by decide +kernel)⟩
theorem lw_p34 : lw_okq (⟨"Strikehall", "sell", "(ILStrikehall$Contract;II)I"⟩, 8) := ⟨⟨by decide +kernel, by decide +kernel⟩, List.mem_of_getElem? (i := 22) (by decide +kernel), List.mem_of_getElem? (i := 567) (by decide +kernel), List.mem_of_getElem? (i := 568) (by decide +kernel)⟩
theorem lw_p35 : lw_okq (⟨"Strikehall", "exerciseLots", "(ILStrikehall$Contract;I)V"⟩, 8) := ⟨⟨by decide +kernel, by decide +kernel⟩, List.mem_of_getElem? (i := 22) (by decide +kernel), List.mem_of_getElem? (i := 604) (by decide +kernel), List.mem_of_getElem? (i := 605) (by decide +kernel)⟩
theorem lw_p36 : lw_okq (⟨"Strikehall$Contract", "owed", "()I"⟩, 10) := ⟨⟨by decide +kernel, by decide +kernel⟩, List.mem_of_getElem? (i := 148) (by decide +kernel), List.mem_of_getElem? (i := 609) (by decide +kernel), List.mem_of_getElem? (i := 610) (by decide +kernel)⟩
theorem lw_p37 : lw_okq (⟨"Strikehall$Lottery", "drawOf", "(I)I"⟩, 1) := ⟨⟨by decide +kernel, by decide +kernel⟩, List.mem_of_getElem? (i := 61) (by decide +kernel), List.mem_of_getElem? (i := 613) (by decide +kernel), List.mem_of_getElem? (i := 614) (by decide +kernel)⟩
theorem lw_p38 : lw_okq (⟨"Strikehall$Contract", "owerOf", "(I)I"⟩, 10) := ⟨⟨by decide +kernel, by decide +kernel⟩, List.mem_of_getElem? (i := 148) (by decide +kernel), List.mem_of_getElem? (i := 621) (by decide +kernel), List.mem_of_getElem? (i := 622) (by decide +kernel)⟩
theorem lw_p39 : lw_okq (⟨"Strikehall$Contract", "setNotice", "(IZ)Z"⟩, 10) := ⟨⟨by decide +kernel, by decide +kernel⟩, List.mem_of_getElem? (i := 148) (by decide +kernel), List.mem_of_getElem? (i := 632) (by decide +kernel), List.mem_of_getElem? (i := 633) (by decide +kernel)⟩
theorem lw_p40 : lw_okq (⟨"Strikehall", "expire", "(LStrikehall$Contract;)V"⟩, 8) := ⟨⟨by decide +kernel, by decide +kernel⟩, List.mem_of_getElem? (i := 22) (by decide +kernel), List.mem_of_getElem? (i := 644) (by decide +kernel), List.mem_of_getElem? (i := 645) (by decide +kernel)⟩
theorem lw_p41 : lw_okq (⟨"Strikehall$Contract", "hasNotice", "(I)Z"⟩, 10) := ⟨⟨by decide +kernel, by decide +kernel⟩, List.mem_of_getElem? (i := 148) (by decide +kernel), List.mem_of_getElem? (i := 648) (by decide +kernel), List.mem_of_getElem? (i := 649) (by decide +kernel)⟩
theorem lw_p42 : lw_okq (⟨"Strikehall$Contract", "dropLots", "()V"⟩, 10) := ⟨⟨by decide +kernel, by decide +kernel⟩, List.mem_of_getElem? (i := 148) (by decide +kernel), List.mem_of_getElem? (i := 652) (by decide +kernel), List.mem_of_getElem? (i := 653) (by decide +kernel)⟩
theorem lw_p43 : lw_okq (⟨"StrikehallModel", "worthAt", "(I)J"⟩, 26) := ⟨⟨by decide +kernel, by decide +kernel⟩, List.mem_of_getElem? (i := 725) (by decide +kernel), List.mem_of_getElem? (i := 822) (by decide +kernel), List.mem_of_getElem? (i := 823) (by decide +kernel)⟩
theorem lw_p44 : lw_okq (⟨"StrikehallModel", "markAt", "(II)J"⟩, 26) := ⟨⟨by decide +kernel, by decide +kernel⟩, List.mem_of_getElem? (i := 725) (by decide +kernel), List.mem_of_getElem? (i := 830) (by decide +kernel), List.mem_of_getElem? (i := 831) (by decide +kernel)⟩
theorem lw_p45 : lw_okq (⟨"StrikehallModel", "finds", "(II)V"⟩, 26) := ⟨⟨by decide +kernel, by decide +kernel⟩, List.mem_of_getElem? (i := 725) (by decide +kernel), List.mem_of_getElem? (i := 834) (by decide +kernel), List.mem_of_getElem? (i := 835) (by decide +kernel)⟩
theorem lw_p46 : lw_okq (⟨"StrikehallModel", "priceOf", "(III)J"⟩, 26) := ⟨⟨by decide +kernel, by decide +kernel⟩, List.mem_of_getElem? (i := 725) (by decide +kernel), List.mem_of_getElem? (i := 838) (by decide +kernel), List.mem_of_getElem? (i := 839) (by decide +kernel)⟩
theorem lw_p47 : lw_okq (⟨"StrikehallModel", "pays", "(IJ)J"⟩, 26) := ⟨⟨by decide +kernel, by decide +kernel⟩, List.mem_of_getElem? (i := 725) (by decide +kernel), List.mem_of_getElem? (i := 842) (by decide +kernel), List.mem_of_getElem? (i := 843) (by decide +kernel)⟩
def lw_privs_3 : List (MethodName × Nat) := [(⟨"Strikehall", "addMoney", "(IJ)V"⟩, 8), (⟨"Strikehall$Contract", "useQuote", "(II)V"⟩, 10), (⟨"Strikehall", "sell", "(ILStrikehall$Contract;II)I"⟩, 8), (⟨"Strikehall", "exerciseLots", "(ILStrikehall$Contract;I)V"⟩, 8), (⟨"Strikehall$Contract", "owed", "()I"⟩, 10), (⟨"Strikehall$Lottery", "drawOf", "(I)I"⟩, 1), (⟨"Strikehall$Contract", "owerOf", "(I)I"⟩, 10), (⟨"Strikehall$Contract", "setNotice", "(IZ)Z"⟩, 10), (⟨"Strikehall", "expire", "(LStrikehall$Contract;)V"⟩, 8), (⟨"Strikehall$Contract", "hasNotice", "(I)Z"⟩, 10), (⟨"Strikehall$Contract", "dropLots", "()V"⟩, 10), (⟨"StrikehallModel", "worthAt", "(I)J"⟩, 26), (⟨"StrikehallModel", "markAt", "(II)J"⟩, 26), (⟨"StrikehallModel", "finds", "(II)V"⟩, 26), (⟨"StrikehallModel", "priceOf", "(III)J"⟩, 26), (⟨"StrikehallModel", "pays", "(IJ)J"⟩, 26)]
theorem lw_r3 : ∀ q ∈ lw_privs_3, lw_okq q := List.forall_mem_cons.mpr ⟨lw_p32, List.forall_mem_cons.mpr ⟨lw_p33, List.forall_mem_cons.mpr ⟨lw_p34, List.forall_mem_cons.mpr ⟨lw_p35, List.forall_mem_cons.mpr ⟨lw_p36, List.forall_mem_cons.mpr ⟨lw_p37, List.forall_mem_cons.mpr ⟨lw_p38, List.forall_mem_cons.mpr ⟨lw_p39, List.forall_mem_cons.mpr ⟨lw_p40, List.forall_mem_cons.mpr ⟨lw_p41, List.forall_mem_cons.mpr ⟨lw_p42, List.forall_mem_cons.mpr ⟨lw_p43, List.forall_mem_cons.mpr ⟨lw_p44, List.forall_mem_cons.mpr ⟨lw_p45, List.forall_mem_cons.mpr ⟨lw_p46, List.forall_mem_cons.mpr ⟨lw_p47, fun _ h => absurd h List.not_mem_nil⟩⟩⟩⟩⟩⟩⟩⟩⟩⟩⟩⟩⟩⟩⟩⟩
theorem lw_p48 : lw_okq (⟨"StrikehallModel", "isContract", "(I)Z"⟩, 26) := ⟨⟨by decide +kernel, by decide +kernel⟩, List.mem_of_getElem? (i := 725) (by decide +kernel), List.mem_of_getElem? (i := 865) (by decide +kernel), List.mem_of_getElem? (i := 866) (by decide +kernel)⟩
theorem lw_p49 : lw_okq (⟨"StrikehallModel", "firstFault", "()I"⟩, 26) := ⟨⟨by decide +kernel, by decide +kernel⟩, List.mem_of_getElem? (i := 725) (by decide +kernel), List.mem_of_getElem? (i := 869) (by decide +kernel), List.mem_of_getElem? (i := 870) (by decide +kernel)⟩
theorem lw_p50 : lw_okq (⟨"StrikehallModel", "hasBoth", "(I)Z"⟩, 26) := ⟨⟨by decide +kernel, by decide +kernel⟩, List.mem_of_getElem? (i := 725) (by decide +kernel), List.mem_of_getElem? (i := 873) (by decide +kernel), List.mem_of_getElem? (i := 874) (by decide +kernel)⟩
theorem lw_p51 : lw_okq (⟨"StrikehallModel", "faultOf", "(II)I"⟩, 26) := ⟨⟨by decide +kernel, by decide +kernel⟩, List.mem_of_getElem? (i := 725) (by decide +kernel), List.mem_of_getElem? (i := 877) (by decide +kernel), List.mem_of_getElem? (i := 878) (by decide +kernel)⟩
theorem lw_p52 : lw_okq (⟨"StrikehallModel", "isAlike", "(IIZ)Z"⟩, 26) := ⟨⟨by decide +kernel, by decide +kernel⟩, List.mem_of_getElem? (i := 725) (by decide +kernel), List.mem_of_getElem? (i := 881) (by decide +kernel), List.mem_of_getElem? (i := 882) (by decide +kernel)⟩
theorem lw_p53 : lw_okq (⟨"StrikehallModel", "isMiddle", "(II)Z"⟩, 26) := ⟨⟨by decide +kernel, by decide +kernel⟩, List.mem_of_getElem? (i := 725) (by decide +kernel), List.mem_of_getElem? (i := 885) (by decide +kernel), List.mem_of_getElem? (i := 886) (by decide +kernel)⟩
theorem lw_p54 : lw_okq (⟨"StrikehallModel", "hasQuote", "(I)Z"⟩, 26) := ⟨⟨by decide +kernel, by decide +kernel⟩, List.mem_of_getElem? (i := 725) (by decide +kernel), List.mem_of_getElem? (i := 893) (by decide +kernel), List.mem_of_getElem? (i := 894) (by decide +kernel)⟩
theorem lw_p55 : lw_okq (⟨"StrikehallModel", "deals", "(IIII)V"⟩, 26) := ⟨⟨by decide +kernel, by decide +kernel⟩, List.mem_of_getElem? (i := 725) (by decide +kernel), List.mem_of_getElem? (i := 910) (by decide +kernel), List.mem_of_getElem? (i := 911) (by decide +kernel)⟩
theorem lw_p56 : lw_okq (⟨"StrikehallModel", "exercisesOne", "(IIJ)V"⟩, 26) := ⟨⟨by decide +kernel, by decide +kernel⟩, List.mem_of_getElem? (i := 725) (by decide +kernel), List.mem_of_getElem? (i := 934) (by decide +kernel), List.mem_of_getElem? (i := 935) (by decide +kernel)⟩
theorem lw_p57 : lw_okq (⟨"StrikehallModel", "owed", "(I)I"⟩, 26) := ⟨⟨by decide +kernel, by decide +kernel⟩, List.mem_of_getElem? (i := 725) (by decide +kernel), List.mem_of_getElem? (i := 938) (by decide +kernel), List.mem_of_getElem? (i := 939) (by decide +kernel)⟩
theorem lw_p58 : lw_okq (⟨"StrikehallModel", "draw", "(I)I"⟩, 26) := ⟨⟨by decide +kernel, by decide +kernel⟩, List.mem_of_getElem? (i := 725) (by decide +kernel), List.mem_of_getElem? (i := 942) (by decide +kernel), List.mem_of_getElem? (i := 943) (by decide +kernel)⟩
theorem lw_p59 : lw_okq (⟨"StrikehallModel", "expires", "(I)V"⟩, 26) := ⟨⟨by decide +kernel, by decide +kernel⟩, List.mem_of_getElem? (i := 725) (by decide +kernel), List.mem_of_getElem? (i := 958) (by decide +kernel), List.mem_of_getElem? (i := 959) (by decide +kernel)⟩
def lw_privs_4 : List (MethodName × Nat) := [(⟨"StrikehallModel", "isContract", "(I)Z"⟩, 26), (⟨"StrikehallModel", "firstFault", "()I"⟩, 26), (⟨"StrikehallModel", "hasBoth", "(I)Z"⟩, 26), (⟨"StrikehallModel", "faultOf", "(II)I"⟩, 26), (⟨"StrikehallModel", "isAlike", "(IIZ)Z"⟩, 26), (⟨"StrikehallModel", "isMiddle", "(II)Z"⟩, 26), (⟨"StrikehallModel", "hasQuote", "(I)Z"⟩, 26), (⟨"StrikehallModel", "deals", "(IIII)V"⟩, 26), (⟨"StrikehallModel", "exercisesOne", "(IIJ)V"⟩, 26), (⟨"StrikehallModel", "owed", "(I)I"⟩, 26), (⟨"StrikehallModel", "draw", "(I)I"⟩, 26), (⟨"StrikehallModel", "expires", "(I)V"⟩, 26)]
theorem lw_r4 : ∀ q ∈ lw_privs_4, lw_okq q := List.forall_mem_cons.mpr ⟨lw_p48, List.forall_mem_cons.mpr ⟨lw_p49, List.forall_mem_cons.mpr ⟨lw_p50, List.forall_mem_cons.mpr ⟨lw_p51, List.forall_mem_cons.mpr ⟨lw_p52, List.forall_mem_cons.mpr ⟨lw_p53, List.forall_mem_cons.mpr ⟨lw_p54, List.forall_mem_cons.mpr ⟨lw_p55, List.forall_mem_cons.mpr ⟨lw_p56, List.forall_mem_cons.mpr ⟨lw_p57, List.forall_mem_cons.mpr ⟨lw_p58, List.forall_mem_cons.mpr ⟨lw_p59, fun _ h => absurd h List.not_mem_nil⟩⟩⟩⟩⟩⟩⟩⟩⟩⟩⟩⟩
def lw_privs : List (MethodName × Nat) := lw_privs_1 ++ (lw_privs_2 ++ (lw_privs_3 ++ (lw_privs_4)))
def lw_tbl : List Cond := k2_sels lw_privs ++ tables_1
theorem lw_privs_ok : ∀ q ∈ lw_privs, lw_okq q := by
  show ∀ q ∈ lw_privs_1 ++ (lw_privs_2 ++ (lw_privs_3 ++ (lw_privs_4))), lw_okq q
  exact List.forall_mem_append.mpr ⟨lw_r1, List.forall_mem_append.mpr ⟨lw_r2, List.forall_mem_append.mpr ⟨lw_r3, lw_r4⟩⟩⟩
-- ===== end of PART A; then your names; then what follows =====
end
section
/-- all good words of the tables -/
def lw_U : List Cond := lw_tbl.filter goodWord
theorem lw_inU {w : Cond} (i : Nat) (h : lw_tbl[i]? = some w) (g : goodWord w = true) : w ∈ lw_U := List.mem_filter.mpr ⟨List.mem_of_getElem? h, g⟩
theorem lw_UU : GoodIn lw_U lw_U := fun w h => ⟨h, good_of_word (List.mem_filter.mp h).2⟩
theorem lw_good {w : Cond} (h : w ∈ lw_U) : (w.onTables && w.keeps) = true ∨ ∃ ty, w = .arrayClass ty := good_of_word (List.mem_filter.mp h).2
theorem lw_gc {w : Cond} {ws : List Cond} (h : w ∈ lw_U) (g : GoodIn lw_U ws) : GoodIn lw_U (w :: ws) := fun v hv => (List.mem_cons.mp hv).elim (fun e => by rw [e]; exact ⟨h, lw_good h⟩) (g v)
theorem lw_gV {own C : String} {idx : Nat} {y : MethodName} {w : Cond} (h1 : Cond.methodLink own idx y ∈ lw_U) (h2 : Cond.instanceMethod y ∈ lw_U) (h3 : Cond.selects C y y ∈ lw_U) (h4 : Cond.initialized C ∈ lw_U) (h5 : w ∈ lw_U) : GoodIn lw_U (wsV own idx C y (w :: lw_U)) := lw_gc h1 (lw_gc h2 (lw_gc h3 (lw_gc h4 (lw_gc h5 lw_UU))))
theorem lw_gS {own : String} {idx : Nat} {y : MethodName} {w : Cond} (h1 : Cond.methodLink own idx y ∈ lw_U) (h2 : Cond.static y ∈ lw_U) (h4 : Cond.initialized own ∈ lw_U) (h5 : w ∈ lw_U) : GoodIn lw_U (wsS own idx y (w :: lw_U)) := lw_gc h1 (lw_gc h2 (lw_gc h4 (lw_gc h5 lw_UU)))
end
section
def RX0 : String := "Strikehall$Contract"
def TX0 : u_T := fun k => match k with
  | 0 => ("Strikehall$Contract", "kind", "I", true)
  | 1 => ("Strikehall$Contract", "strike", "I", true)
  | 2 => ("Strikehall$Contract", "expiry", "I", true)
  | 3 => ("Strikehall$Contract", "isAmerican", "Z", true)
  | 4 => ("Strikehall$Contract", "held", "[I", true)
  | 5 => ("Strikehall$Contract", "notices", "[Z", true)
  | 6 => ("Strikehall$Contract", "bid", "I", false)
  | 7 => ("Strikehall$Contract", "ask", "I", false)
  | 8 => ("Strikehall$Contract", "bidLeft", "I", false)
  | _ => ("Strikehall$Contract", "askLeft", "I", false)
def tyX0 : Nat → FieldType := fun k => match k with
  | 0 => .int
  | 1 => .int
  | 2 => .int
  | 3 => .boolean
  | 4 => .array .int
  | 5 => .array .boolean
  | 6 => .int
  | 7 => .int
  | 8 => .int
  | _ => .int
theorem nmX0 : ∀ a, a < 10 → ∀ b, b < 10 → a ≠ b → (TX0 a).2.1 ≠ (TX0 b).2.1 := by decide +kernel
theorem tyX0_ok : ∀ k, k < 10 → parseFieldDescriptor (TX0 k).2.2.1 = some (tyX0 k) := by decide +kernel
abbrev cX0_init : ByteArray := prog_2_method_1_code
def yX0_init : MethodName := ⟨RX0, "<init>", "(IIIZ)V"⟩
abbrev cX0_paysAt : ByteArray := prog_2_method_2_code
def yX0_paysAt : MethodName := ⟨RX0, "paysAt", "(I)I"⟩
abbrev cX0_tellQuote : ByteArray := prog_2_method_3_code
def yX0_tellQuote : MethodName := ⟨RX0, "tellQuote", "(III)V"⟩
abbrev cX0_useQuote : ByteArray := prog_2_method_4_code
def yX0_useQuote : MethodName := ⟨RX0, "useQuote", "(II)V"⟩
abbrev cX0_takeQuoteAway : ByteArray := prog_2_method_5_code
def yX0_takeQuoteAway : MethodName := ⟨RX0, "takeQuoteAway", "()V"⟩
abbrev cX0_dropUsedUp : ByteArray := prog_2_method_6_code
def yX0_dropUsedUp : MethodName := ⟨RX0, "dropUsedUp", "()V"⟩
abbrev cX0_hasQuote : ByteArray := prog_2_method_7_code
def yX0_hasQuote : MethodName := ⟨RX0, "hasQuote", "()Z"⟩
abbrev cX0_isQuotedBoth : ByteArray := prog_2_method_8_code
def yX0_isQuotedBoth : MethodName := ⟨RX0, "isQuotedBoth", "()Z"⟩
abbrev cX0_lotsAt : ByteArray := prog_2_method_9_code
def yX0_lotsAt : MethodName := ⟨RX0, "lotsAt", "(I)I"⟩
abbrev cX0_addLots : ByteArray := prog_2_method_10_code
def yX0_addLots : MethodName := ⟨RX0, "addLots", "(II)V"⟩
abbrev cX0_dropLots : ByteArray := prog_2_method_11_code
def yX0_dropLots : MethodName := ⟨RX0, "dropLots", "()V"⟩
abbrev cX0_hasNotice : ByteArray := prog_2_method_12_code
def yX0_hasNotice : MethodName := ⟨RX0, "hasNotice", "(I)Z"⟩
abbrev cX0_setNotice : ByteArray := prog_2_method_13_code
def yX0_setNotice : MethodName := ⟨RX0, "setNotice", "(IZ)Z"⟩
abbrev cX0_owed : ByteArray := prog_2_method_14_code
def yX0_owed : MethodName := ⟨RX0, "owed", "()I"⟩
abbrev cX0_owerOf : ByteArray := prog_2_method_15_code
def yX0_owerOf : MethodName := ⟨RX0, "owerOf", "(I)I"⟩
def RX1 : String := "Strikehall$Lottery"
def TX1 : u_T := fun k => match k with
  | _ => ("Strikehall$Lottery", "state", "J", false)
def tyX1 : Nat → FieldType := fun k => match k with
  | _ => .long
theorem nmX1 : ∀ a, a < 1 → ∀ b, b < 1 → a ≠ b → (TX1 a).2.1 ≠ (TX1 b).2.1 := by decide +kernel
theorem tyX1_ok : ∀ k, k < 1 → parseFieldDescriptor (TX1 k).2.2.1 = some (tyX1 k) := by decide +kernel
abbrev cX1_init : ByteArray := prog_3_method_1_code
def yX1_init : MethodName := ⟨RX1, "<init>", "()V"⟩
abbrev cX1_drawOf : ByteArray := prog_3_method_2_code
def yX1_drawOf : MethodName := ⟨RX1, "drawOf", "(I)I"⟩
def RX2 : String := "Strikehall$Share"
def TX2 : u_T := fun k => match k with
  | 0 => ("Strikehall$Share", "dividends", "[I", true)
  | 1 => ("Strikehall$Share", "row", "[J", true)
  | 2 => ("Strikehall$Share", "price", "I", false)
  | 3 => ("Strikehall$Share", "up", "I", false)
  | 4 => ("Strikehall$Share", "down", "I", false)
  | _ => ("Strikehall$Share", "today", "I", false)
def tyX2 : Nat → FieldType := fun k => match k with
  | 0 => .array .int
  | 1 => .array .long
  | 2 => .int
  | 3 => .int
  | 4 => .int
  | _ => .int
theorem nmX2 : ∀ a, a < 6 → ∀ b, b < 6 → a ≠ b → (TX2 a).2.1 ≠ (TX2 b).2.1 := by decide +kernel
theorem tyX2_ok : ∀ k, k < 6 → parseFieldDescriptor (TX2 k).2.2.1 = some (tyX2 k) := by decide +kernel
abbrev cX2_init : ByteArray := prog_4_method_1_code
def yX2_init : MethodName := ⟨RX2, "<init>", "()V"⟩
abbrev cX2_dividendOn : ByteArray := prog_4_method_2_code
def yX2_dividendOn : MethodName := ⟨RX2, "dividendOn", "(I)I"⟩
abbrev cX2_tellDividend : ByteArray := prog_4_method_3_code
def yX2_tellDividend : MethodName := ⟨RX2, "tellDividend", "(II)V"⟩
abbrev cX2_belowOf : ByteArray := prog_4_method_4_code
def yX2_belowOf : MethodName := ⟨RX2, "belowOf", "(LStrikehall$Contract;)J"⟩
abbrev cX2_markAt : ByteArray := prog_4_method_5_code
def yX2_markAt : MethodName := ⟨RX2, "markAt", "(LStrikehall$Contract;I)I"⟩
abbrev cX2_numberAt : ByteArray := prog_4_method_6_code
def yX2_numberAt : MethodName := ⟨RX2, "numberAt", "(LStrikehall$Contract;I)J"⟩
abbrev cX2_lowestAfter : ByteArray := prog_4_method_7_code
def yX2_lowestAfter : MethodName := ⟨RX2, "lowestAfter", "(II)I"⟩
def RX3 : String := "Strikehall"
def TX3 : u_T := fun k => match k with
  | 0 => ("Strikehall", "share", "LStrikehall$Share;", true)
  | 1 => ("Strikehall", "lottery", "LStrikehall$Lottery;", true)
  | 2 => ("Strikehall", "contracts", "Ljava/util/ArrayList;", true)
  | 3 => ("Strikehall", "purses", "[J", true)
  | 4 => ("Strikehall", "profits", "[J", true)
  | 5 => ("Strikehall", "mostLots", "I", false)
  | 6 => ("Strikehall", "heldShares", "I", false)
  | _ => ("Strikehall", "shareCost", "I", false)
def tyX3 : Nat → FieldType := fun k => match k with
  | 0 => .object "Strikehall$Share"
  | 1 => .object "Strikehall$Lottery"
  | 2 => .object "java/util/ArrayList"
  | 3 => .array .long
  | 4 => .array .long
  | 5 => .int
  | 6 => .int
  | _ => .int
theorem nmX3 : ∀ a, a < 8 → ∀ b, b < 8 → a ≠ b → (TX3 a).2.1 ≠ (TX3 b).2.1 := by decide +kernel
theorem tyX3_ok : ∀ k, k < 8 → parseFieldDescriptor (TX3 k).2.2.1 = some (tyX3 k) := by decide +kernel
abbrev cX3_init : ByteArray := prog_1_method_1_code
def yX3_init : MethodName := ⟨RX3, "<init>", "()V"⟩
abbrev cX3_steps : ByteArray := prog_1_method_2_code
def yX3_steps : MethodName := ⟨RX3, "steps", "(II)V"⟩
abbrev cX3_move : ByteArray := prog_1_method_3_code
def yX3_move : MethodName := ⟨RX3, "move", "(I)J"⟩
abbrev cX3_dividend : ByteArray := prog_1_method_4_code
def yX3_dividend : MethodName := ⟨RX3, "dividend", "(II)I"⟩
abbrev cX3_contract : ByteArray := prog_1_method_5_code
def yX3_contract : MethodName := ⟨RX3, "contract", "(IIIZ)I"⟩
abbrev cX3_quote : ByteArray := prog_1_method_6_code
def yX3_quote : MethodName := ⟨RX3, "quote", "(IIII)I"⟩
abbrev cX3_kill : ByteArray := prog_1_method_7_code
def yX3_kill : MethodName := ⟨RX3, "kill", "()I"⟩
abbrev cX3_limit : ByteArray := prog_1_method_8_code
def yX3_limit : MethodName := ⟨RX3, "limit", "(I)I"⟩
abbrev cX3_order : ByteArray := prog_1_method_9_code
def yX3_order : MethodName := ⟨RX3, "order", "(IIII)I"⟩
abbrev cX3_hedge : ByteArray := prog_1_method_10_code
def yX3_hedge : MethodName := ⟨RX3, "hedge", "(II)I"⟩
abbrev cX3_seed : ByteArray := prog_1_method_11_code
def yX3_seed : MethodName := ⟨RX3, "seed", "(I)V"⟩
abbrev cX3_exercise : ByteArray := prog_1_method_12_code
def yX3_exercise : MethodName := ⟨RX3, "exercise", "(III)I"⟩
abbrev cX3_contrary : ByteArray := prog_1_method_13_code
def yX3_contrary : MethodName := ⟨RX3, "contrary", "(IIZ)Z"⟩
abbrev cX3_close : ByteArray := prog_1_method_14_code
def yX3_close : MethodName := ⟨RX3, "close", "()I"⟩
abbrev cX3_value : ByteArray := prog_1_method_15_code
def yX3_value : MethodName := ⟨RX3, "value", "(IZ)J"⟩
abbrev cX3_mark : ByteArray := prog_1_method_16_code
def yX3_mark : MethodName := ⟨RX3, "mark", "(I)I"⟩
abbrev cX3_markByWays : ByteArray := prog_1_method_17_code
def yX3_markByWays : MethodName := ⟨RX3, "markByWays", "(I)I"⟩
abbrev cX3_fault : ByteArray := prog_1_method_18_code
def yX3_fault : MethodName := ⟨RX3, "fault", "()I"⟩
abbrev cX3_quoted : ByteArray := prog_1_method_19_code
def yX3_quoted : MethodName := ⟨RX3, "quoted", "(II)I"⟩
abbrev cX3_lots : ByteArray := prog_1_method_20_code
def yX3_lots : MethodName := ⟨RX3, "lots", "(II)I"⟩
abbrev cX3_cash : ByteArray := prog_1_method_21_code
def yX3_cash : MethodName := ⟨RX3, "cash", "(I)J"⟩
abbrev cX3_worth : ByteArray := prog_1_method_22_code
def yX3_worth : MethodName := ⟨RX3, "worth", "()J"⟩
abbrev cX3_cause : ByteArray := prog_1_method_23_code
def yX3_cause : MethodName := ⟨RX3, "cause", "(I)J"⟩
abbrev cX3_worst : ByteArray := prog_1_method_24_code
def yX3_worst : MethodName := ⟨RX3, "worst", "(I)J"⟩
abbrev cX3_checkRange : ByteArray := prog_1_method_25_code
def yX3_checkRange : MethodName := ⟨RX3, "checkRange", "(III)V"⟩
abbrev cX3_checkCustomer : ByteArray := prog_1_method_26_code
def yX3_checkCustomer : MethodName := ⟨RX3, "checkCustomer", "(I)V"⟩
abbrev cX3_checkNotOver : ByteArray := prog_1_method_27_code
def yX3_checkNotOver : MethodName := ⟨RX3, "checkNotOver", "(LStrikehall$Contract;)V"⟩
abbrev cX3_placeOf : ByteArray := prog_1_method_28_code
def yX3_placeOf : MethodName := ⟨RX3, "placeOf", "(I)I"⟩
abbrev cX3_contractOf : ByteArray := prog_1_method_29_code
def yX3_contractOf : MethodName := ⟨RX3, "contractOf", "(I)LStrikehall$Contract;"⟩
abbrev cX3_moneyAt : ByteArray := prog_1_method_30_code
def yX3_moneyAt : MethodName := ⟨RX3, "moneyAt", "(I)J"⟩
abbrev cX3_addMoney : ByteArray := prog_1_method_31_code
def yX3_addMoney : MethodName := ⟨RX3, "addMoney", "(IJ)V"⟩
abbrev cX3_addProfit : ByteArray := prog_1_method_32_code
def yX3_addProfit : MethodName := ⟨RX3, "addProfit", "(IJ)V"⟩
abbrev cX3_worthNow : ByteArray := prog_1_method_33_code
def yX3_worthNow : MethodName := ⟨RX3, "worthNow", "()J"⟩
abbrev cX3_worthAt : ByteArray := prog_1_method_34_code
def yX3_worthAt : MethodName := ⟨RX3, "worthAt", "(I)J"⟩
abbrev cX3_buy : ByteArray := prog_1_method_35_code
def yX3_buy : MethodName := ⟨RX3, "buy", "(ILStrikehall$Contract;II)I"⟩
abbrev cX3_sell : ByteArray := prog_1_method_36_code
def yX3_sell : MethodName := ⟨RX3, "sell", "(ILStrikehall$Contract;II)I"⟩
abbrev cX3_deal : ByteArray := prog_1_method_37_code
def yX3_deal : MethodName := ⟨RX3, "deal", "(ILStrikehall$Contract;II)V"⟩
abbrev cX3_exerciseLots : ByteArray := prog_1_method_38_code
def yX3_exerciseLots : MethodName := ⟨RX3, "exerciseLots", "(ILStrikehall$Contract;I)V"⟩
abbrev cX3_expire : ByteArray := prog_1_method_39_code
def yX3_expire : MethodName := ⟨RX3, "expire", "(LStrikehall$Contract;)V"⟩
abbrev cX3_commonDivisor : ByteArray := prog_1_method_40_code
def yX3_commonDivisor : MethodName := ⟨RX3, "commonDivisor", "(JJ)J"⟩
abbrev cX3_thousandTimes : ByteArray := prog_1_method_41_code
def yX3_thousandTimes : MethodName := ⟨RX3, "thousandTimes", "(JJ)I"⟩
abbrev cX3_power : ByteArray := prog_1_method_42_code
def yX3_power : MethodName := ⟨RX3, "power", "(JI)J"⟩
abbrev cX3_numberByWays : ByteArray := prog_1_method_43_code
def yX3_numberByWays : MethodName := ⟨RX3, "numberByWays", "(LStrikehall$Share;LStrikehall$Contract;II)J"⟩
abbrev cX3_firstFault : ByteArray := prog_1_method_44_code
def yX3_firstFault : MethodName := ⟨RX3, "firstFault", "()I"⟩
abbrev cX3_hasCrossedQuote : ByteArray := prog_1_method_45_code
def yX3_hasCrossedQuote : MethodName := ⟨RX3, "hasCrossedQuote", "()Z"⟩
abbrev cX3_hasStrikesFault : ByteArray := prog_1_method_46_code
def yX3_hasStrikesFault : MethodName := ⟨RX3, "hasStrikesFault", "()Z"⟩
abbrev cX3_hasMiddleFault : ByteArray := prog_1_method_47_code
def yX3_hasMiddleFault : MethodName := ⟨RX3, "hasMiddleFault", "()Z"⟩
abbrev cX3_hasMiddleFaultWith : ByteArray := prog_1_method_48_code
def yX3_hasMiddleFaultWith : MethodName := ⟨RX3, "hasMiddleFaultWith", "(LStrikehall$Contract;LStrikehall$Contract;)Z"⟩
abbrev cX3_hasExpiriesFault : ByteArray := prog_1_method_49_code
def yX3_hasExpiriesFault : MethodName := ⟨RX3, "hasExpiriesFault", "()Z"⟩
abbrev cX3_isStrikePair : ByteArray := prog_1_method_50_code
def yX3_isStrikePair : MethodName := ⟨RX3, "isStrikePair", "(LStrikehall$Contract;LStrikehall$Contract;)Z"⟩
abbrev cX3_isStrikesFault : ByteArray := prog_1_method_51_code
def yX3_isStrikesFault : MethodName := ⟨RX3, "isStrikesFault", "(LStrikehall$Contract;LStrikehall$Contract;)Z"⟩
abbrev cX3_isMiddleFault : ByteArray := prog_1_method_52_code
def yX3_isMiddleFault : MethodName := ⟨RX3, "isMiddleFault", "(LStrikehall$Contract;LStrikehall$Contract;LStrikehall$Contract;)Z"⟩
abbrev cX3_isExpiriesFault : ByteArray := prog_1_method_53_code
def yX3_isExpiriesFault : MethodName := ⟨RX3, "isExpiriesFault", "(LStrikehall$Contract;LStrikehall$Contract;)Z"⟩
def RX4 : String := "StrikehallModel"
def TX4 : u_T := fun k => match k with
  | 0 => ("StrikehallModel", "thrown", "I", false)
  | 1 => ("StrikehallModel", "today", "I", false)
  | 2 => ("StrikehallModel", "price", "I", false)
  | 3 => ("StrikehallModel", "up", "I", false)
  | 4 => ("StrikehallModel", "down", "I", false)
  | 5 => ("StrikehallModel", "dividends", "[I", true)
  | 6 => ("StrikehallModel", "contracts", "I", false)
  | 7 => ("StrikehallModel", "kind", "[I", true)
  | 8 => ("StrikehallModel", "strike", "[I", true)
  | 9 => ("StrikehallModel", "expiry", "[I", true)
  | 10 => ("StrikehallModel", "isAmerican", "[Z", true)
  | 11 => ("StrikehallModel", "isOver", "[Z", true)
  | 12 => ("StrikehallModel", "bid", "[I", true)
  | 13 => ("StrikehallModel", "ask", "[I", true)
  | 14 => ("StrikehallModel", "leftBid", "[I", true)
  | 15 => ("StrikehallModel", "leftAsk", "[I", true)
  | 16 => ("StrikehallModel", "held", "[I", true)
  | 17 => ("StrikehallModel", "isContrary", "[Z", true)
  | 18 => ("StrikehallModel", "cash", "[J", true)
  | 19 => ("StrikehallModel", "most", "I", false)
  | 20 => ("StrikehallModel", "shares", "I", false)
  | 21 => ("StrikehallModel", "cost", "I", false)
  | 22 => ("StrikehallModel", "seed", "J", false)
  | 23 => ("StrikehallModel", "cause", "[J", true)
  | 24 => ("StrikehallModel", "above", "[J", true)
  | _ => ("StrikehallModel", "below", "J", false)
def tyX4 : Nat → FieldType := fun k => match k with
  | 0 => .int
  | 1 => .int
  | 2 => .int
  | 3 => .int
  | 4 => .int
  | 5 => .array .int
  | 6 => .int
  | 7 => .array .int
  | 8 => .array .int
  | 9 => .array .int
  | 10 => .array .boolean
  | 11 => .array .boolean
  | 12 => .array .int
  | 13 => .array .int
  | 14 => .array .int
  | 15 => .array .int
  | 16 => .array .int
  | 17 => .array .boolean
  | 18 => .array .long
  | 19 => .int
  | 20 => .int
  | 21 => .int
  | 22 => .long
  | 23 => .array .long
  | 24 => .array .long
  | _ => .long
theorem nmX4 : ∀ a, a < 26 → ∀ b, b < 26 → a ≠ b → (TX4 a).2.1 ≠ (TX4 b).2.1 := by decide +kernel
theorem tyX4_ok : ∀ k, k < 26 → parseFieldDescriptor (TX4 k).2.2.1 = some (tyX4 k) := by decide +kernel
abbrev cX4_init : ByteArray := prog_6_method_1_code
def yX4_init : MethodName := ⟨RX4, "<init>", "()V"⟩
abbrev cX4_thrown : ByteArray := prog_6_method_2_code
def yX4_thrown : MethodName := ⟨RX4, "thrown", "()I"⟩
abbrev cX4_in : ByteArray := prog_6_method_3_code
def yX4_in : MethodName := ⟨RX4, "in", "(JJJ)Z"⟩
abbrev cX4_isContract : ByteArray := prog_6_method_4_code
def yX4_isContract : MethodName := ⟨RX4, "isContract", "(I)Z"⟩
abbrev cX4_isHolder : ByteArray := prog_6_method_5_code
def yX4_isHolder : MethodName := ⟨RX4, "isHolder", "(I)Z"⟩
abbrev cX4_at : ByteArray := prog_6_method_6_code
def yX4_at : MethodName := ⟨RX4, "at", "(II)I"⟩
abbrev cX4_pays : ByteArray := prog_6_method_7_code
def yX4_pays : MethodName := ⟨RX4, "pays", "(IJ)J"⟩
abbrev cX4_priceOf : ByteArray := prog_6_method_8_code
def yX4_priceOf : MethodName := ⟨RX4, "priceOf", "(III)J"⟩
abbrev cX4_finds : ByteArray := prog_6_method_9_code
def yX4_finds : MethodName := ⟨RX4, "finds", "(II)V"⟩
abbrev cX4_markAt : ByteArray := prog_6_method_10_code
def yX4_markAt : MethodName := ⟨RX4, "markAt", "(II)J"⟩
abbrev cX4_worthAt : ByteArray := prog_6_method_11_code
def yX4_worthAt : MethodName := ⟨RX4, "worthAt", "(I)J"⟩
abbrev cX4_steps : ByteArray := prog_6_method_12_code
def yX4_steps : MethodName := ⟨RX4, "steps", "(II)V"⟩
abbrev cX4_move : ByteArray := prog_6_method_13_code
def yX4_move : MethodName := ⟨RX4, "move", "(I)J"⟩
abbrev cX4_dividend : ByteArray := prog_6_method_14_code
def yX4_dividend : MethodName := ⟨RX4, "dividend", "(II)I"⟩
abbrev cX4_contract : ByteArray := prog_6_method_15_code
def yX4_contract : MethodName := ⟨RX4, "contract", "(IIIZ)I"⟩
abbrev cX4_isAlike : ByteArray := prog_6_method_16_code
def yX4_isAlike : MethodName := ⟨RX4, "isAlike", "(IIZ)Z"⟩
abbrev cX4_hasBoth : ByteArray := prog_6_method_17_code
def yX4_hasBoth : MethodName := ⟨RX4, "hasBoth", "(I)Z"⟩
abbrev cX4_faultOf : ByteArray := prog_6_method_18_code
def yX4_faultOf : MethodName := ⟨RX4, "faultOf", "(II)I"⟩
abbrev cX4_isMiddle : ByteArray := prog_6_method_19_code
def yX4_isMiddle : MethodName := ⟨RX4, "isMiddle", "(II)Z"⟩
abbrev cX4_firstFault : ByteArray := prog_6_method_20_code
def yX4_firstFault : MethodName := ⟨RX4, "firstFault", "()I"⟩
abbrev cX4_quote : ByteArray := prog_6_method_21_code
def yX4_quote : MethodName := ⟨RX4, "quote", "(IIII)I"⟩
abbrev cX4_hasQuote : ByteArray := prog_6_method_22_code
def yX4_hasQuote : MethodName := ⟨RX4, "hasQuote", "(I)Z"⟩
abbrev cX4_kill : ByteArray := prog_6_method_23_code
def yX4_kill : MethodName := ⟨RX4, "kill", "()I"⟩
abbrev cX4_limit : ByteArray := prog_6_method_24_code
def yX4_limit : MethodName := ⟨RX4, "limit", "(I)I"⟩
abbrev cX4_least : ByteArray := prog_6_method_25_code
def yX4_least : MethodName := ⟨RX4, "least", "(II)I"⟩
abbrev cX4_deals : ByteArray := prog_6_method_26_code
def yX4_deals : MethodName := ⟨RX4, "deals", "(IIII)V"⟩
abbrev cX4_order : ByteArray := prog_6_method_27_code
def yX4_order : MethodName := ⟨RX4, "order", "(IIII)I"⟩
abbrev cX4_hedge : ByteArray := prog_6_method_28_code
def yX4_hedge : MethodName := ⟨RX4, "hedge", "(II)I"⟩
abbrev cX4_seed : ByteArray := prog_6_method_29_code
def yX4_seed : MethodName := ⟨RX4, "seed", "(I)V"⟩
abbrev cX4_owed : ByteArray := prog_6_method_30_code
def yX4_owed : MethodName := ⟨RX4, "owed", "(I)I"⟩
abbrev cX4_draw : ByteArray := prog_6_method_31_code
def yX4_draw : MethodName := ⟨RX4, "draw", "(I)I"⟩
abbrev cX4_exercisesOne : ByteArray := prog_6_method_32_code
def yX4_exercisesOne : MethodName := ⟨RX4, "exercisesOne", "(IIJ)V"⟩
abbrev cX4_exercise : ByteArray := prog_6_method_33_code
def yX4_exercise : MethodName := ⟨RX4, "exercise", "(III)I"⟩
abbrev cX4_contrary : ByteArray := prog_6_method_34_code
def yX4_contrary : MethodName := ⟨RX4, "contrary", "(IIZ)Z"⟩
abbrev cX4_expires : ByteArray := prog_6_method_35_code
def yX4_expires : MethodName := ⟨RX4, "expires", "(I)V"⟩
abbrev cX4_close : ByteArray := prog_6_method_36_code
def yX4_close : MethodName := ⟨RX4, "close", "()I"⟩
abbrev cX4_common : ByteArray := prog_6_method_37_code
def yX4_common : MethodName := ⟨RX4, "common", "(JJ)J"⟩
abbrev cX4_value : ByteArray := prog_6_method_38_code
def yX4_value : MethodName := ⟨RX4, "value", "(IZ)J"⟩
abbrev cX4_mark : ByteArray := prog_6_method_39_code
def yX4_mark : MethodName := ⟨RX4, "mark", "(I)I"⟩
abbrev cX4_markByWays : ByteArray := prog_6_method_40_code
def yX4_markByWays : MethodName := ⟨RX4, "markByWays", "(I)I"⟩
abbrev cX4_fault : ByteArray := prog_6_method_41_code
def yX4_fault : MethodName := ⟨RX4, "fault", "()I"⟩
abbrev cX4_quoted : ByteArray := prog_6_method_42_code
def yX4_quoted : MethodName := ⟨RX4, "quoted", "(II)I"⟩
abbrev cX4_lots : ByteArray := prog_6_method_43_code
def yX4_lots : MethodName := ⟨RX4, "lots", "(II)I"⟩
abbrev cX4_cash : ByteArray := prog_6_method_44_code
def yX4_cash : MethodName := ⟨RX4, "cash", "(I)J"⟩
abbrev cX4_worth : ByteArray := prog_6_method_45_code
def yX4_worth : MethodName := ⟨RX4, "worth", "()J"⟩
abbrev cX4_cause : ByteArray := prog_6_method_46_code
def yX4_cause : MethodName := ⟨RX4, "cause", "(I)J"⟩
abbrev cX4_worst : ByteArray := prog_6_method_47_code
def yX4_worst : MethodName := ⟨RX4, "worst", "(I)J"⟩
def RJx145de : String := "java/io/Serializable"
def TJx145de : u_T := fun k => match k with
  | _ => ("", "", "", false)
def tyJx145de : Nat → FieldType := fun k => match k with
  | _ => .int
theorem nmJx145de : ∀ a, a < 0 → ∀ b, b < 0 → a ≠ b → (TJx145de a).2.1 ≠ (TJx145de b).2.1 := by decide +kernel
theorem tyJx145de_ok : ∀ k, k < 0 → parseFieldDescriptor (TJx145de k).2.2.1 = some (tyJx145de k) := by decide +kernel
def RJx8e188 : String := "java/lang/Cloneable"
def TJx8e188 : u_T := fun k => match k with
  | _ => ("", "", "", false)
def tyJx8e188 : Nat → FieldType := fun k => match k with
  | _ => .int
theorem nmJx8e188 : ∀ a, a < 0 → ∀ b, b < 0 → a ≠ b → (TJx8e188 a).2.1 ≠ (TJx8e188 b).2.1 := by decide +kernel
theorem tyJx8e188_ok : ∀ k, k < 0 → parseFieldDescriptor (TJx8e188 k).2.2.1 = some (tyJx8e188 k) := by decide +kernel
def RJxab1ab : String := "java/lang/Iterable"
def TJxab1ab : u_T := fun k => match k with
  | _ => ("", "", "", false)
def tyJxab1ab : Nat → FieldType := fun k => match k with
  | _ => .int
theorem nmJxab1ab : ∀ a, a < 0 → ∀ b, b < 0 → a ≠ b → (TJxab1ab a).2.1 ≠ (TJxab1ab b).2.1 := by decide +kernel
theorem tyJxab1ab_ok : ∀ k, k < 0 → parseFieldDescriptor (TJxab1ab k).2.2.1 = some (tyJxab1ab k) := by decide +kernel
def RJ9 : String := "java/lang/Math"
def TJ9 : u_T := fun k => match k with
  | _ => ("", "", "", false)
def tyJ9 : Nat → FieldType := fun k => match k with
  | _ => .int
theorem nmJ9 : ∀ a, a < 0 → ∀ b, b < 0 → a ≠ b → (TJ9 a).2.1 ≠ (TJ9 b).2.1 := by decide +kernel
theorem tyJ9_ok : ∀ k, k < 0 → parseFieldDescriptor (TJ9 k).2.2.1 = some (tyJ9 k) := by decide +kernel
abbrev cJ9_abs_0f7a4 : ByteArray := prog_14_method_59_code
def yJ9_abs_0f7a4 : MethodName := ⟨RJ9, "abs", "(I)I"⟩
abbrev cJ9_max_7cf53 : ByteArray := prog_14_method_65_code
def yJ9_max_7cf53 : MethodName := ⟨RJ9, "max", "(II)I"⟩
abbrev cJ9_max_f86c9 : ByteArray := prog_14_method_66_code
def yJ9_max_f86c9 : MethodName := ⟨RJ9, "max", "(JJ)J"⟩
abbrev cJ9_min_7cf53 : ByteArray := prog_14_method_69_code
def yJ9_min_7cf53 : MethodName := ⟨RJ9, "min", "(II)I"⟩
def RJ0 : String := "java/lang/String"
def TJ0 : u_T := fun k => match k with
  | _ => ("", "", "", false)
def tyJ0 : Nat → FieldType := fun k => match k with
  | _ => .int
theorem nmJ0 : ∀ a, a < 0 → ∀ b, b < 0 → a ≠ b → (TJ0 a).2.1 ≠ (TJ0 b).2.1 := by decide +kernel
theorem tyJ0_ok : ∀ k, k < 0 → parseFieldDescriptor (TJ0 k).2.2.1 = some (tyJ0 k) := by decide +kernel
def RJ10 : String := "java/lang/System"
def TJ10 : u_T := fun k => match k with
  | _ => ("", "", "", false)
def tyJ10 : Nat → FieldType := fun k => match k with
  | _ => .int
theorem nmJ10 : ∀ a, a < 0 → ∀ b, b < 0 → a ≠ b → (TJ10 a).2.1 ≠ (TJ10 b).2.1 := by decide +kernel
theorem tyJ10_ok : ∀ k, k < 0 → parseFieldDescriptor (TJ10 k).2.2.1 = some (tyJ10 k) := by decide +kernel
def RJxa1e45 : String := "java/util/AbstractCollection"
def TJxa1e45 : u_T := fun k => match k with
  | _ => ("", "", "", false)
def tyJxa1e45 : Nat → FieldType := fun k => match k with
  | _ => .int
theorem nmJxa1e45 : ∀ a, a < 0 → ∀ b, b < 0 → a ≠ b → (TJxa1e45 a).2.1 ≠ (TJxa1e45 b).2.1 := by decide +kernel
theorem tyJxa1e45_ok : ∀ k, k < 0 → parseFieldDescriptor (TJxa1e45 k).2.2.1 = some (tyJxa1e45 k) := by decide +kernel
abbrev cJxa1e45_init_da8c8 : ByteArray := prog_19_method_1_code
def yJxa1e45_init_da8c8 : MethodName := ⟨RJxa1e45, "<init>", "()V"⟩
def RJxc12de : String := "java/util/AbstractList"
def TJxc12de : u_T := fun k => match k with
  | _ => ("", "", "", false)
def tyJxc12de : Nat → FieldType := fun k => match k with
  | _ => .int
theorem nmJxc12de : ∀ a, a < 0 → ∀ b, b < 0 → a ≠ b → (TJxc12de a).2.1 ≠ (TJxc12de b).2.1 := by decide +kernel
theorem tyJxc12de_ok : ∀ k, k < 0 → parseFieldDescriptor (TJxc12de k).2.2.1 = some (tyJxc12de k) := by decide +kernel
abbrev cJxc12de_init_da8c8 : ByteArray := prog_20_method_1_code
def yJxc12de_init_da8c8 : MethodName := ⟨RJxc12de, "<init>", "()V"⟩
def RJx4a65c : String := "java/util/ArrayList"
def TJx4a65c : u_T := fun k => match k with
  | 0 => ("java/util/AbstractList", "modCount", "I", false)
  | 1 => ("java/util/ArrayList", "elementData", "[Ljava/lang/Object;", false)
  | _ => ("java/util/ArrayList", "size", "I", false)
def tyJx4a65c : Nat → FieldType := fun k => match k with
  | 0 => .int
  | 1 => .array (.object "java/lang/Object")
  | _ => .int
theorem nmJx4a65c : ∀ a, a < 3 → ∀ b, b < 3 → a ≠ b → (TJx4a65c a).2.1 ≠ (TJx4a65c b).2.1 := by decide +kernel
theorem tyJx4a65c_ok : ∀ k, k < 3 → parseFieldDescriptor (TJx4a65c k).2.2.1 = some (tyJx4a65c k) := by decide +kernel
abbrev cJx4a65c_init_da8c8 : ByteArray := prog_21_method_2_code
def yJx4a65c_init_da8c8 : MethodName := ⟨RJx4a65c, "<init>", "()V"⟩
abbrev cJx4a65c_grow_92f84 : ByteArray := prog_21_method_6_code
def yJx4a65c_grow_92f84 : MethodName := ⟨RJx4a65c, "grow", "(I)[Ljava/lang/Object;"⟩
abbrev cJx4a65c_grow_d5877 : ByteArray := prog_21_method_7_code
def yJx4a65c_grow_d5877 : MethodName := ⟨RJx4a65c, "grow", "()[Ljava/lang/Object;"⟩
abbrev cJx4a65c_size_8abf5 : ByteArray := prog_21_method_8_code
def yJx4a65c_size_8abf5 : MethodName := ⟨RJx4a65c, "size", "()I"⟩
abbrev cJx4a65c_elementData_915e3 : ByteArray := prog_21_method_18_code
def yJx4a65c_elementData_915e3 : MethodName := ⟨RJx4a65c, "elementData", "(I)Ljava/lang/Object;"⟩
abbrev cJx4a65c_get_915e3 : ByteArray := prog_21_method_20_code
def yJx4a65c_get_915e3 : MethodName := ⟨RJx4a65c, "get", "(I)Ljava/lang/Object;"⟩
abbrev cJx4a65c_add_72be8 : ByteArray := prog_21_method_24_code
def yJx4a65c_add_72be8 : MethodName := ⟨RJx4a65c, "add", "(Ljava/lang/Object;[Ljava/lang/Object;I)V"⟩
abbrev cJx4a65c_add_9ea2d : ByteArray := prog_21_method_25_code
def yJx4a65c_add_9ea2d : MethodName := ⟨RJx4a65c, "add", "(Ljava/lang/Object;)Z"⟩
def RJ7 : String := "java/util/Arrays"
def TJ7 : u_T := fun k => match k with
  | _ => ("", "", "", false)
def tyJ7 : Nat → FieldType := fun k => match k with
  | _ => .int
theorem nmJ7 : ∀ a, a < 0 → ∀ b, b < 0 → a ≠ b → (TJ7 a).2.1 ≠ (TJ7 b).2.1 := by decide +kernel
theorem tyJ7_ok : ∀ k, k < 0 → parseFieldDescriptor (TJ7 k).2.2.1 = some (tyJ7 k) := by decide +kernel
abbrev cJ7_copyOf_1904c : ByteArray := prog_22_method_119_code
def yJ7_copyOf_1904c : MethodName := ⟨RJ7, "copyOf", "([Ljava/lang/Object;I)[Ljava/lang/Object;"⟩
abbrev cJ7_copyOf_6403c : ByteArray := prog_22_method_120_code
def yJ7_copyOf_6403c : MethodName := ⟨RJ7, "copyOf", "([Ljava/lang/Object;ILjava/lang/Class;)[Ljava/lang/Object;"⟩
def RJx5ef63 : String := "java/util/Collection"
def TJx5ef63 : u_T := fun k => match k with
  | _ => ("", "", "", false)
def tyJx5ef63 : Nat → FieldType := fun k => match k with
  | _ => .int
theorem nmJx5ef63 : ∀ a, a < 0 → ∀ b, b < 0 → a ≠ b → (TJx5ef63 a).2.1 ≠ (TJx5ef63 b).2.1 := by decide +kernel
theorem tyJx5ef63_ok : ∀ k, k < 0 → parseFieldDescriptor (TJx5ef63 k).2.2.1 = some (tyJx5ef63 k) := by decide +kernel
def RJxbd725 : String := "java/util/List"
def TJxbd725 : u_T := fun k => match k with
  | _ => ("", "", "", false)
def tyJxbd725 : Nat → FieldType := fun k => match k with
  | _ => .int
theorem nmJxbd725 : ∀ a, a < 0 → ∀ b, b < 0 → a ≠ b → (TJxbd725 a).2.1 ≠ (TJxbd725 b).2.1 := by decide +kernel
theorem tyJxbd725_ok : ∀ k, k < 0 → parseFieldDescriptor (TJxbd725 k).2.2.1 = some (tyJxbd725 k) := by decide +kernel
def RJ15 : String := "java/util/Objects"
def TJ15 : u_T := fun k => match k with
  | _ => ("", "", "", false)
def tyJ15 : Nat → FieldType := fun k => match k with
  | _ => .int
theorem nmJ15 : ∀ a, a < 0 → ∀ b, b < 0 → a ≠ b → (TJ15 a).2.1 ≠ (TJ15 b).2.1 := by decide +kernel
theorem tyJ15_ok : ∀ k, k < 0 → parseFieldDescriptor (TJ15 k).2.2.1 = some (tyJ15 k) := by decide +kernel
abbrev cJ15_checkIndex_7cf53 : ByteArray := prog_25_method_17_code
def yJ15_checkIndex_7cf53 : MethodName := ⟨RJ15, "checkIndex", "(II)I"⟩
def RJxf0a74 : String := "java/util/RandomAccess"
def TJxf0a74 : u_T := fun k => match k with
  | _ => ("", "", "", false)
def tyJxf0a74 : Nat → FieldType := fun k => match k with
  | _ => .int
theorem nmJxf0a74 : ∀ a, a < 0 → ∀ b, b < 0 → a ≠ b → (TJxf0a74 a).2.1 ≠ (TJxf0a74 b).2.1 := by decide +kernel
theorem tyJxf0a74_ok : ∀ k, k < 0 → parseFieldDescriptor (TJxf0a74 k).2.2.1 = some (tyJxf0a74 k) := by decide +kernel
def RJxa66e6 : String := "java/util/SequencedCollection"
def TJxa66e6 : u_T := fun k => match k with
  | _ => ("", "", "", false)
def tyJxa66e6 : Nat → FieldType := fun k => match k with
  | _ => .int
theorem nmJxa66e6 : ∀ a, a < 0 → ∀ b, b < 0 → a ≠ b → (TJxa66e6 a).2.1 ≠ (TJxa66e6 b).2.1 := by decide +kernel
theorem tyJxa66e6_ok : ∀ k, k < 0 → parseFieldDescriptor (TJxa66e6 k).2.2.1 = some (tyJxa66e6 k) := by decide +kernel
def RJ8 : String := "jdk/internal/util/ArraysSupport"
def TJ8 : u_T := fun k => match k with
  | _ => ("", "", "", false)
def tyJ8 : Nat → FieldType := fun k => match k with
  | _ => .int
theorem nmJ8 : ∀ a, a < 0 → ∀ b, b < 0 → a ≠ b → (TJ8 a).2.1 ≠ (TJ8 b).2.1 := by decide +kernel
theorem tyJ8_ok : ∀ k, k < 0 → parseFieldDescriptor (TJ8 k).2.2.1 = some (tyJ8 k) := by decide +kernel
abbrev cJ8_newLength_cabcc : ByteArray := prog_28_method_27_code
def yJ8_newLength_cabcc : MethodName := ⟨RJ8, "newLength", "(III)I"⟩
abbrev cJ8_hugeLength_7cf53 : ByteArray := prog_28_method_28_code
def yJ8_hugeLength_7cf53 : MethodName := ⟨RJ8, "hugeLength", "(II)I"⟩
def RJ3 : String := "jdk/internal/util/Preconditions"
def TJ3 : u_T := fun k => match k with
  | _ => ("", "", "", false)
def tyJ3 : Nat → FieldType := fun k => match k with
  | _ => .int
theorem nmJ3 : ∀ a, a < 0 → ∀ b, b < 0 → a ≠ b → (TJ3 a).2.1 ≠ (TJ3 b).2.1 := by decide +kernel
theorem tyJ3_ok : ∀ k, k < 0 → parseFieldDescriptor (TJ3 k).2.2.1 = some (tyJ3 k) := by decide +kernel
abbrev cJ3_checkIndex_8e157 : ByteArray := prog_29_method_11_code
def yJ3_checkIndex_8e157 : MethodName := ⟨RJ3, "checkIndex", "(IILjava/util/function/BiFunction;)I"⟩
def RL : String := "StrikehallLaw"
abbrev cL_steps : ByteArray := method_3_code
def yL_steps : MethodName := ⟨RL, "steps", "(LStrikehall;II)I"⟩
abbrev cL_move : ByteArray := method_4_code
def yL_move : MethodName := ⟨RL, "move", "(LStrikehall;I[J)I"⟩
abbrev cL_dividend : ByteArray := method_5_code
def yL_dividend : MethodName := ⟨RL, "dividend", "(LStrikehall;II[J)I"⟩
abbrev cL_contract : ByteArray := method_6_code
def yL_contract : MethodName := ⟨RL, "contract", "(LStrikehall;IIIZ[J)I"⟩
abbrev cL_quote : ByteArray := method_7_code
def yL_quote : MethodName := ⟨RL, "quote", "(LStrikehall;IIII[J)I"⟩
abbrev cL_limit : ByteArray := method_8_code
def yL_limit : MethodName := ⟨RL, "limit", "(LStrikehall;I[J)I"⟩
abbrev cL_order : ByteArray := method_9_code
def yL_order : MethodName := ⟨RL, "order", "(LStrikehall;IIII[J)I"⟩
abbrev cL_hedge : ByteArray := method_10_code
def yL_hedge : MethodName := ⟨RL, "hedge", "(LStrikehall;II[J)I"⟩
abbrev cL_seed : ByteArray := method_11_code
def yL_seed : MethodName := ⟨RL, "seed", "(LStrikehall;I)I"⟩
abbrev cL_exercise : ByteArray := method_12_code
def yL_exercise : MethodName := ⟨RL, "exercise", "(LStrikehall;III[J)I"⟩
abbrev cL_contrary : ByteArray := method_13_code
def yL_contrary : MethodName := ⟨RL, "contrary", "(LStrikehall;IIZ[J)I"⟩
abbrev cL_close : ByteArray := method_14_code
def yL_close : MethodName := ⟨RL, "close", "(LStrikehall;[J)I"⟩
abbrev cL_value : ByteArray := method_15_code
def yL_value : MethodName := ⟨RL, "value", "(LStrikehall;IZ[J)I"⟩
abbrev cL_mark : ByteArray := method_16_code
def yL_mark : MethodName := ⟨RL, "mark", "(LStrikehall;I[J)I"⟩
abbrev cL_markByWays : ByteArray := method_17_code
def yL_markByWays : MethodName := ⟨RL, "markByWays", "(LStrikehall;I[J)I"⟩
abbrev cL_quoted : ByteArray := method_18_code
def yL_quoted : MethodName := ⟨RL, "quoted", "(LStrikehall;II[J)I"⟩
abbrev cL_lots : ByteArray := method_19_code
def yL_lots : MethodName := ⟨RL, "lots", "(LStrikehall;II[J)I"⟩
abbrev cL_cash : ByteArray := method_20_code
def yL_cash : MethodName := ⟨RL, "cash", "(LStrikehall;I[J)I"⟩
abbrev cL_cause : ByteArray := method_21_code
def yL_cause : MethodName := ⟨RL, "cause", "(LStrikehall;I[J)I"⟩
abbrev cL_worst : ByteArray := method_22_code
def yL_worst : MethodName := ⟨RL, "worst", "(LStrikehall;I[J)I"⟩
abbrev cL_law : ByteArray := code
def yL_law : MethodName := ⟨RL, "law", "([I)Z"⟩
theorem dX0_init_0 : decode cX0_init 0 = .ok (.aload_n 0, 1) := by decide +kernel
theorem dX0_init_1 : decode cX0_init 1 = .ok (.invokespecial 3, 3) := by decide +kernel
theorem dX0_init_4 : decode cX0_init 4 = .ok (.aload_n 0, 1) := by decide +kernel
theorem dX0_init_5 : decode cX0_init 5 = .ok (.bipush 7, 2) := by decide +kernel
theorem dX0_init_7 : decode cX0_init 7 = .ok (.newarray .int, 2) := by decide +kernel
theorem dX0_init_9 : decode cX0_init 9 = .ok (.putfield 9, 3) := by decide +kernel
theorem dX0_init_12 : decode cX0_init 12 = .ok (.aload_n 0, 1) := by decide +kernel
theorem dX0_init_13 : decode cX0_init 13 = .ok (.bipush 7, 2) := by decide +kernel
theorem dX0_init_15 : decode cX0_init 15 = .ok (.newarray .boolean, 2) := by decide +kernel
theorem dX0_init_17 : decode cX0_init 17 = .ok (.putfield 15, 3) := by decide +kernel
theorem dX0_init_20 : decode cX0_init 20 = .ok (.aload_n 0, 1) := by decide +kernel
theorem dX0_init_21 : decode cX0_init 21 = .ok (.iconst 0, 1) := by decide +kernel
theorem dX0_init_22 : decode cX0_init 22 = .ok (.putfield 19, 3) := by decide +kernel
theorem dX0_init_25 : decode cX0_init 25 = .ok (.aload_n 0, 1) := by decide +kernel
theorem dX0_init_26 : decode cX0_init 26 = .ok (.iconst 0, 1) := by decide +kernel
theorem dX0_init_27 : decode cX0_init 27 = .ok (.putfield 23, 3) := by decide +kernel
theorem dX0_init_30 : decode cX0_init 30 = .ok (.aload_n 0, 1) := by decide +kernel
theorem dX0_init_31 : decode cX0_init 31 = .ok (.iconst 0, 1) := by decide +kernel
theorem dX0_init_32 : decode cX0_init 32 = .ok (.putfield 26, 3) := by decide +kernel
theorem dX0_init_35 : decode cX0_init 35 = .ok (.aload_n 0, 1) := by decide +kernel
theorem dX0_init_36 : decode cX0_init 36 = .ok (.iconst 0, 1) := by decide +kernel
theorem dX0_init_37 : decode cX0_init 37 = .ok (.putfield 29, 3) := by decide +kernel
theorem dX0_init_40 : decode cX0_init 40 = .ok (.aload_n 0, 1) := by decide +kernel
theorem dX0_init_41 : decode cX0_init 41 = .ok (.iload_n 1, 1) := by decide +kernel
theorem dX0_init_42 : decode cX0_init 42 = .ok (.putfield 32, 3) := by decide +kernel
theorem dX0_init_45 : decode cX0_init 45 = .ok (.aload_n 0, 1) := by decide +kernel
theorem dX0_init_46 : decode cX0_init 46 = .ok (.iload_n 2, 1) := by decide +kernel
theorem dX0_init_47 : decode cX0_init 47 = .ok (.putfield 35, 3) := by decide +kernel
theorem dX0_init_50 : decode cX0_init 50 = .ok (.aload_n 0, 1) := by decide +kernel
theorem dX0_init_51 : decode cX0_init 51 = .ok (.iload_n 3, 1) := by decide +kernel
theorem dX0_init_52 : decode cX0_init 52 = .ok (.putfield 38, 3) := by decide +kernel
theorem dX0_init_55 : decode cX0_init 55 = .ok (.aload_n 0, 1) := by decide +kernel
theorem dX0_init_56 : decode cX0_init 56 = .ok (.iload 4, 2) := by decide +kernel
theorem dX0_init_58 : decode cX0_init 58 = .ok (.putfield 41, 3) := by decide +kernel
theorem dX0_init_61 : decode cX0_init 61 = .ok (.return_, 1) := by decide +kernel
theorem dX0_paysAt_0 : decode cX0_paysAt 0 = .ok (.iconst 0, 1) := by decide +kernel
theorem dX0_paysAt_1 : decode cX0_paysAt 1 = .ok (.aload_n 0, 1) := by decide +kernel
theorem dX0_paysAt_2 : decode cX0_paysAt 2 = .ok (.getfield 32, 3) := by decide +kernel
theorem dX0_paysAt_5 : decode cX0_paysAt 5 = .ok (.ifCond .ne 12, 3) := by decide +kernel
theorem dX0_paysAt_8 : decode cX0_paysAt 8 = .ok (.iload_n 1, 1) := by decide +kernel
theorem dX0_paysAt_9 : decode cX0_paysAt 9 = .ok (.aload_n 0, 1) := by decide +kernel
theorem dX0_paysAt_10 : decode cX0_paysAt 10 = .ok (.getfield 35, 3) := by decide +kernel
theorem dX0_paysAt_13 : decode cX0_paysAt 13 = .ok (.isub, 1) := by decide +kernel
theorem dX0_paysAt_14 : decode cX0_paysAt 14 = .ok (.goto 9, 3) := by decide +kernel
theorem dX0_paysAt_17 : decode cX0_paysAt 17 = .ok (.aload_n 0, 1) := by decide +kernel
theorem dX0_paysAt_18 : decode cX0_paysAt 18 = .ok (.getfield 35, 3) := by decide +kernel
theorem dX0_paysAt_21 : decode cX0_paysAt 21 = .ok (.iload_n 1, 1) := by decide +kernel
theorem dX0_paysAt_22 : decode cX0_paysAt 22 = .ok (.isub, 1) := by decide +kernel
theorem dX0_paysAt_23 : decode cX0_paysAt 23 = .ok (.invokestatic 45, 3) := by decide +kernel
theorem dX0_paysAt_26 : decode cX0_paysAt 26 = .ok (.ireturn, 1) := by decide +kernel
theorem dX0_tellQuote_0 : decode cX0_tellQuote 0 = .ok (.aload_n 0, 1) := by decide +kernel
theorem dX0_tellQuote_1 : decode cX0_tellQuote 1 = .ok (.iload_n 1, 1) := by decide +kernel
theorem dX0_tellQuote_2 : decode cX0_tellQuote 2 = .ok (.putfield 19, 3) := by decide +kernel
theorem dX0_tellQuote_5 : decode cX0_tellQuote 5 = .ok (.aload_n 0, 1) := by decide +kernel
theorem dX0_tellQuote_6 : decode cX0_tellQuote 6 = .ok (.iload_n 2, 1) := by decide +kernel
theorem dX0_tellQuote_7 : decode cX0_tellQuote 7 = .ok (.putfield 23, 3) := by decide +kernel
theorem dX0_tellQuote_10 : decode cX0_tellQuote 10 = .ok (.aload_n 0, 1) := by decide +kernel
theorem dX0_tellQuote_11 : decode cX0_tellQuote 11 = .ok (.iload_n 3, 1) := by decide +kernel
theorem dX0_tellQuote_12 : decode cX0_tellQuote 12 = .ok (.putfield 26, 3) := by decide +kernel
theorem dX0_tellQuote_15 : decode cX0_tellQuote 15 = .ok (.aload_n 0, 1) := by decide +kernel
theorem dX0_tellQuote_16 : decode cX0_tellQuote 16 = .ok (.iload_n 3, 1) := by decide +kernel
theorem dX0_tellQuote_17 : decode cX0_tellQuote 17 = .ok (.putfield 29, 3) := by decide +kernel
theorem dX0_tellQuote_20 : decode cX0_tellQuote 20 = .ok (.aload_n 0, 1) := by decide +kernel
theorem dX0_tellQuote_21 : decode cX0_tellQuote 21 = .ok (.invokevirtual 51, 3) := by decide +kernel
theorem dX0_tellQuote_24 : decode cX0_tellQuote 24 = .ok (.return_, 1) := by decide +kernel
theorem dX0_useQuote_0 : decode cX0_useQuote 0 = .ok (.aload_n 0, 1) := by decide +kernel
theorem dX0_useQuote_1 : decode cX0_useQuote 1 = .ok (.dup, 1) := by decide +kernel
theorem dX0_useQuote_2 : decode cX0_useQuote 2 = .ok (.getfield 26, 3) := by decide +kernel
theorem dX0_useQuote_5 : decode cX0_useQuote 5 = .ok (.iload_n 1, 1) := by decide +kernel
theorem dX0_useQuote_6 : decode cX0_useQuote 6 = .ok (.isub, 1) := by decide +kernel
theorem dX0_useQuote_7 : decode cX0_useQuote 7 = .ok (.putfield 26, 3) := by decide +kernel
theorem dX0_useQuote_10 : decode cX0_useQuote 10 = .ok (.aload_n 0, 1) := by decide +kernel
theorem dX0_useQuote_11 : decode cX0_useQuote 11 = .ok (.dup, 1) := by decide +kernel
theorem dX0_useQuote_12 : decode cX0_useQuote 12 = .ok (.getfield 29, 3) := by decide +kernel
theorem dX0_useQuote_15 : decode cX0_useQuote 15 = .ok (.iload_n 2, 1) := by decide +kernel
theorem dX0_useQuote_16 : decode cX0_useQuote 16 = .ok (.isub, 1) := by decide +kernel
theorem dX0_useQuote_17 : decode cX0_useQuote 17 = .ok (.putfield 29, 3) := by decide +kernel
theorem dX0_useQuote_20 : decode cX0_useQuote 20 = .ok (.aload_n 0, 1) := by decide +kernel
theorem dX0_useQuote_21 : decode cX0_useQuote 21 = .ok (.invokevirtual 51, 3) := by decide +kernel
theorem dX0_useQuote_24 : decode cX0_useQuote 24 = .ok (.return_, 1) := by decide +kernel
theorem dX0_takeQuoteAway_0 : decode cX0_takeQuoteAway 0 = .ok (.aload_n 0, 1) := by decide +kernel
theorem dX0_takeQuoteAway_1 : decode cX0_takeQuoteAway 1 = .ok (.iconst 0, 1) := by decide +kernel
theorem dX0_takeQuoteAway_2 : decode cX0_takeQuoteAway 2 = .ok (.iconst 0, 1) := by decide +kernel
theorem dX0_takeQuoteAway_3 : decode cX0_takeQuoteAway 3 = .ok (.iconst 0, 1) := by decide +kernel
theorem dX0_takeQuoteAway_4 : decode cX0_takeQuoteAway 4 = .ok (.invokevirtual 54, 3) := by decide +kernel
theorem dX0_takeQuoteAway_7 : decode cX0_takeQuoteAway 7 = .ok (.return_, 1) := by decide +kernel
theorem dX0_dropUsedUp_0 : decode cX0_dropUsedUp 0 = .ok (.aload_n 0, 1) := by decide +kernel
theorem dX0_dropUsedUp_1 : decode cX0_dropUsedUp 1 = .ok (.invokevirtual 58, 3) := by decide +kernel
theorem dX0_dropUsedUp_4 : decode cX0_dropUsedUp 4 = .ok (.ifCond .ne 13, 3) := by decide +kernel
theorem dX0_dropUsedUp_7 : decode cX0_dropUsedUp 7 = .ok (.aload_n 0, 1) := by decide +kernel
theorem dX0_dropUsedUp_8 : decode cX0_dropUsedUp 8 = .ok (.iconst 0, 1) := by decide +kernel
theorem dX0_dropUsedUp_9 : decode cX0_dropUsedUp 9 = .ok (.putfield 19, 3) := by decide +kernel
theorem dX0_dropUsedUp_12 : decode cX0_dropUsedUp 12 = .ok (.aload_n 0, 1) := by decide +kernel
theorem dX0_dropUsedUp_13 : decode cX0_dropUsedUp 13 = .ok (.iconst 0, 1) := by decide +kernel
theorem dX0_dropUsedUp_14 : decode cX0_dropUsedUp 14 = .ok (.putfield 23, 3) := by decide +kernel
theorem dX0_dropUsedUp_17 : decode cX0_dropUsedUp 17 = .ok (.return_, 1) := by decide +kernel
theorem dX0_hasQuote_0 : decode cX0_hasQuote 0 = .ok (.aload_n 0, 1) := by decide +kernel
theorem dX0_hasQuote_1 : decode cX0_hasQuote 1 = .ok (.getfield 26, 3) := by decide +kernel
theorem dX0_hasQuote_4 : decode cX0_hasQuote 4 = .ok (.ifCond .gt 10, 3) := by decide +kernel
theorem dX0_hasQuote_7 : decode cX0_hasQuote 7 = .ok (.aload_n 0, 1) := by decide +kernel
theorem dX0_hasQuote_8 : decode cX0_hasQuote 8 = .ok (.getfield 29, 3) := by decide +kernel
theorem dX0_hasQuote_11 : decode cX0_hasQuote 11 = .ok (.ifCond .le 7, 3) := by decide +kernel
theorem dX0_hasQuote_14 : decode cX0_hasQuote 14 = .ok (.iconst 1, 1) := by decide +kernel
theorem dX0_hasQuote_15 : decode cX0_hasQuote 15 = .ok (.goto 4, 3) := by decide +kernel
theorem dX0_hasQuote_18 : decode cX0_hasQuote 18 = .ok (.iconst 0, 1) := by decide +kernel
theorem dX0_hasQuote_19 : decode cX0_hasQuote 19 = .ok (.ireturn, 1) := by decide +kernel
theorem dX0_isQuotedBoth_0 : decode cX0_isQuotedBoth 0 = .ok (.aload_n 0, 1) := by decide +kernel
theorem dX0_isQuotedBoth_1 : decode cX0_isQuotedBoth 1 = .ok (.getfield 26, 3) := by decide +kernel
theorem dX0_isQuotedBoth_4 : decode cX0_isQuotedBoth 4 = .ok (.ifCond .le 14, 3) := by decide +kernel
theorem dX0_isQuotedBoth_7 : decode cX0_isQuotedBoth 7 = .ok (.aload_n 0, 1) := by decide +kernel
theorem dX0_isQuotedBoth_8 : decode cX0_isQuotedBoth 8 = .ok (.getfield 29, 3) := by decide +kernel
theorem dX0_isQuotedBoth_11 : decode cX0_isQuotedBoth 11 = .ok (.ifCond .le 7, 3) := by decide +kernel
theorem dX0_isQuotedBoth_14 : decode cX0_isQuotedBoth 14 = .ok (.iconst 1, 1) := by decide +kernel
theorem dX0_isQuotedBoth_15 : decode cX0_isQuotedBoth 15 = .ok (.goto 4, 3) := by decide +kernel
theorem dX0_isQuotedBoth_18 : decode cX0_isQuotedBoth 18 = .ok (.iconst 0, 1) := by decide +kernel
theorem dX0_isQuotedBoth_19 : decode cX0_isQuotedBoth 19 = .ok (.ireturn, 1) := by decide +kernel
theorem dX0_lotsAt_0 : decode cX0_lotsAt 0 = .ok (.iload_n 1, 1) := by decide +kernel
theorem dX0_lotsAt_1 : decode cX0_lotsAt 1 = .ok (.ifCond .lt 21, 3) := by decide +kernel
theorem dX0_lotsAt_4 : decode cX0_lotsAt 4 = .ok (.iload_n 1, 1) := by decide +kernel
theorem dX0_lotsAt_5 : decode cX0_lotsAt 5 = .ok (.aload_n 0, 1) := by decide +kernel
theorem dX0_lotsAt_6 : decode cX0_lotsAt 6 = .ok (.getfield 9, 3) := by decide +kernel
theorem dX0_lotsAt_9 : decode cX0_lotsAt 9 = .ok (.arraylength, 1) := by decide +kernel
theorem dX0_lotsAt_10 : decode cX0_lotsAt 10 = .ok (.if_icmp .ge 12, 3) := by decide +kernel
theorem dX0_lotsAt_13 : decode cX0_lotsAt 13 = .ok (.aload_n 0, 1) := by decide +kernel
theorem dX0_lotsAt_14 : decode cX0_lotsAt 14 = .ok (.getfield 9, 3) := by decide +kernel
theorem dX0_lotsAt_17 : decode cX0_lotsAt 17 = .ok (.iload_n 1, 1) := by decide +kernel
theorem dX0_lotsAt_18 : decode cX0_lotsAt 18 = .ok (.iaload, 1) := by decide +kernel
theorem dX0_lotsAt_19 : decode cX0_lotsAt 19 = .ok (.goto 4, 3) := by decide +kernel
theorem dX0_lotsAt_22 : decode cX0_lotsAt 22 = .ok (.iconst 0, 1) := by decide +kernel
theorem dX0_lotsAt_23 : decode cX0_lotsAt 23 = .ok (.ireturn, 1) := by decide +kernel
theorem dX0_addLots_0 : decode cX0_addLots 0 = .ok (.iload_n 1, 1) := by decide +kernel
theorem dX0_addLots_1 : decode cX0_addLots 1 = .ok (.ifCond .lt 22, 3) := by decide +kernel
theorem dX0_addLots_4 : decode cX0_addLots 4 = .ok (.iload_n 1, 1) := by decide +kernel
theorem dX0_addLots_5 : decode cX0_addLots 5 = .ok (.aload_n 0, 1) := by decide +kernel
theorem dX0_addLots_6 : decode cX0_addLots 6 = .ok (.getfield 9, 3) := by decide +kernel
theorem dX0_addLots_9 : decode cX0_addLots 9 = .ok (.arraylength, 1) := by decide +kernel
theorem dX0_addLots_10 : decode cX0_addLots 10 = .ok (.if_icmp .ge 13, 3) := by decide +kernel
theorem dX0_addLots_13 : decode cX0_addLots 13 = .ok (.aload_n 0, 1) := by decide +kernel
theorem dX0_addLots_14 : decode cX0_addLots 14 = .ok (.getfield 9, 3) := by decide +kernel
theorem dX0_addLots_17 : decode cX0_addLots 17 = .ok (.iload_n 1, 1) := by decide +kernel
theorem dX0_addLots_18 : decode cX0_addLots 18 = .ok (.dup2, 1) := by decide +kernel
theorem dX0_addLots_19 : decode cX0_addLots 19 = .ok (.iaload, 1) := by decide +kernel
theorem dX0_addLots_20 : decode cX0_addLots 20 = .ok (.iload_n 2, 1) := by decide +kernel
theorem dX0_addLots_21 : decode cX0_addLots 21 = .ok (.iadd, 1) := by decide +kernel
theorem dX0_addLots_22 : decode cX0_addLots 22 = .ok (.iastore, 1) := by decide +kernel
theorem dX0_addLots_23 : decode cX0_addLots 23 = .ok (.return_, 1) := by decide +kernel
theorem dX0_dropLots_0 : decode cX0_dropLots 0 = .ok (.iconst 0, 1) := by decide +kernel
theorem dX0_dropLots_1 : decode cX0_dropLots 1 = .ok (.istore_n 1, 1) := by decide +kernel
theorem dX0_dropLots_2 : decode cX0_dropLots 2 = .ok (.iload_n 1, 1) := by decide +kernel
theorem dX0_dropLots_3 : decode cX0_dropLots 3 = .ok (.aload_n 0, 1) := by decide +kernel
theorem dX0_dropLots_4 : decode cX0_dropLots 4 = .ok (.getfield 9, 3) := by decide +kernel
theorem dX0_dropLots_7 : decode cX0_dropLots 7 = .ok (.arraylength, 1) := by decide +kernel
theorem dX0_dropLots_8 : decode cX0_dropLots 8 = .ok (.if_icmp .ge 16, 3) := by decide +kernel
theorem dX0_dropLots_11 : decode cX0_dropLots 11 = .ok (.aload_n 0, 1) := by decide +kernel
theorem dX0_dropLots_12 : decode cX0_dropLots 12 = .ok (.getfield 9, 3) := by decide +kernel
theorem dX0_dropLots_15 : decode cX0_dropLots 15 = .ok (.iload_n 1, 1) := by decide +kernel
theorem dX0_dropLots_16 : decode cX0_dropLots 16 = .ok (.iconst 0, 1) := by decide +kernel
theorem dX0_dropLots_17 : decode cX0_dropLots 17 = .ok (.iastore, 1) := by decide +kernel
theorem dX0_dropLots_18 : decode cX0_dropLots 18 = .ok (.iinc 1 1, 3) := by decide +kernel
theorem dX0_dropLots_21 : decode cX0_dropLots 21 = .ok (.goto (-19), 3) := by decide +kernel
theorem dX0_dropLots_24 : decode cX0_dropLots 24 = .ok (.return_, 1) := by decide +kernel
theorem dX0_hasNotice_0 : decode cX0_hasNotice 0 = .ok (.iload_n 1, 1) := by decide +kernel
theorem dX0_hasNotice_1 : decode cX0_hasNotice 1 = .ok (.ifCond .lt 25, 3) := by decide +kernel
theorem dX0_hasNotice_4 : decode cX0_hasNotice 4 = .ok (.iload_n 1, 1) := by decide +kernel
theorem dX0_hasNotice_5 : decode cX0_hasNotice 5 = .ok (.aload_n 0, 1) := by decide +kernel
theorem dX0_hasNotice_6 : decode cX0_hasNotice 6 = .ok (.getfield 15, 3) := by decide +kernel
theorem dX0_hasNotice_9 : decode cX0_hasNotice 9 = .ok (.arraylength, 1) := by decide +kernel
theorem dX0_hasNotice_10 : decode cX0_hasNotice 10 = .ok (.if_icmp .ge 16, 3) := by decide +kernel
theorem dX0_hasNotice_13 : decode cX0_hasNotice 13 = .ok (.aload_n 0, 1) := by decide +kernel
theorem dX0_hasNotice_14 : decode cX0_hasNotice 14 = .ok (.getfield 15, 3) := by decide +kernel
theorem dX0_hasNotice_17 : decode cX0_hasNotice 17 = .ok (.iload_n 1, 1) := by decide +kernel
theorem dX0_hasNotice_18 : decode cX0_hasNotice 18 = .ok (.baload, 1) := by decide +kernel
theorem dX0_hasNotice_19 : decode cX0_hasNotice 19 = .ok (.ifCond .eq 7, 3) := by decide +kernel
theorem dX0_hasNotice_22 : decode cX0_hasNotice 22 = .ok (.iconst 1, 1) := by decide +kernel
theorem dX0_hasNotice_23 : decode cX0_hasNotice 23 = .ok (.goto 4, 3) := by decide +kernel
theorem dX0_hasNotice_26 : decode cX0_hasNotice 26 = .ok (.iconst 0, 1) := by decide +kernel
theorem dX0_hasNotice_27 : decode cX0_hasNotice 27 = .ok (.ireturn, 1) := by decide +kernel
theorem dX0_setNotice_0 : decode cX0_setNotice 0 = .ok (.iload_n 1, 1) := by decide +kernel
theorem dX0_setNotice_1 : decode cX0_setNotice 1 = .ok (.ifCond .lt 22, 3) := by decide +kernel
theorem dX0_setNotice_4 : decode cX0_setNotice 4 = .ok (.iload_n 1, 1) := by decide +kernel
theorem dX0_setNotice_5 : decode cX0_setNotice 5 = .ok (.aload_n 0, 1) := by decide +kernel
theorem dX0_setNotice_6 : decode cX0_setNotice 6 = .ok (.getfield 15, 3) := by decide +kernel
theorem dX0_setNotice_9 : decode cX0_setNotice 9 = .ok (.arraylength, 1) := by decide +kernel
theorem dX0_setNotice_10 : decode cX0_setNotice 10 = .ok (.if_icmp .ge 13, 3) := by decide +kernel
theorem dX0_setNotice_13 : decode cX0_setNotice 13 = .ok (.aload_n 0, 1) := by decide +kernel
theorem dX0_setNotice_14 : decode cX0_setNotice 14 = .ok (.getfield 15, 3) := by decide +kernel
theorem dX0_setNotice_17 : decode cX0_setNotice 17 = .ok (.iload_n 1, 1) := by decide +kernel
theorem dX0_setNotice_18 : decode cX0_setNotice 18 = .ok (.baload, 1) := by decide +kernel
theorem dX0_setNotice_19 : decode cX0_setNotice 19 = .ok (.iload_n 2, 1) := by decide +kernel
theorem dX0_setNotice_20 : decode cX0_setNotice 20 = .ok (.if_icmp .ne 5, 3) := by decide +kernel
theorem dX0_setNotice_23 : decode cX0_setNotice 23 = .ok (.iconst 0, 1) := by decide +kernel
theorem dX0_setNotice_24 : decode cX0_setNotice 24 = .ok (.ireturn, 1) := by decide +kernel
theorem dX0_setNotice_25 : decode cX0_setNotice 25 = .ok (.aload_n 0, 1) := by decide +kernel
theorem dX0_setNotice_26 : decode cX0_setNotice 26 = .ok (.getfield 15, 3) := by decide +kernel
theorem dX0_setNotice_29 : decode cX0_setNotice 29 = .ok (.iload_n 1, 1) := by decide +kernel
theorem dX0_setNotice_30 : decode cX0_setNotice 30 = .ok (.iload_n 2, 1) := by decide +kernel
theorem dX0_setNotice_31 : decode cX0_setNotice 31 = .ok (.bastore, 1) := by decide +kernel
theorem dX0_setNotice_32 : decode cX0_setNotice 32 = .ok (.iconst 1, 1) := by decide +kernel
theorem dX0_setNotice_33 : decode cX0_setNotice 33 = .ok (.ireturn, 1) := by decide +kernel
theorem dX0_owed_0 : decode cX0_owed 0 = .ok (.iconst 0, 1) := by decide +kernel
theorem dX0_owed_1 : decode cX0_owed 1 = .ok (.istore_n 1, 1) := by decide +kernel
theorem dX0_owed_2 : decode cX0_owed 2 = .ok (.iconst 0, 1) := by decide +kernel
theorem dX0_owed_3 : decode cX0_owed 3 = .ok (.istore_n 2, 1) := by decide +kernel
theorem dX0_owed_4 : decode cX0_owed 4 = .ok (.iload_n 2, 1) := by decide +kernel
theorem dX0_owed_5 : decode cX0_owed 5 = .ok (.aload_n 0, 1) := by decide +kernel
theorem dX0_owed_6 : decode cX0_owed 6 = .ok (.getfield 9, 3) := by decide +kernel
theorem dX0_owed_9 : decode cX0_owed 9 = .ok (.arraylength, 1) := by decide +kernel
theorem dX0_owed_10 : decode cX0_owed 10 = .ok (.if_icmp .ge 23, 3) := by decide +kernel
theorem dX0_owed_13 : decode cX0_owed 13 = .ok (.iload_n 1, 1) := by decide +kernel
theorem dX0_owed_14 : decode cX0_owed 14 = .ok (.iconst 0, 1) := by decide +kernel
theorem dX0_owed_15 : decode cX0_owed 15 = .ok (.aload_n 0, 1) := by decide +kernel
theorem dX0_owed_16 : decode cX0_owed 16 = .ok (.getfield 9, 3) := by decide +kernel
theorem dX0_owed_19 : decode cX0_owed 19 = .ok (.iload_n 2, 1) := by decide +kernel
theorem dX0_owed_20 : decode cX0_owed 20 = .ok (.iaload, 1) := by decide +kernel
theorem dX0_owed_21 : decode cX0_owed 21 = .ok (.ineg, 1) := by decide +kernel
theorem dX0_owed_22 : decode cX0_owed 22 = .ok (.invokestatic 45, 3) := by decide +kernel
theorem dX0_owed_25 : decode cX0_owed 25 = .ok (.iadd, 1) := by decide +kernel
theorem dX0_owed_26 : decode cX0_owed 26 = .ok (.istore_n 1, 1) := by decide +kernel
theorem dX0_owed_27 : decode cX0_owed 27 = .ok (.iinc 2 1, 3) := by decide +kernel
theorem dX0_owed_30 : decode cX0_owed 30 = .ok (.goto (-26), 3) := by decide +kernel
theorem dX0_owed_33 : decode cX0_owed 33 = .ok (.iload_n 1, 1) := by decide +kernel
theorem dX0_owed_34 : decode cX0_owed 34 = .ok (.ireturn, 1) := by decide +kernel
theorem dX0_owerOf_0 : decode cX0_owerOf 0 = .ok (.iload_n 1, 1) := by decide +kernel
theorem dX0_owerOf_1 : decode cX0_owerOf 1 = .ok (.istore_n 2, 1) := by decide +kernel
theorem dX0_owerOf_2 : decode cX0_owerOf 2 = .ok (.iconst 0, 1) := by decide +kernel
theorem dX0_owerOf_3 : decode cX0_owerOf 3 = .ok (.istore_n 3, 1) := by decide +kernel
theorem dX0_owerOf_4 : decode cX0_owerOf 4 = .ok (.iload_n 3, 1) := by decide +kernel
theorem dX0_owerOf_5 : decode cX0_owerOf 5 = .ok (.aload_n 0, 1) := by decide +kernel
theorem dX0_owerOf_6 : decode cX0_owerOf 6 = .ok (.getfield 9, 3) := by decide +kernel
theorem dX0_owerOf_9 : decode cX0_owerOf 9 = .ok (.arraylength, 1) := by decide +kernel
theorem dX0_owerOf_10 : decode cX0_owerOf 10 = .ok (.if_icmp .ge 29, 3) := by decide +kernel
theorem dX0_owerOf_13 : decode cX0_owerOf 13 = .ok (.iload_n 2, 1) := by decide +kernel
theorem dX0_owerOf_14 : decode cX0_owerOf 14 = .ok (.iconst 0, 1) := by decide +kernel
theorem dX0_owerOf_15 : decode cX0_owerOf 15 = .ok (.aload_n 0, 1) := by decide +kernel
theorem dX0_owerOf_16 : decode cX0_owerOf 16 = .ok (.getfield 9, 3) := by decide +kernel
theorem dX0_owerOf_19 : decode cX0_owerOf 19 = .ok (.iload_n 3, 1) := by decide +kernel
theorem dX0_owerOf_20 : decode cX0_owerOf 20 = .ok (.iaload, 1) := by decide +kernel
theorem dX0_owerOf_21 : decode cX0_owerOf 21 = .ok (.ineg, 1) := by decide +kernel
theorem dX0_owerOf_22 : decode cX0_owerOf 22 = .ok (.invokestatic 45, 3) := by decide +kernel
theorem dX0_owerOf_25 : decode cX0_owerOf 25 = .ok (.isub, 1) := by decide +kernel
theorem dX0_owerOf_26 : decode cX0_owerOf 26 = .ok (.istore_n 2, 1) := by decide +kernel
theorem dX0_owerOf_27 : decode cX0_owerOf 27 = .ok (.iload_n 2, 1) := by decide +kernel
theorem dX0_owerOf_28 : decode cX0_owerOf 28 = .ok (.ifCond .ge 5, 3) := by decide +kernel
theorem dX0_owerOf_31 : decode cX0_owerOf 31 = .ok (.iload_n 3, 1) := by decide +kernel
theorem dX0_owerOf_32 : decode cX0_owerOf 32 = .ok (.ireturn, 1) := by decide +kernel
theorem dX0_owerOf_33 : decode cX0_owerOf 33 = .ok (.iinc 3 1, 3) := by decide +kernel
theorem dX0_owerOf_36 : decode cX0_owerOf 36 = .ok (.goto (-32), 3) := by decide +kernel
theorem dX0_owerOf_39 : decode cX0_owerOf 39 = .ok (.bipush 6, 2) := by decide +kernel
theorem dX0_owerOf_41 : decode cX0_owerOf 41 = .ok (.ireturn, 1) := by decide +kernel
theorem dX1_init_0 : decode cX1_init 0 = .ok (.aload_n 0, 1) := by decide +kernel
theorem dX1_init_1 : decode cX1_init 1 = .ok (.invokespecial 1, 3) := by decide +kernel
theorem dX1_init_4 : decode cX1_init 4 = .ok (.aload_n 0, 1) := by decide +kernel
theorem dX1_init_5 : decode cX1_init 5 = .ok (.lconst 0, 1) := by decide +kernel
theorem dX1_init_6 : decode cX1_init 6 = .ok (.putfield 7, 3) := by decide +kernel
theorem dX1_init_9 : decode cX1_init 9 = .ok (.return_, 1) := by decide +kernel
theorem dX1_drawOf_0 : decode cX1_drawOf 0 = .ok (.aload_n 0, 1) := by decide +kernel
theorem dX1_drawOf_1 : decode cX1_drawOf 1 = .ok (.ldc2_w 13, 3) := by decide +kernel
theorem dX1_drawOf_4 : decode cX1_drawOf 4 = .ok (.aload_n 0, 1) := by decide +kernel
theorem dX1_drawOf_5 : decode cX1_drawOf 5 = .ok (.getfield 7, 3) := by decide +kernel
theorem dX1_drawOf_8 : decode cX1_drawOf 8 = .ok (.lmul, 1) := by decide +kernel
theorem dX1_drawOf_9 : decode cX1_drawOf 9 = .ok (.ldc2_w 15, 3) := by decide +kernel
theorem dX1_drawOf_12 : decode cX1_drawOf 12 = .ok (.ladd, 1) := by decide +kernel
theorem dX1_drawOf_13 : decode cX1_drawOf 13 = .ok (.ldc2_w 17, 3) := by decide +kernel
theorem dX1_drawOf_16 : decode cX1_drawOf 16 = .ok (.lrem, 1) := by decide +kernel
theorem dX1_drawOf_17 : decode cX1_drawOf 17 = .ok (.putfield 7, 3) := by decide +kernel
theorem dX1_drawOf_20 : decode cX1_drawOf 20 = .ok (.iload_n 1, 1) := by decide +kernel
theorem dX1_drawOf_21 : decode cX1_drawOf 21 = .ok (.ifCond .le 18, 3) := by decide +kernel
theorem dX1_drawOf_24 : decode cX1_drawOf 24 = .ok (.aload_n 0, 1) := by decide +kernel
theorem dX1_drawOf_25 : decode cX1_drawOf 25 = .ok (.getfield 7, 3) := by decide +kernel
theorem dX1_drawOf_28 : decode cX1_drawOf 28 = .ok (.ldc2_w 19, 3) := by decide +kernel
theorem dX1_drawOf_31 : decode cX1_drawOf 31 = .ok (.ldiv, 1) := by decide +kernel
theorem dX1_drawOf_32 : decode cX1_drawOf 32 = .ok (.iload_n 1, 1) := by decide +kernel
theorem dX1_drawOf_33 : decode cX1_drawOf 33 = .ok (.i2l, 1) := by decide +kernel
theorem dX1_drawOf_34 : decode cX1_drawOf 34 = .ok (.lrem, 1) := by decide +kernel
theorem dX1_drawOf_35 : decode cX1_drawOf 35 = .ok (.l2i, 1) := by decide +kernel
theorem dX1_drawOf_36 : decode cX1_drawOf 36 = .ok (.goto 4, 3) := by decide +kernel
theorem dX1_drawOf_39 : decode cX1_drawOf 39 = .ok (.iconst 0, 1) := by decide +kernel
theorem dX1_drawOf_40 : decode cX1_drawOf 40 = .ok (.ireturn, 1) := by decide +kernel
theorem dX2_init_0 : decode cX2_init 0 = .ok (.aload_n 0, 1) := by decide +kernel
theorem dX2_init_1 : decode cX2_init 1 = .ok (.invokespecial 3, 3) := by decide +kernel
theorem dX2_init_4 : decode cX2_init 4 = .ok (.aload_n 0, 1) := by decide +kernel
theorem dX2_init_5 : decode cX2_init 5 = .ok (.sipush 201, 3) := by decide +kernel
theorem dX2_init_8 : decode cX2_init 8 = .ok (.newarray .int, 2) := by decide +kernel
theorem dX2_init_10 : decode cX2_init 10 = .ok (.putfield 9, 3) := by decide +kernel
theorem dX2_init_13 : decode cX2_init 13 = .ok (.aload_n 0, 1) := by decide +kernel
theorem dX2_init_14 : decode cX2_init 14 = .ok (.bipush 11, 2) := by decide +kernel
theorem dX2_init_16 : decode cX2_init 16 = .ok (.newarray .long, 2) := by decide +kernel
theorem dX2_init_18 : decode cX2_init 18 = .ok (.putfield 15, 3) := by decide +kernel
theorem dX2_init_21 : decode cX2_init 21 = .ok (.aload_n 0, 1) := by decide +kernel
theorem dX2_init_22 : decode cX2_init 22 = .ok (.sipush 10000, 3) := by decide +kernel
theorem dX2_init_25 : decode cX2_init 25 = .ok (.putfield 19, 3) := by decide +kernel
theorem dX2_init_28 : decode cX2_init 28 = .ok (.aload_n 0, 1) := by decide +kernel
theorem dX2_init_29 : decode cX2_init 29 = .ok (.bipush 10, 2) := by decide +kernel
theorem dX2_init_31 : decode cX2_init 31 = .ok (.putfield 23, 3) := by decide +kernel
theorem dX2_init_34 : decode cX2_init 34 = .ok (.aload_n 0, 1) := by decide +kernel
theorem dX2_init_35 : decode cX2_init 35 = .ok (.bipush 10, 2) := by decide +kernel
theorem dX2_init_37 : decode cX2_init 37 = .ok (.putfield 26, 3) := by decide +kernel
theorem dX2_init_40 : decode cX2_init 40 = .ok (.aload_n 0, 1) := by decide +kernel
theorem dX2_init_41 : decode cX2_init 41 = .ok (.iconst 0, 1) := by decide +kernel
theorem dX2_init_42 : decode cX2_init 42 = .ok (.putfield 29, 3) := by decide +kernel
theorem dX2_init_45 : decode cX2_init 45 = .ok (.return_, 1) := by decide +kernel
theorem dX2_dividendOn_0 : decode cX2_dividendOn 0 = .ok (.iload_n 1, 1) := by decide +kernel
theorem dX2_dividendOn_1 : decode cX2_dividendOn 1 = .ok (.ifCond .lt 21, 3) := by decide +kernel
theorem dX2_dividendOn_4 : decode cX2_dividendOn 4 = .ok (.iload_n 1, 1) := by decide +kernel
theorem dX2_dividendOn_5 : decode cX2_dividendOn 5 = .ok (.aload_n 0, 1) := by decide +kernel
theorem dX2_dividendOn_6 : decode cX2_dividendOn 6 = .ok (.getfield 9, 3) := by decide +kernel
theorem dX2_dividendOn_9 : decode cX2_dividendOn 9 = .ok (.arraylength, 1) := by decide +kernel
theorem dX2_dividendOn_10 : decode cX2_dividendOn 10 = .ok (.if_icmp .ge 12, 3) := by decide +kernel
theorem dX2_dividendOn_13 : decode cX2_dividendOn 13 = .ok (.aload_n 0, 1) := by decide +kernel
theorem dX2_dividendOn_14 : decode cX2_dividendOn 14 = .ok (.getfield 9, 3) := by decide +kernel
theorem dX2_dividendOn_17 : decode cX2_dividendOn 17 = .ok (.iload_n 1, 1) := by decide +kernel
theorem dX2_dividendOn_18 : decode cX2_dividendOn 18 = .ok (.iaload, 1) := by decide +kernel
theorem dX2_dividendOn_19 : decode cX2_dividendOn 19 = .ok (.goto 4, 3) := by decide +kernel
theorem dX2_dividendOn_22 : decode cX2_dividendOn 22 = .ok (.iconst 0, 1) := by decide +kernel
theorem dX2_dividendOn_23 : decode cX2_dividendOn 23 = .ok (.ireturn, 1) := by decide +kernel
theorem dX2_tellDividend_0 : decode cX2_tellDividend 0 = .ok (.iload_n 1, 1) := by decide +kernel
theorem dX2_tellDividend_1 : decode cX2_tellDividend 1 = .ok (.ifCond .lt 19, 3) := by decide +kernel
theorem dX2_tellDividend_4 : decode cX2_tellDividend 4 = .ok (.iload_n 1, 1) := by decide +kernel
theorem dX2_tellDividend_5 : decode cX2_tellDividend 5 = .ok (.aload_n 0, 1) := by decide +kernel
theorem dX2_tellDividend_6 : decode cX2_tellDividend 6 = .ok (.getfield 9, 3) := by decide +kernel
theorem dX2_tellDividend_9 : decode cX2_tellDividend 9 = .ok (.arraylength, 1) := by decide +kernel
theorem dX2_tellDividend_10 : decode cX2_tellDividend 10 = .ok (.if_icmp .ge 10, 3) := by decide +kernel
theorem dX2_tellDividend_13 : decode cX2_tellDividend 13 = .ok (.aload_n 0, 1) := by decide +kernel
theorem dX2_tellDividend_14 : decode cX2_tellDividend 14 = .ok (.getfield 9, 3) := by decide +kernel
theorem dX2_tellDividend_17 : decode cX2_tellDividend 17 = .ok (.iload_n 1, 1) := by decide +kernel
theorem dX2_tellDividend_18 : decode cX2_tellDividend 18 = .ok (.iload_n 2, 1) := by decide +kernel
theorem dX2_tellDividend_19 : decode cX2_tellDividend 19 = .ok (.iastore, 1) := by decide +kernel
theorem dX2_tellDividend_20 : decode cX2_tellDividend 20 = .ok (.return_, 1) := by decide +kernel
theorem dX2_belowOf_0 : decode cX2_belowOf 0 = .ok (.aload_n 0, 1) := by decide +kernel
theorem dX2_belowOf_1 : decode cX2_belowOf 1 = .ok (.getfield 23, 3) := by decide +kernel
theorem dX2_belowOf_4 : decode cX2_belowOf 4 = .ok (.aload_n 0, 1) := by decide +kernel
theorem dX2_belowOf_5 : decode cX2_belowOf 5 = .ok (.getfield 26, 3) := by decide +kernel
theorem dX2_belowOf_8 : decode cX2_belowOf 8 = .ok (.iadd, 1) := by decide +kernel
theorem dX2_belowOf_9 : decode cX2_belowOf 9 = .ok (.i2l, 1) := by decide +kernel
theorem dX2_belowOf_10 : decode cX2_belowOf 10 = .ok (.aload_n 1, 1) := by decide +kernel
theorem dX2_belowOf_11 : decode cX2_belowOf 11 = .ok (.getfield 32, 3) := by decide +kernel
theorem dX2_belowOf_14 : decode cX2_belowOf 14 = .ok (.aload_n 0, 1) := by decide +kernel
theorem dX2_belowOf_15 : decode cX2_belowOf 15 = .ok (.getfield 29, 3) := by decide +kernel
theorem dX2_belowOf_18 : decode cX2_belowOf 18 = .ok (.isub, 1) := by decide +kernel
theorem dX2_belowOf_19 : decode cX2_belowOf 19 = .ok (.bipush 10, 2) := by decide +kernel
theorem dX2_belowOf_21 : decode cX2_belowOf 21 = .ok (.invokestatic 37, 3) := by decide +kernel
theorem dX2_belowOf_24 : decode cX2_belowOf 24 = .ok (.invokestatic 43, 3) := by decide +kernel
theorem dX2_belowOf_27 : decode cX2_belowOf 27 = .ok (.lreturn, 1) := by decide +kernel
theorem dX2_markAt_0 : decode cX2_markAt 0 = .ok (.aload_n 0, 1) := by decide +kernel
theorem dX2_markAt_1 : decode cX2_markAt 1 = .ok (.aload_n 1, 1) := by decide +kernel
theorem dX2_markAt_2 : decode cX2_markAt 2 = .ok (.iload_n 2, 1) := by decide +kernel
theorem dX2_markAt_3 : decode cX2_markAt 3 = .ok (.invokevirtual 47, 3) := by decide +kernel
theorem dX2_markAt_6 : decode cX2_markAt 6 = .ok (.aload_n 0, 1) := by decide +kernel
theorem dX2_markAt_7 : decode cX2_markAt 7 = .ok (.aload_n 1, 1) := by decide +kernel
theorem dX2_markAt_8 : decode cX2_markAt 8 = .ok (.invokevirtual 51, 3) := by decide +kernel
theorem dX2_markAt_11 : decode cX2_markAt 11 = .ok (.invokestatic 55, 3) := by decide +kernel
theorem dX2_markAt_14 : decode cX2_markAt 14 = .ok (.ireturn, 1) := by decide +kernel
theorem dX2_numberAt_0 : decode cX2_numberAt 0 = .ok (.aload_n 1, 1) := by decide +kernel
theorem dX2_numberAt_1 : decode cX2_numberAt 1 = .ok (.getfield 32, 3) := by decide +kernel
theorem dX2_numberAt_4 : decode cX2_numberAt 4 = .ok (.aload_n 0, 1) := by decide +kernel
theorem dX2_numberAt_5 : decode cX2_numberAt 5 = .ok (.getfield 29, 3) := by decide +kernel
theorem dX2_numberAt_8 : decode cX2_numberAt 8 = .ok (.isub, 1) := by decide +kernel
theorem dX2_numberAt_9 : decode cX2_numberAt 9 = .ok (.istore_n 3, 1) := by decide +kernel
theorem dX2_numberAt_10 : decode cX2_numberAt 10 = .ok (.iload_n 3, 1) := by decide +kernel
theorem dX2_numberAt_11 : decode cX2_numberAt 11 = .ok (.ifCond .lt 12, 3) := by decide +kernel
theorem dX2_numberAt_14 : decode cX2_numberAt 14 = .ok (.iload_n 3, 1) := by decide +kernel
theorem dX2_numberAt_15 : decode cX2_numberAt 15 = .ok (.aload_n 0, 1) := by decide +kernel
theorem dX2_numberAt_16 : decode cX2_numberAt 16 = .ok (.getfield 15, 3) := by decide +kernel
theorem dX2_numberAt_19 : decode cX2_numberAt 19 = .ok (.arraylength, 1) := by decide +kernel
theorem dX2_numberAt_20 : decode cX2_numberAt 20 = .ok (.if_icmp .lt 5, 3) := by decide +kernel
theorem dX2_numberAt_23 : decode cX2_numberAt 23 = .ok (.lconst 0, 1) := by decide +kernel
theorem dX2_numberAt_24 : decode cX2_numberAt 24 = .ok (.lreturn, 1) := by decide +kernel
theorem dX2_numberAt_25 : decode cX2_numberAt 25 = .ok (.bipush 10, 2) := by decide +kernel
theorem dX2_numberAt_27 : decode cX2_numberAt 27 = .ok (.aload_n 0, 1) := by decide +kernel
theorem dX2_numberAt_28 : decode cX2_numberAt 28 = .ok (.getfield 23, 3) := by decide +kernel
theorem dX2_numberAt_31 : decode cX2_numberAt 31 = .ok (.aload_n 0, 1) := by decide +kernel
theorem dX2_numberAt_32 : decode cX2_numberAt 32 = .ok (.getfield 26, 3) := by decide +kernel
theorem dX2_numberAt_35 : decode cX2_numberAt 35 = .ok (.iadd, 1) := by decide +kernel
theorem dX2_numberAt_36 : decode cX2_numberAt 36 = .ok (.imul, 1) := by decide +kernel
theorem dX2_numberAt_37 : decode cX2_numberAt 37 = .ok (.istore 4, 2) := by decide +kernel
theorem dX2_numberAt_39 : decode cX2_numberAt 39 = .ok (.aload_n 0, 1) := by decide +kernel
theorem dX2_numberAt_40 : decode cX2_numberAt 40 = .ok (.iload_n 3, 1) := by decide +kernel
theorem dX2_numberAt_41 : decode cX2_numberAt 41 = .ok (.iload_n 2, 1) := by decide +kernel
theorem dX2_numberAt_42 : decode cX2_numberAt 42 = .ok (.invokevirtual 59, 3) := by decide +kernel
theorem dX2_numberAt_45 : decode cX2_numberAt 45 = .ok (.istore 5, 2) := by decide +kernel
theorem dX2_numberAt_47 : decode cX2_numberAt 47 = .ok (.iconst 0, 1) := by decide +kernel
theorem dX2_numberAt_48 : decode cX2_numberAt 48 = .ok (.istore 6, 2) := by decide +kernel
theorem dX2_numberAt_50 : decode cX2_numberAt 50 = .ok (.iload 6, 2) := by decide +kernel
theorem dX2_numberAt_52 : decode cX2_numberAt 52 = .ok (.iload_n 3, 1) := by decide +kernel
theorem dX2_numberAt_53 : decode cX2_numberAt 53 = .ok (.if_icmp .gt 29, 3) := by decide +kernel
theorem dX2_numberAt_56 : decode cX2_numberAt 56 = .ok (.aload_n 0, 1) := by decide +kernel
theorem dX2_numberAt_57 : decode cX2_numberAt 57 = .ok (.getfield 15, 3) := by decide +kernel
theorem dX2_numberAt_60 : decode cX2_numberAt 60 = .ok (.iload 6, 2) := by decide +kernel
theorem dX2_numberAt_62 : decode cX2_numberAt 62 = .ok (.aload_n 1, 1) := by decide +kernel
theorem dX2_numberAt_63 : decode cX2_numberAt 63 = .ok (.iload 5, 2) := by decide +kernel
theorem dX2_numberAt_65 : decode cX2_numberAt 65 = .ok (.iload 6, 2) := by decide +kernel
theorem dX2_numberAt_67 : decode cX2_numberAt 67 = .ok (.iload 4, 2) := by decide +kernel
theorem dX2_numberAt_69 : decode cX2_numberAt 69 = .ok (.imul, 1) := by decide +kernel
theorem dX2_numberAt_70 : decode cX2_numberAt 70 = .ok (.iadd, 1) := by decide +kernel
theorem dX2_numberAt_71 : decode cX2_numberAt 71 = .ok (.invokevirtual 62, 3) := by decide +kernel
theorem dX2_numberAt_74 : decode cX2_numberAt 74 = .ok (.i2l, 1) := by decide +kernel
theorem dX2_numberAt_75 : decode cX2_numberAt 75 = .ok (.lastore, 1) := by decide +kernel
theorem dX2_numberAt_76 : decode cX2_numberAt 76 = .ok (.iinc 6 1, 3) := by decide +kernel
theorem dX2_numberAt_79 : decode cX2_numberAt 79 = .ok (.goto (-29), 3) := by decide +kernel
theorem dX2_numberAt_82 : decode cX2_numberAt 82 = .ok (.lconst 1, 1) := by decide +kernel
theorem dX2_numberAt_83 : decode cX2_numberAt 83 = .ok (.lstore 6, 2) := by decide +kernel
theorem dX2_numberAt_85 : decode cX2_numberAt 85 = .ok (.iload_n 3, 1) := by decide +kernel
theorem dX2_numberAt_86 : decode cX2_numberAt 86 = .ok (.iconst 1, 1) := by decide +kernel
theorem dX2_numberAt_87 : decode cX2_numberAt 87 = .ok (.isub, 1) := by decide +kernel
theorem dX2_numberAt_88 : decode cX2_numberAt 88 = .ok (.istore 8, 2) := by decide +kernel
theorem dX2_numberAt_90 : decode cX2_numberAt 90 = .ok (.iload 8, 2) := by decide +kernel
theorem dX2_numberAt_92 : decode cX2_numberAt 92 = .ok (.ifCond .lt 142, 3) := by decide +kernel
theorem dX2_numberAt_95 : decode cX2_numberAt 95 = .ok (.iload 5, 2) := by decide +kernel
theorem dX2_numberAt_97 : decode cX2_numberAt 97 = .ok (.bipush 10, 2) := by decide +kernel
theorem dX2_numberAt_99 : decode cX2_numberAt 99 = .ok (.aload_n 0, 1) := by decide +kernel
theorem dX2_numberAt_100 : decode cX2_numberAt 100 = .ok (.getfield 26, 3) := by decide +kernel
theorem dX2_numberAt_103 : decode cX2_numberAt 103 = .ok (.imul, 1) := by decide +kernel
theorem dX2_numberAt_104 : decode cX2_numberAt 104 = .ok (.aload_n 0, 1) := by decide +kernel
theorem dX2_numberAt_105 : decode cX2_numberAt 105 = .ok (.aload_n 0, 1) := by decide +kernel
theorem dX2_numberAt_106 : decode cX2_numberAt 106 = .ok (.getfield 29, 3) := by decide +kernel
theorem dX2_numberAt_109 : decode cX2_numberAt 109 = .ok (.iload 8, 2) := by decide +kernel
theorem dX2_numberAt_111 : decode cX2_numberAt 111 = .ok (.iadd, 1) := by decide +kernel
theorem dX2_numberAt_112 : decode cX2_numberAt 112 = .ok (.iconst 1, 1) := by decide +kernel
theorem dX2_numberAt_113 : decode cX2_numberAt 113 = .ok (.iadd, 1) := by decide +kernel
theorem dX2_numberAt_114 : decode cX2_numberAt 114 = .ok (.invokevirtual 66, 3) := by decide +kernel
theorem dX2_numberAt_117 : decode cX2_numberAt 117 = .ok (.iadd, 1) := by decide +kernel
theorem dX2_numberAt_118 : decode cX2_numberAt 118 = .ok (.iadd, 1) := by decide +kernel
theorem dX2_numberAt_119 : decode cX2_numberAt 119 = .ok (.istore 5, 2) := by decide +kernel
theorem dX2_numberAt_121 : decode cX2_numberAt 121 = .ok (.lload 6, 2) := by decide +kernel
theorem dX2_numberAt_123 : decode cX2_numberAt 123 = .ok (.aload_n 0, 1) := by decide +kernel
theorem dX2_numberAt_124 : decode cX2_numberAt 124 = .ok (.getfield 23, 3) := by decide +kernel
theorem dX2_numberAt_127 : decode cX2_numberAt 127 = .ok (.aload_n 0, 1) := by decide +kernel
theorem dX2_numberAt_128 : decode cX2_numberAt 128 = .ok (.getfield 26, 3) := by decide +kernel
theorem dX2_numberAt_131 : decode cX2_numberAt 131 = .ok (.iadd, 1) := by decide +kernel
theorem dX2_numberAt_132 : decode cX2_numberAt 132 = .ok (.i2l, 1) := by decide +kernel
theorem dX2_numberAt_133 : decode cX2_numberAt 133 = .ok (.lmul, 1) := by decide +kernel
theorem dX2_numberAt_134 : decode cX2_numberAt 134 = .ok (.lstore 6, 2) := by decide +kernel
theorem dX2_numberAt_136 : decode cX2_numberAt 136 = .ok (.iconst 0, 1) := by decide +kernel
theorem dX2_numberAt_137 : decode cX2_numberAt 137 = .ok (.istore 9, 2) := by decide +kernel
theorem dX2_numberAt_139 : decode cX2_numberAt 139 = .ok (.iload 9, 2) := by decide +kernel
theorem dX2_numberAt_141 : decode cX2_numberAt 141 = .ok (.iload 8, 2) := by decide +kernel
theorem dX2_numberAt_143 : decode cX2_numberAt 143 = .ok (.if_icmp .gt 85, 3) := by decide +kernel
theorem dX2_numberAt_146 : decode cX2_numberAt 146 = .ok (.aload_n 0, 1) := by decide +kernel
theorem dX2_numberAt_147 : decode cX2_numberAt 147 = .ok (.getfield 15, 3) := by decide +kernel
theorem dX2_numberAt_150 : decode cX2_numberAt 150 = .ok (.iload 9, 2) := by decide +kernel
theorem dX2_numberAt_152 : decode cX2_numberAt 152 = .ok (.aload_n 0, 1) := by decide +kernel
theorem dX2_numberAt_153 : decode cX2_numberAt 153 = .ok (.getfield 26, 3) := by decide +kernel
theorem dX2_numberAt_156 : decode cX2_numberAt 156 = .ok (.i2l, 1) := by decide +kernel
theorem dX2_numberAt_157 : decode cX2_numberAt 157 = .ok (.aload_n 0, 1) := by decide +kernel
theorem dX2_numberAt_158 : decode cX2_numberAt 158 = .ok (.getfield 15, 3) := by decide +kernel
theorem dX2_numberAt_161 : decode cX2_numberAt 161 = .ok (.iload 9, 2) := by decide +kernel
theorem dX2_numberAt_163 : decode cX2_numberAt 163 = .ok (.iconst 1, 1) := by decide +kernel
theorem dX2_numberAt_164 : decode cX2_numberAt 164 = .ok (.iadd, 1) := by decide +kernel
theorem dX2_numberAt_165 : decode cX2_numberAt 165 = .ok (.laload, 1) := by decide +kernel
theorem dX2_numberAt_166 : decode cX2_numberAt 166 = .ok (.lmul, 1) := by decide +kernel
theorem dX2_numberAt_167 : decode cX2_numberAt 167 = .ok (.aload_n 0, 1) := by decide +kernel
theorem dX2_numberAt_168 : decode cX2_numberAt 168 = .ok (.getfield 23, 3) := by decide +kernel
theorem dX2_numberAt_171 : decode cX2_numberAt 171 = .ok (.i2l, 1) := by decide +kernel
theorem dX2_numberAt_172 : decode cX2_numberAt 172 = .ok (.aload_n 0, 1) := by decide +kernel
theorem dX2_numberAt_173 : decode cX2_numberAt 173 = .ok (.getfield 15, 3) := by decide +kernel
theorem dX2_numberAt_176 : decode cX2_numberAt 176 = .ok (.iload 9, 2) := by decide +kernel
theorem dX2_numberAt_178 : decode cX2_numberAt 178 = .ok (.laload, 1) := by decide +kernel
theorem dX2_numberAt_179 : decode cX2_numberAt 179 = .ok (.lmul, 1) := by decide +kernel
theorem dX2_numberAt_180 : decode cX2_numberAt 180 = .ok (.ladd, 1) := by decide +kernel
theorem dX2_numberAt_181 : decode cX2_numberAt 181 = .ok (.lastore, 1) := by decide +kernel
theorem dX2_numberAt_182 : decode cX2_numberAt 182 = .ok (.aload_n 1, 1) := by decide +kernel
theorem dX2_numberAt_183 : decode cX2_numberAt 183 = .ok (.getfield 69, 3) := by decide +kernel
theorem dX2_numberAt_186 : decode cX2_numberAt 186 = .ok (.ifCond .eq 36, 3) := by decide +kernel
theorem dX2_numberAt_189 : decode cX2_numberAt 189 = .ok (.aload_n 0, 1) := by decide +kernel
theorem dX2_numberAt_190 : decode cX2_numberAt 190 = .ok (.getfield 15, 3) := by decide +kernel
theorem dX2_numberAt_193 : decode cX2_numberAt 193 = .ok (.iload 9, 2) := by decide +kernel
theorem dX2_numberAt_195 : decode cX2_numberAt 195 = .ok (.aload_n 0, 1) := by decide +kernel
theorem dX2_numberAt_196 : decode cX2_numberAt 196 = .ok (.getfield 15, 3) := by decide +kernel
theorem dX2_numberAt_199 : decode cX2_numberAt 199 = .ok (.iload 9, 2) := by decide +kernel
theorem dX2_numberAt_201 : decode cX2_numberAt 201 = .ok (.laload, 1) := by decide +kernel
theorem dX2_numberAt_202 : decode cX2_numberAt 202 = .ok (.lload 6, 2) := by decide +kernel
theorem dX2_numberAt_204 : decode cX2_numberAt 204 = .ok (.aload_n 1, 1) := by decide +kernel
theorem dX2_numberAt_205 : decode cX2_numberAt 205 = .ok (.iload 5, 2) := by decide +kernel
theorem dX2_numberAt_207 : decode cX2_numberAt 207 = .ok (.iload 9, 2) := by decide +kernel
theorem dX2_numberAt_209 : decode cX2_numberAt 209 = .ok (.iload 4, 2) := by decide +kernel
theorem dX2_numberAt_211 : decode cX2_numberAt 211 = .ok (.imul, 1) := by decide +kernel
theorem dX2_numberAt_212 : decode cX2_numberAt 212 = .ok (.iadd, 1) := by decide +kernel
theorem dX2_numberAt_213 : decode cX2_numberAt 213 = .ok (.invokevirtual 62, 3) := by decide +kernel
theorem dX2_numberAt_216 : decode cX2_numberAt 216 = .ok (.i2l, 1) := by decide +kernel
theorem dX2_numberAt_217 : decode cX2_numberAt 217 = .ok (.lmul, 1) := by decide +kernel
theorem dX2_numberAt_218 : decode cX2_numberAt 218 = .ok (.invokestatic 73, 3) := by decide +kernel
theorem dX2_numberAt_221 : decode cX2_numberAt 221 = .ok (.lastore, 1) := by decide +kernel
theorem dX2_numberAt_222 : decode cX2_numberAt 222 = .ok (.iinc 9 1, 3) := by decide +kernel
theorem dX2_numberAt_225 : decode cX2_numberAt 225 = .ok (.goto (-86), 3) := by decide +kernel
theorem dX2_numberAt_228 : decode cX2_numberAt 228 = .ok (.iinc 8 (-1), 3) := by decide +kernel
theorem dX2_numberAt_231 : decode cX2_numberAt 231 = .ok (.goto (-141), 3) := by decide +kernel
theorem dX2_numberAt_234 : decode cX2_numberAt 234 = .ok (.aload_n 0, 1) := by decide +kernel
theorem dX2_numberAt_235 : decode cX2_numberAt 235 = .ok (.getfield 15, 3) := by decide +kernel
theorem dX2_numberAt_238 : decode cX2_numberAt 238 = .ok (.iconst 0, 1) := by decide +kernel
theorem dX2_numberAt_239 : decode cX2_numberAt 239 = .ok (.laload, 1) := by decide +kernel
theorem dX2_numberAt_240 : decode cX2_numberAt 240 = .ok (.lreturn, 1) := by decide +kernel
theorem dX2_lowestAfter_0 : decode cX2_lowestAfter 0 = .ok (.iload_n 2, 1) := by decide +kernel
theorem dX2_lowestAfter_1 : decode cX2_lowestAfter 1 = .ok (.istore_n 3, 1) := by decide +kernel
theorem dX2_lowestAfter_2 : decode cX2_lowestAfter 2 = .ok (.iconst 1, 1) := by decide +kernel
theorem dX2_lowestAfter_3 : decode cX2_lowestAfter 3 = .ok (.istore 4, 2) := by decide +kernel
theorem dX2_lowestAfter_5 : decode cX2_lowestAfter 5 = .ok (.iload 4, 2) := by decide +kernel
theorem dX2_lowestAfter_7 : decode cX2_lowestAfter 7 = .ok (.iload_n 1, 1) := by decide +kernel
theorem dX2_lowestAfter_8 : decode cX2_lowestAfter 8 = .ok (.if_icmp .gt 31, 3) := by decide +kernel
theorem dX2_lowestAfter_11 : decode cX2_lowestAfter 11 = .ok (.iload_n 3, 1) := by decide +kernel
theorem dX2_lowestAfter_12 : decode cX2_lowestAfter 12 = .ok (.bipush 10, 2) := by decide +kernel
theorem dX2_lowestAfter_14 : decode cX2_lowestAfter 14 = .ok (.aload_n 0, 1) := by decide +kernel
theorem dX2_lowestAfter_15 : decode cX2_lowestAfter 15 = .ok (.getfield 26, 3) := by decide +kernel
theorem dX2_lowestAfter_18 : decode cX2_lowestAfter 18 = .ok (.imul, 1) := by decide +kernel
theorem dX2_lowestAfter_19 : decode cX2_lowestAfter 19 = .ok (.aload_n 0, 1) := by decide +kernel
theorem dX2_lowestAfter_20 : decode cX2_lowestAfter 20 = .ok (.aload_n 0, 1) := by decide +kernel
theorem dX2_lowestAfter_21 : decode cX2_lowestAfter 21 = .ok (.getfield 29, 3) := by decide +kernel
theorem dX2_lowestAfter_24 : decode cX2_lowestAfter 24 = .ok (.iload 4, 2) := by decide +kernel
theorem dX2_lowestAfter_26 : decode cX2_lowestAfter 26 = .ok (.iadd, 1) := by decide +kernel
theorem dX2_lowestAfter_27 : decode cX2_lowestAfter 27 = .ok (.invokevirtual 66, 3) := by decide +kernel
theorem dX2_lowestAfter_30 : decode cX2_lowestAfter 30 = .ok (.iadd, 1) := by decide +kernel
theorem dX2_lowestAfter_31 : decode cX2_lowestAfter 31 = .ok (.isub, 1) := by decide +kernel
theorem dX2_lowestAfter_32 : decode cX2_lowestAfter 32 = .ok (.istore_n 3, 1) := by decide +kernel
theorem dX2_lowestAfter_33 : decode cX2_lowestAfter 33 = .ok (.iinc 4 1, 3) := by decide +kernel
theorem dX2_lowestAfter_36 : decode cX2_lowestAfter 36 = .ok (.goto (-31), 3) := by decide +kernel
theorem dX2_lowestAfter_39 : decode cX2_lowestAfter 39 = .ok (.iload_n 3, 1) := by decide +kernel
theorem dX2_lowestAfter_40 : decode cX2_lowestAfter 40 = .ok (.ireturn, 1) := by decide +kernel
theorem dX3_init_0 : decode cX3_init 0 = .ok (.aload_n 0, 1) := by decide +kernel
theorem dX3_init_1 : decode cX3_init 1 = .ok (.invokespecial 3, 3) := by decide +kernel
theorem dX3_init_4 : decode cX3_init 4 = .ok (.aload_n 0, 1) := by decide +kernel
theorem dX3_init_5 : decode cX3_init 5 = .ok (.new 9, 3) := by decide +kernel
theorem dX3_init_8 : decode cX3_init 8 = .ok (.dup, 1) := by decide +kernel
theorem dX3_init_9 : decode cX3_init 9 = .ok (.invokespecial 11, 3) := by decide +kernel
theorem dX3_init_12 : decode cX3_init 12 = .ok (.putfield 12, 3) := by decide +kernel
theorem dX3_init_15 : decode cX3_init 15 = .ok (.aload_n 0, 1) := by decide +kernel
theorem dX3_init_16 : decode cX3_init 16 = .ok (.new 16, 3) := by decide +kernel
theorem dX3_init_19 : decode cX3_init 19 = .ok (.dup, 1) := by decide +kernel
theorem dX3_init_20 : decode cX3_init 20 = .ok (.invokespecial 18, 3) := by decide +kernel
theorem dX3_init_23 : decode cX3_init 23 = .ok (.putfield 19, 3) := by decide +kernel
theorem dX3_init_26 : decode cX3_init 26 = .ok (.aload_n 0, 1) := by decide +kernel
theorem dX3_init_27 : decode cX3_init 27 = .ok (.new 23, 3) := by decide +kernel
theorem dX3_init_30 : decode cX3_init 30 = .ok (.dup, 1) := by decide +kernel
theorem dX3_init_31 : decode cX3_init 31 = .ok (.invokespecial 25, 3) := by decide +kernel
theorem dX3_init_34 : decode cX3_init 34 = .ok (.putfield 26, 3) := by decide +kernel
theorem dX3_init_37 : decode cX3_init 37 = .ok (.aload_n 0, 1) := by decide +kernel
theorem dX3_init_38 : decode cX3_init 38 = .ok (.bipush 7, 2) := by decide +kernel
theorem dX3_init_40 : decode cX3_init 40 = .ok (.newarray .long, 2) := by decide +kernel
theorem dX3_init_42 : decode cX3_init 42 = .ok (.putfield 30, 3) := by decide +kernel
theorem dX3_init_45 : decode cX3_init 45 = .ok (.aload_n 0, 1) := by decide +kernel
theorem dX3_init_46 : decode cX3_init 46 = .ok (.bipush 6, 2) := by decide +kernel
theorem dX3_init_48 : decode cX3_init 48 = .ok (.newarray .long, 2) := by decide +kernel
theorem dX3_init_50 : decode cX3_init 50 = .ok (.putfield 34, 3) := by decide +kernel
theorem dX3_init_53 : decode cX3_init 53 = .ok (.aload_n 0, 1) := by decide +kernel
theorem dX3_init_54 : decode cX3_init 54 = .ok (.bipush 100, 2) := by decide +kernel
theorem dX3_init_56 : decode cX3_init 56 = .ok (.putfield 37, 3) := by decide +kernel
theorem dX3_init_59 : decode cX3_init 59 = .ok (.aload_n 0, 1) := by decide +kernel
theorem dX3_init_60 : decode cX3_init 60 = .ok (.iconst 0, 1) := by decide +kernel
theorem dX3_init_61 : decode cX3_init 61 = .ok (.putfield 41, 3) := by decide +kernel
theorem dX3_init_64 : decode cX3_init 64 = .ok (.aload_n 0, 1) := by decide +kernel
theorem dX3_init_65 : decode cX3_init 65 = .ok (.sipush 500, 3) := by decide +kernel
theorem dX3_init_68 : decode cX3_init 68 = .ok (.putfield 44, 3) := by decide +kernel
theorem dX3_init_71 : decode cX3_init 71 = .ok (.return_, 1) := by decide +kernel
theorem dX3_steps_0 : decode cX3_steps 0 = .ok (.iload_n 1, 1) := by decide +kernel
theorem dX3_steps_1 : decode cX3_steps 1 = .ok (.iconst 1, 1) := by decide +kernel
theorem dX3_steps_2 : decode cX3_steps 2 = .ok (.bipush 10, 2) := by decide +kernel
theorem dX3_steps_4 : decode cX3_steps 4 = .ok (.invokestatic 47, 3) := by decide +kernel
theorem dX3_steps_7 : decode cX3_steps 7 = .ok (.iload_n 2, 1) := by decide +kernel
theorem dX3_steps_8 : decode cX3_steps 8 = .ok (.iconst 1, 1) := by decide +kernel
theorem dX3_steps_9 : decode cX3_steps 9 = .ok (.bipush 10, 2) := by decide +kernel
theorem dX3_steps_11 : decode cX3_steps 11 = .ok (.invokestatic 47, 3) := by decide +kernel
theorem dX3_steps_14 : decode cX3_steps 14 = .ok (.aload_n 0, 1) := by decide +kernel
theorem dX3_steps_15 : decode cX3_steps 15 = .ok (.invokevirtual 51, 3) := by decide +kernel
theorem dX3_steps_18 : decode cX3_steps 18 = .ok (.lstore_n 3, 1) := by decide +kernel
theorem dX3_steps_19 : decode cX3_steps 19 = .ok (.aload_n 0, 1) := by decide +kernel
theorem dX3_steps_20 : decode cX3_steps 20 = .ok (.getfield 12, 3) := by decide +kernel
theorem dX3_steps_23 : decode cX3_steps 23 = .ok (.iload_n 1, 1) := by decide +kernel
theorem dX3_steps_24 : decode cX3_steps 24 = .ok (.putfield 55, 3) := by decide +kernel
theorem dX3_steps_27 : decode cX3_steps 27 = .ok (.aload_n 0, 1) := by decide +kernel
theorem dX3_steps_28 : decode cX3_steps 28 = .ok (.getfield 12, 3) := by decide +kernel
theorem dX3_steps_31 : decode cX3_steps 31 = .ok (.iload_n 2, 1) := by decide +kernel
theorem dX3_steps_32 : decode cX3_steps 32 = .ok (.putfield 58, 3) := by decide +kernel
theorem dX3_steps_35 : decode cX3_steps 35 = .ok (.aload_n 0, 1) := by decide +kernel
theorem dX3_steps_36 : decode cX3_steps 36 = .ok (.iconst 5, 1) := by decide +kernel
theorem dX3_steps_37 : decode cX3_steps 37 = .ok (.aload_n 0, 1) := by decide +kernel
theorem dX3_steps_38 : decode cX3_steps 38 = .ok (.invokevirtual 51, 3) := by decide +kernel
theorem dX3_steps_41 : decode cX3_steps 41 = .ok (.lload_n 3, 1) := by decide +kernel
theorem dX3_steps_42 : decode cX3_steps 42 = .ok (.lsub, 1) := by decide +kernel
theorem dX3_steps_43 : decode cX3_steps 43 = .ok (.invokevirtual 61, 3) := by decide +kernel
theorem dX3_steps_46 : decode cX3_steps 46 = .ok (.return_, 1) := by decide +kernel
theorem dX3_move_0 : decode cX3_move 0 = .ok (.iload_n 1, 1) := by decide +kernel
theorem dX3_move_1 : decode cX3_move 1 = .ok (.iconst 0, 1) := by decide +kernel
theorem dX3_move_2 : decode cX3_move 2 = .ok (.sipush 20000, 3) := by decide +kernel
theorem dX3_move_5 : decode cX3_move 5 = .ok (.invokestatic 47, 3) := by decide +kernel
theorem dX3_move_8 : decode cX3_move 8 = .ok (.aload_n 0, 1) := by decide +kernel
theorem dX3_move_9 : decode cX3_move 9 = .ok (.invokevirtual 51, 3) := by decide +kernel
theorem dX3_move_12 : decode cX3_move 12 = .ok (.lstore_n 2, 1) := by decide +kernel
theorem dX3_move_13 : decode cX3_move 13 = .ok (.aload_n 0, 1) := by decide +kernel
theorem dX3_move_14 : decode cX3_move 14 = .ok (.getfield 12, 3) := by decide +kernel
theorem dX3_move_17 : decode cX3_move 17 = .ok (.iload_n 1, 1) := by decide +kernel
theorem dX3_move_18 : decode cX3_move 18 = .ok (.putfield 65, 3) := by decide +kernel
theorem dX3_move_21 : decode cX3_move 21 = .ok (.aload_n 0, 1) := by decide +kernel
theorem dX3_move_22 : decode cX3_move 22 = .ok (.invokevirtual 51, 3) := by decide +kernel
theorem dX3_move_25 : decode cX3_move 25 = .ok (.lload_n 2, 1) := by decide +kernel
theorem dX3_move_26 : decode cX3_move 26 = .ok (.lsub, 1) := by decide +kernel
theorem dX3_move_27 : decode cX3_move 27 = .ok (.lstore 4, 2) := by decide +kernel
theorem dX3_move_29 : decode cX3_move 29 = .ok (.aload_n 0, 1) := by decide +kernel
theorem dX3_move_30 : decode cX3_move 30 = .ok (.iconst 1, 1) := by decide +kernel
theorem dX3_move_31 : decode cX3_move 31 = .ok (.lload 4, 2) := by decide +kernel
theorem dX3_move_33 : decode cX3_move 33 = .ok (.invokevirtual 61, 3) := by decide +kernel
theorem dX3_move_36 : decode cX3_move 36 = .ok (.lload 4, 2) := by decide +kernel
theorem dX3_move_38 : decode cX3_move 38 = .ok (.lreturn, 1) := by decide +kernel
theorem dX3_dividend_0 : decode cX3_dividend 0 = .ok (.iload_n 1, 1) := by decide +kernel
theorem dX3_dividend_1 : decode cX3_dividend 1 = .ok (.aload_n 0, 1) := by decide +kernel
theorem dX3_dividend_2 : decode cX3_dividend 2 = .ok (.getfield 12, 3) := by decide +kernel
theorem dX3_dividend_5 : decode cX3_dividend 5 = .ok (.getfield 68, 3) := by decide +kernel
theorem dX3_dividend_8 : decode cX3_dividend 8 = .ok (.iconst 1, 1) := by decide +kernel
theorem dX3_dividend_9 : decode cX3_dividend 9 = .ok (.iadd, 1) := by decide +kernel
theorem dX3_dividend_10 : decode cX3_dividend 10 = .ok (.sipush 200, 3) := by decide +kernel
theorem dX3_dividend_13 : decode cX3_dividend 13 = .ok (.invokestatic 47, 3) := by decide +kernel
theorem dX3_dividend_16 : decode cX3_dividend 16 = .ok (.iload_n 2, 1) := by decide +kernel
theorem dX3_dividend_17 : decode cX3_dividend 17 = .ok (.iconst 0, 1) := by decide +kernel
theorem dX3_dividend_18 : decode cX3_dividend 18 = .ok (.sipush 1000, 3) := by decide +kernel
theorem dX3_dividend_21 : decode cX3_dividend 21 = .ok (.invokestatic 47, 3) := by decide +kernel
theorem dX3_dividend_24 : decode cX3_dividend 24 = .ok (.aload_n 0, 1) := by decide +kernel
theorem dX3_dividend_25 : decode cX3_dividend 25 = .ok (.invokevirtual 51, 3) := by decide +kernel
theorem dX3_dividend_28 : decode cX3_dividend 28 = .ok (.lstore_n 3, 1) := by decide +kernel
theorem dX3_dividend_29 : decode cX3_dividend 29 = .ok (.aload_n 0, 1) := by decide +kernel
theorem dX3_dividend_30 : decode cX3_dividend 30 = .ok (.getfield 12, 3) := by decide +kernel
theorem dX3_dividend_33 : decode cX3_dividend 33 = .ok (.iload_n 1, 1) := by decide +kernel
theorem dX3_dividend_34 : decode cX3_dividend 34 = .ok (.invokevirtual 71, 3) := by decide +kernel
theorem dX3_dividend_37 : decode cX3_dividend 37 = .ok (.istore 5, 2) := by decide +kernel
theorem dX3_dividend_39 : decode cX3_dividend 39 = .ok (.aload_n 0, 1) := by decide +kernel
theorem dX3_dividend_40 : decode cX3_dividend 40 = .ok (.getfield 12, 3) := by decide +kernel
theorem dX3_dividend_43 : decode cX3_dividend 43 = .ok (.iload_n 1, 1) := by decide +kernel
theorem dX3_dividend_44 : decode cX3_dividend 44 = .ok (.iload_n 2, 1) := by decide +kernel
theorem dX3_dividend_45 : decode cX3_dividend 45 = .ok (.invokevirtual 75, 3) := by decide +kernel
theorem dX3_dividend_48 : decode cX3_dividend 48 = .ok (.aload_n 0, 1) := by decide +kernel
theorem dX3_dividend_49 : decode cX3_dividend 49 = .ok (.iconst 5, 1) := by decide +kernel
theorem dX3_dividend_50 : decode cX3_dividend 50 = .ok (.aload_n 0, 1) := by decide +kernel
theorem dX3_dividend_51 : decode cX3_dividend 51 = .ok (.invokevirtual 51, 3) := by decide +kernel
theorem dX3_dividend_54 : decode cX3_dividend 54 = .ok (.lload_n 3, 1) := by decide +kernel
theorem dX3_dividend_55 : decode cX3_dividend 55 = .ok (.lsub, 1) := by decide +kernel
theorem dX3_dividend_56 : decode cX3_dividend 56 = .ok (.invokevirtual 61, 3) := by decide +kernel
theorem dX3_dividend_59 : decode cX3_dividend 59 = .ok (.iload 5, 2) := by decide +kernel
theorem dX3_dividend_61 : decode cX3_dividend 61 = .ok (.ireturn, 1) := by decide +kernel
theorem dX3_contract_0 : decode cX3_contract 0 = .ok (.iload_n 1, 1) := by decide +kernel
theorem dX3_contract_1 : decode cX3_contract 1 = .ok (.iconst 0, 1) := by decide +kernel
theorem dX3_contract_2 : decode cX3_contract 2 = .ok (.iconst 1, 1) := by decide +kernel
theorem dX3_contract_3 : decode cX3_contract 3 = .ok (.invokestatic 47, 3) := by decide +kernel
theorem dX3_contract_6 : decode cX3_contract 6 = .ok (.iload_n 2, 1) := by decide +kernel
theorem dX3_contract_7 : decode cX3_contract 7 = .ok (.iconst 0, 1) := by decide +kernel
theorem dX3_contract_8 : decode cX3_contract 8 = .ok (.sipush 20000, 3) := by decide +kernel
theorem dX3_contract_11 : decode cX3_contract 11 = .ok (.invokestatic 47, 3) := by decide +kernel
theorem dX3_contract_14 : decode cX3_contract 14 = .ok (.iload_n 3, 1) := by decide +kernel
theorem dX3_contract_15 : decode cX3_contract 15 = .ok (.aload_n 0, 1) := by decide +kernel
theorem dX3_contract_16 : decode cX3_contract 16 = .ok (.getfield 12, 3) := by decide +kernel
theorem dX3_contract_19 : decode cX3_contract 19 = .ok (.getfield 68, 3) := by decide +kernel
theorem dX3_contract_22 : decode cX3_contract 22 = .ok (.aload_n 0, 1) := by decide +kernel
theorem dX3_contract_23 : decode cX3_contract 23 = .ok (.getfield 12, 3) := by decide +kernel
theorem dX3_contract_26 : decode cX3_contract 26 = .ok (.getfield 68, 3) := by decide +kernel
theorem dX3_contract_29 : decode cX3_contract 29 = .ok (.bipush 10, 2) := by decide +kernel
theorem dX3_contract_31 : decode cX3_contract 31 = .ok (.iadd, 1) := by decide +kernel
theorem dX3_contract_32 : decode cX3_contract 32 = .ok (.sipush 200, 3) := by decide +kernel
theorem dX3_contract_35 : decode cX3_contract 35 = .ok (.invokestatic 79, 3) := by decide +kernel
theorem dX3_contract_38 : decode cX3_contract 38 = .ok (.invokestatic 47, 3) := by decide +kernel
theorem dX3_contract_41 : decode cX3_contract 41 = .ok (.aload_n 0, 1) := by decide +kernel
theorem dX3_contract_42 : decode cX3_contract 42 = .ok (.getfield 26, 3) := by decide +kernel
theorem dX3_contract_45 : decode cX3_contract 45 = .ok (.invokevirtual 85, 3) := by decide +kernel
theorem dX3_contract_48 : decode cX3_contract 48 = .ok (.istore 5, 2) := by decide +kernel
theorem dX3_contract_50 : decode cX3_contract 50 = .ok (.iload 5, 2) := by decide +kernel
theorem dX3_contract_52 : decode cX3_contract 52 = .ok (.bipush 12, 2) := by decide +kernel
theorem dX3_contract_54 : decode cX3_contract 54 = .ok (.if_icmp .lt 13, 3) := by decide +kernel
theorem dX3_contract_57 : decode cX3_contract 57 = .ok (.new 89, 3) := by decide +kernel
theorem dX3_contract_60 : decode cX3_contract 60 = .ok (.dup, 1) := by decide +kernel
theorem dX3_contract_61 : decode cX3_contract 61 = .ok (.ldc 91, 2) := by decide +kernel
theorem dX3_contract_63 : decode cX3_contract 63 = .ok (.invokespecial 93, 3) := by decide +kernel
theorem dX3_contract_66 : decode cX3_contract 66 = .ok (.athrow, 1) := by decide +kernel
theorem dX3_contract_67 : decode cX3_contract 67 = .ok (.aload_n 0, 1) := by decide +kernel
theorem dX3_contract_68 : decode cX3_contract 68 = .ok (.getfield 26, 3) := by decide +kernel
theorem dX3_contract_71 : decode cX3_contract 71 = .ok (.new 96, 3) := by decide +kernel
theorem dX3_contract_74 : decode cX3_contract 74 = .ok (.dup, 1) := by decide +kernel
theorem dX3_contract_75 : decode cX3_contract 75 = .ok (.iload_n 1, 1) := by decide +kernel
theorem dX3_contract_76 : decode cX3_contract 76 = .ok (.iload_n 2, 1) := by decide +kernel
theorem dX3_contract_77 : decode cX3_contract 77 = .ok (.iload_n 3, 1) := by decide +kernel
theorem dX3_contract_78 : decode cX3_contract 78 = .ok (.iload 4, 2) := by decide +kernel
theorem dX3_contract_80 : decode cX3_contract 80 = .ok (.invokespecial 98, 3) := by decide +kernel
theorem dX3_contract_83 : decode cX3_contract 83 = .ok (.invokevirtual 101, 3) := by decide +kernel
theorem dX3_contract_86 : decode cX3_contract 86 = .ok (.pop, 1) := by decide +kernel
theorem dX3_contract_87 : decode cX3_contract 87 = .ok (.iload 5, 2) := by decide +kernel
theorem dX3_contract_89 : decode cX3_contract 89 = .ok (.ireturn, 1) := by decide +kernel
theorem dX3_quote_0 : decode cX3_quote 0 = .ok (.aload_n 0, 1) := by decide +kernel
theorem dX3_quote_1 : decode cX3_quote 1 = .ok (.iload_n 1, 1) := by decide +kernel
theorem dX3_quote_2 : decode cX3_quote 2 = .ok (.invokevirtual 105, 3) := by decide +kernel
theorem dX3_quote_5 : decode cX3_quote 5 = .ok (.astore 5, 2) := by decide +kernel
theorem dX3_quote_7 : decode cX3_quote 7 = .ok (.iload_n 2, 1) := by decide +kernel
theorem dX3_quote_8 : decode cX3_quote 8 = .ok (.iconst 0, 1) := by decide +kernel
theorem dX3_quote_9 : decode cX3_quote 9 = .ok (.sipush 20000, 3) := by decide +kernel
theorem dX3_quote_12 : decode cX3_quote 12 = .ok (.invokestatic 47, 3) := by decide +kernel
theorem dX3_quote_15 : decode cX3_quote 15 = .ok (.iload_n 3, 1) := by decide +kernel
theorem dX3_quote_16 : decode cX3_quote 16 = .ok (.iconst 0, 1) := by decide +kernel
theorem dX3_quote_17 : decode cX3_quote 17 = .ok (.sipush 20000, 3) := by decide +kernel
theorem dX3_quote_20 : decode cX3_quote 20 = .ok (.invokestatic 47, 3) := by decide +kernel
theorem dX3_quote_23 : decode cX3_quote 23 = .ok (.iload 4, 2) := by decide +kernel
theorem dX3_quote_25 : decode cX3_quote 25 = .ok (.iconst 0, 1) := by decide +kernel
theorem dX3_quote_26 : decode cX3_quote 26 = .ok (.bipush 100, 2) := by decide +kernel
theorem dX3_quote_28 : decode cX3_quote 28 = .ok (.invokestatic 47, 3) := by decide +kernel
theorem dX3_quote_31 : decode cX3_quote 31 = .ok (.aload_n 0, 1) := by decide +kernel
theorem dX3_quote_32 : decode cX3_quote 32 = .ok (.aload 5, 2) := by decide +kernel
theorem dX3_quote_34 : decode cX3_quote 34 = .ok (.invokevirtual 109, 3) := by decide +kernel
theorem dX3_quote_37 : decode cX3_quote 37 = .ok (.aload 5, 2) := by decide +kernel
theorem dX3_quote_39 : decode cX3_quote 39 = .ok (.iload_n 2, 1) := by decide +kernel
theorem dX3_quote_40 : decode cX3_quote 40 = .ok (.iload_n 3, 1) := by decide +kernel
theorem dX3_quote_41 : decode cX3_quote 41 = .ok (.iload 4, 2) := by decide +kernel
theorem dX3_quote_43 : decode cX3_quote 43 = .ok (.invokevirtual 113, 3) := by decide +kernel
theorem dX3_quote_46 : decode cX3_quote 46 = .ok (.aload_n 0, 1) := by decide +kernel
theorem dX3_quote_47 : decode cX3_quote 47 = .ok (.invokevirtual 116, 3) := by decide +kernel
theorem dX3_quote_50 : decode cX3_quote 50 = .ok (.ireturn, 1) := by decide +kernel
theorem dX3_kill_0 : decode cX3_kill 0 = .ok (.iconst 0, 1) := by decide +kernel
theorem dX3_kill_1 : decode cX3_kill 1 = .ok (.istore_n 1, 1) := by decide +kernel
theorem dX3_kill_2 : decode cX3_kill 2 = .ok (.iconst 0, 1) := by decide +kernel
theorem dX3_kill_3 : decode cX3_kill 3 = .ok (.istore_n 2, 1) := by decide +kernel
theorem dX3_kill_4 : decode cX3_kill 4 = .ok (.iload_n 2, 1) := by decide +kernel
theorem dX3_kill_5 : decode cX3_kill 5 = .ok (.aload_n 0, 1) := by decide +kernel
theorem dX3_kill_6 : decode cX3_kill 6 = .ok (.getfield 26, 3) := by decide +kernel
theorem dX3_kill_9 : decode cX3_kill 9 = .ok (.invokevirtual 85, 3) := by decide +kernel
theorem dX3_kill_12 : decode cX3_kill 12 = .ok (.if_icmp .ge 35, 3) := by decide +kernel
theorem dX3_kill_15 : decode cX3_kill 15 = .ok (.aload_n 0, 1) := by decide +kernel
theorem dX3_kill_16 : decode cX3_kill 16 = .ok (.getfield 26, 3) := by decide +kernel
theorem dX3_kill_19 : decode cX3_kill 19 = .ok (.iload_n 2, 1) := by decide +kernel
theorem dX3_kill_20 : decode cX3_kill 20 = .ok (.invokevirtual 119, 3) := by decide +kernel
theorem dX3_kill_23 : decode cX3_kill 23 = .ok (.checkcast 96, 3) := by decide +kernel
theorem dX3_kill_26 : decode cX3_kill 26 = .ok (.astore_n 3, 1) := by decide +kernel
theorem dX3_kill_27 : decode cX3_kill 27 = .ok (.aload_n 3, 1) := by decide +kernel
theorem dX3_kill_28 : decode cX3_kill 28 = .ok (.invokevirtual 123, 3) := by decide +kernel
theorem dX3_kill_31 : decode cX3_kill 31 = .ok (.ifCond .eq 6, 3) := by decide +kernel
theorem dX3_kill_34 : decode cX3_kill 34 = .ok (.iinc 1 1, 3) := by decide +kernel
theorem dX3_kill_37 : decode cX3_kill 37 = .ok (.aload_n 3, 1) := by decide +kernel
theorem dX3_kill_38 : decode cX3_kill 38 = .ok (.invokevirtual 127, 3) := by decide +kernel
theorem dX3_kill_41 : decode cX3_kill 41 = .ok (.iinc 2 1, 3) := by decide +kernel
theorem dX3_kill_44 : decode cX3_kill 44 = .ok (.goto (-40), 3) := by decide +kernel
theorem dX3_kill_47 : decode cX3_kill 47 = .ok (.iload_n 1, 1) := by decide +kernel
theorem dX3_kill_48 : decode cX3_kill 48 = .ok (.ireturn, 1) := by decide +kernel
theorem dX3_limit_0 : decode cX3_limit 0 = .ok (.iload_n 1, 1) := by decide +kernel
theorem dX3_limit_1 : decode cX3_limit 1 = .ok (.iconst 0, 1) := by decide +kernel
theorem dX3_limit_2 : decode cX3_limit 2 = .ok (.sipush 1000, 3) := by decide +kernel
theorem dX3_limit_5 : decode cX3_limit 5 = .ok (.invokestatic 47, 3) := by decide +kernel
theorem dX3_limit_8 : decode cX3_limit 8 = .ok (.aload_n 0, 1) := by decide +kernel
theorem dX3_limit_9 : decode cX3_limit 9 = .ok (.getfield 37, 3) := by decide +kernel
theorem dX3_limit_12 : decode cX3_limit 12 = .ok (.istore_n 2, 1) := by decide +kernel
theorem dX3_limit_13 : decode cX3_limit 13 = .ok (.aload_n 0, 1) := by decide +kernel
theorem dX3_limit_14 : decode cX3_limit 14 = .ok (.iload_n 1, 1) := by decide +kernel
theorem dX3_limit_15 : decode cX3_limit 15 = .ok (.putfield 37, 3) := by decide +kernel
theorem dX3_limit_18 : decode cX3_limit 18 = .ok (.iload_n 2, 1) := by decide +kernel
theorem dX3_limit_19 : decode cX3_limit 19 = .ok (.ireturn, 1) := by decide +kernel
theorem dX3_order_0 : decode cX3_order 0 = .ok (.iload_n 1, 1) := by decide +kernel
theorem dX3_order_1 : decode cX3_order 1 = .ok (.invokestatic 130, 3) := by decide +kernel
theorem dX3_order_4 : decode cX3_order 4 = .ok (.aload_n 0, 1) := by decide +kernel
theorem dX3_order_5 : decode cX3_order 5 = .ok (.iload_n 2, 1) := by decide +kernel
theorem dX3_order_6 : decode cX3_order 6 = .ok (.invokevirtual 105, 3) := by decide +kernel
theorem dX3_order_9 : decode cX3_order 9 = .ok (.astore 5, 2) := by decide +kernel
theorem dX3_order_11 : decode cX3_order 11 = .ok (.iload_n 3, 1) := by decide +kernel
theorem dX3_order_12 : decode cX3_order 12 = .ok (.bipush (-100), 2) := by decide +kernel
theorem dX3_order_14 : decode cX3_order 14 = .ok (.bipush 100, 2) := by decide +kernel
theorem dX3_order_16 : decode cX3_order 16 = .ok (.invokestatic 47, 3) := by decide +kernel
theorem dX3_order_19 : decode cX3_order 19 = .ok (.iload_n 3, 1) := by decide +kernel
theorem dX3_order_20 : decode cX3_order 20 = .ok (.ifCond .ne 13, 3) := by decide +kernel
theorem dX3_order_23 : decode cX3_order 23 = .ok (.new 134, 3) := by decide +kernel
theorem dX3_order_26 : decode cX3_order 26 = .ok (.dup, 1) := by decide +kernel
theorem dX3_order_27 : decode cX3_order 27 = .ok (.ldc 136, 2) := by decide +kernel
theorem dX3_order_29 : decode cX3_order 29 = .ok (.invokespecial 138, 3) := by decide +kernel
theorem dX3_order_32 : decode cX3_order 32 = .ok (.athrow, 1) := by decide +kernel
theorem dX3_order_33 : decode cX3_order 33 = .ok (.iload 4, 2) := by decide +kernel
theorem dX3_order_35 : decode cX3_order 35 = .ok (.iconst 0, 1) := by decide +kernel
theorem dX3_order_36 : decode cX3_order 36 = .ok (.sipush 20000, 3) := by decide +kernel
theorem dX3_order_39 : decode cX3_order 39 = .ok (.invokestatic 47, 3) := by decide +kernel
theorem dX3_order_42 : decode cX3_order 42 = .ok (.aload_n 0, 1) := by decide +kernel
theorem dX3_order_43 : decode cX3_order 43 = .ok (.aload 5, 2) := by decide +kernel
theorem dX3_order_45 : decode cX3_order 45 = .ok (.invokevirtual 109, 3) := by decide +kernel
theorem dX3_order_48 : decode cX3_order 48 = .ok (.aload_n 0, 1) := by decide +kernel
theorem dX3_order_49 : decode cX3_order 49 = .ok (.invokevirtual 51, 3) := by decide +kernel
theorem dX3_order_52 : decode cX3_order 52 = .ok (.lstore 6, 2) := by decide +kernel
theorem dX3_order_54 : decode cX3_order 54 = .ok (.iload_n 3, 1) := by decide +kernel
theorem dX3_order_55 : decode cX3_order 55 = .ok (.ifCond .le 16, 3) := by decide +kernel
theorem dX3_order_58 : decode cX3_order 58 = .ok (.aload_n 0, 1) := by decide +kernel
theorem dX3_order_59 : decode cX3_order 59 = .ok (.iload_n 1, 1) := by decide +kernel
theorem dX3_order_60 : decode cX3_order 60 = .ok (.aload 5, 2) := by decide +kernel
theorem dX3_order_62 : decode cX3_order 62 = .ok (.iload_n 3, 1) := by decide +kernel
theorem dX3_order_63 : decode cX3_order 63 = .ok (.iload 4, 2) := by decide +kernel
theorem dX3_order_65 : decode cX3_order 65 = .ok (.invokevirtual 139, 3) := by decide +kernel
theorem dX3_order_68 : decode cX3_order 68 = .ok (.goto 14, 3) := by decide +kernel
theorem dX3_order_71 : decode cX3_order 71 = .ok (.aload_n 0, 1) := by decide +kernel
theorem dX3_order_72 : decode cX3_order 72 = .ok (.iload_n 1, 1) := by decide +kernel
theorem dX3_order_73 : decode cX3_order 73 = .ok (.aload 5, 2) := by decide +kernel
theorem dX3_order_75 : decode cX3_order 75 = .ok (.iload_n 3, 1) := by decide +kernel
theorem dX3_order_76 : decode cX3_order 76 = .ok (.ineg, 1) := by decide +kernel
theorem dX3_order_77 : decode cX3_order 77 = .ok (.iload 4, 2) := by decide +kernel
theorem dX3_order_79 : decode cX3_order 79 = .ok (.invokevirtual 143, 3) := by decide +kernel
theorem dX3_order_82 : decode cX3_order 82 = .ok (.istore 8, 2) := by decide +kernel
theorem dX3_order_84 : decode cX3_order 84 = .ok (.aload_n 0, 1) := by decide +kernel
theorem dX3_order_85 : decode cX3_order 85 = .ok (.iconst 0, 1) := by decide +kernel
theorem dX3_order_86 : decode cX3_order 86 = .ok (.aload_n 0, 1) := by decide +kernel
theorem dX3_order_87 : decode cX3_order 87 = .ok (.invokevirtual 51, 3) := by decide +kernel
theorem dX3_order_90 : decode cX3_order 90 = .ok (.lload 6, 2) := by decide +kernel
theorem dX3_order_92 : decode cX3_order 92 = .ok (.lsub, 1) := by decide +kernel
theorem dX3_order_93 : decode cX3_order 93 = .ok (.invokevirtual 61, 3) := by decide +kernel
theorem dX3_order_96 : decode cX3_order 96 = .ok (.iload 8, 2) := by decide +kernel
theorem dX3_order_98 : decode cX3_order 98 = .ok (.ireturn, 1) := by decide +kernel
theorem dX3_hedge_0 : decode cX3_hedge 0 = .ok (.iload_n 1, 1) := by decide +kernel
theorem dX3_hedge_1 : decode cX3_hedge 1 = .ok (.sipush (-10000), 3) := by decide +kernel
theorem dX3_hedge_4 : decode cX3_hedge 4 = .ok (.sipush 10000, 3) := by decide +kernel
theorem dX3_hedge_7 : decode cX3_hedge 7 = .ok (.invokestatic 47, 3) := by decide +kernel
theorem dX3_hedge_10 : decode cX3_hedge 10 = .ok (.iload_n 2, 1) := by decide +kernel
theorem dX3_hedge_11 : decode cX3_hedge 11 = .ok (.iconst 0, 1) := by decide +kernel
theorem dX3_hedge_12 : decode cX3_hedge 12 = .ok (.sipush 10000, 3) := by decide +kernel
theorem dX3_hedge_15 : decode cX3_hedge 15 = .ok (.invokestatic 47, 3) := by decide +kernel
theorem dX3_hedge_18 : decode cX3_hedge 18 = .ok (.aload_n 0, 1) := by decide +kernel
theorem dX3_hedge_19 : decode cX3_hedge 19 = .ok (.getfield 41, 3) := by decide +kernel
theorem dX3_hedge_22 : decode cX3_hedge 22 = .ok (.iload_n 1, 1) := by decide +kernel
theorem dX3_hedge_23 : decode cX3_hedge 23 = .ok (.iadd, 1) := by decide +kernel
theorem dX3_hedge_24 : decode cX3_hedge 24 = .ok (.ldc 146, 2) := by decide +kernel
theorem dX3_hedge_26 : decode cX3_hedge 26 = .ok (.ldc 147, 2) := by decide +kernel
theorem dX3_hedge_28 : decode cX3_hedge 28 = .ok (.invokestatic 47, 3) := by decide +kernel
theorem dX3_hedge_31 : decode cX3_hedge 31 = .ok (.aload_n 0, 1) := by decide +kernel
theorem dX3_hedge_32 : decode cX3_hedge 32 = .ok (.invokevirtual 51, 3) := by decide +kernel
theorem dX3_hedge_35 : decode cX3_hedge 35 = .ok (.lstore_n 3, 1) := by decide +kernel
theorem dX3_hedge_36 : decode cX3_hedge 36 = .ok (.aload_n 0, 1) := by decide +kernel
theorem dX3_hedge_37 : decode cX3_hedge 37 = .ok (.iload_n 2, 1) := by decide +kernel
theorem dX3_hedge_38 : decode cX3_hedge 38 = .ok (.putfield 44, 3) := by decide +kernel
theorem dX3_hedge_41 : decode cX3_hedge 41 = .ok (.aload_n 0, 1) := by decide +kernel
theorem dX3_hedge_42 : decode cX3_hedge 42 = .ok (.dup, 1) := by decide +kernel
theorem dX3_hedge_43 : decode cX3_hedge 43 = .ok (.getfield 41, 3) := by decide +kernel
theorem dX3_hedge_46 : decode cX3_hedge 46 = .ok (.iload_n 1, 1) := by decide +kernel
theorem dX3_hedge_47 : decode cX3_hedge 47 = .ok (.iadd, 1) := by decide +kernel
theorem dX3_hedge_48 : decode cX3_hedge 48 = .ok (.putfield 41, 3) := by decide +kernel
theorem dX3_hedge_51 : decode cX3_hedge 51 = .ok (.aload_n 0, 1) := by decide +kernel
theorem dX3_hedge_52 : decode cX3_hedge 52 = .ok (.bipush 6, 2) := by decide +kernel
theorem dX3_hedge_54 : decode cX3_hedge 54 = .ok (.ldc2_w 148, 3) := by decide +kernel
theorem dX3_hedge_57 : decode cX3_hedge 57 = .ok (.aload_n 0, 1) := by decide +kernel
theorem dX3_hedge_58 : decode cX3_hedge 58 = .ok (.getfield 12, 3) := by decide +kernel
theorem dX3_hedge_61 : decode cX3_hedge 61 = .ok (.getfield 65, 3) := by decide +kernel
theorem dX3_hedge_64 : decode cX3_hedge 64 = .ok (.i2l, 1) := by decide +kernel
theorem dX3_hedge_65 : decode cX3_hedge 65 = .ok (.lmul, 1) := by decide +kernel
theorem dX3_hedge_66 : decode cX3_hedge 66 = .ok (.iload_n 1, 1) := by decide +kernel
theorem dX3_hedge_67 : decode cX3_hedge 67 = .ok (.i2l, 1) := by decide +kernel
theorem dX3_hedge_68 : decode cX3_hedge 68 = .ok (.lmul, 1) := by decide +kernel
theorem dX3_hedge_69 : decode cX3_hedge 69 = .ok (.invokevirtual 150, 3) := by decide +kernel
theorem dX3_hedge_72 : decode cX3_hedge 72 = .ok (.aload_n 0, 1) := by decide +kernel
theorem dX3_hedge_73 : decode cX3_hedge 73 = .ok (.bipush 6, 2) := by decide +kernel
theorem dX3_hedge_75 : decode cX3_hedge 75 = .ok (.aload_n 0, 1) := by decide +kernel
theorem dX3_hedge_76 : decode cX3_hedge 76 = .ok (.getfield 44, 3) := by decide +kernel
theorem dX3_hedge_79 : decode cX3_hedge 79 = .ok (.i2l, 1) := by decide +kernel
theorem dX3_hedge_80 : decode cX3_hedge 80 = .ok (.lneg, 1) := by decide +kernel
theorem dX3_hedge_81 : decode cX3_hedge 81 = .ok (.iload_n 1, 1) := by decide +kernel
theorem dX3_hedge_82 : decode cX3_hedge 82 = .ok (.invokestatic 153, 3) := by decide +kernel
theorem dX3_hedge_85 : decode cX3_hedge 85 = .ok (.i2l, 1) := by decide +kernel
theorem dX3_hedge_86 : decode cX3_hedge 86 = .ok (.lmul, 1) := by decide +kernel
theorem dX3_hedge_87 : decode cX3_hedge 87 = .ok (.invokevirtual 150, 3) := by decide +kernel
theorem dX3_hedge_90 : decode cX3_hedge 90 = .ok (.aload_n 0, 1) := by decide +kernel
theorem dX3_hedge_91 : decode cX3_hedge 91 = .ok (.iconst 3, 1) := by decide +kernel
theorem dX3_hedge_92 : decode cX3_hedge 92 = .ok (.aload_n 0, 1) := by decide +kernel
theorem dX3_hedge_93 : decode cX3_hedge 93 = .ok (.invokevirtual 51, 3) := by decide +kernel
theorem dX3_hedge_96 : decode cX3_hedge 96 = .ok (.lload_n 3, 1) := by decide +kernel
theorem dX3_hedge_97 : decode cX3_hedge 97 = .ok (.lsub, 1) := by decide +kernel
theorem dX3_hedge_98 : decode cX3_hedge 98 = .ok (.invokevirtual 61, 3) := by decide +kernel
theorem dX3_hedge_101 : decode cX3_hedge 101 = .ok (.aload_n 0, 1) := by decide +kernel
theorem dX3_hedge_102 : decode cX3_hedge 102 = .ok (.getfield 41, 3) := by decide +kernel
theorem dX3_hedge_105 : decode cX3_hedge 105 = .ok (.ireturn, 1) := by decide +kernel
theorem dX3_seed_0 : decode cX3_seed 0 = .ok (.iload_n 1, 1) := by decide +kernel
theorem dX3_seed_1 : decode cX3_seed 1 = .ok (.ifCond .ge 13, 3) := by decide +kernel
theorem dX3_seed_4 : decode cX3_seed 4 = .ok (.new 134, 3) := by decide +kernel
theorem dX3_seed_7 : decode cX3_seed 7 = .ok (.dup, 1) := by decide +kernel
theorem dX3_seed_8 : decode cX3_seed 8 = .ok (.ldc 156, 2) := by decide +kernel
theorem dX3_seed_10 : decode cX3_seed 10 = .ok (.invokespecial 138, 3) := by decide +kernel
theorem dX3_seed_13 : decode cX3_seed 13 = .ok (.athrow, 1) := by decide +kernel
theorem dX3_seed_14 : decode cX3_seed 14 = .ok (.aload_n 0, 1) := by decide +kernel
theorem dX3_seed_15 : decode cX3_seed 15 = .ok (.getfield 19, 3) := by decide +kernel
theorem dX3_seed_18 : decode cX3_seed 18 = .ok (.iload_n 1, 1) := by decide +kernel
theorem dX3_seed_19 : decode cX3_seed 19 = .ok (.i2l, 1) := by decide +kernel
theorem dX3_seed_20 : decode cX3_seed 20 = .ok (.putfield 158, 3) := by decide +kernel
theorem dX3_seed_23 : decode cX3_seed 23 = .ok (.return_, 1) := by decide +kernel
theorem dX3_exercise_0 : decode cX3_exercise 0 = .ok (.iload_n 1, 1) := by decide +kernel
theorem dX3_exercise_1 : decode cX3_exercise 1 = .ok (.invokestatic 162, 3) := by decide +kernel
theorem dX3_exercise_4 : decode cX3_exercise 4 = .ok (.istore 4, 2) := by decide +kernel
theorem dX3_exercise_6 : decode cX3_exercise 6 = .ok (.aload_n 0, 1) := by decide +kernel
theorem dX3_exercise_7 : decode cX3_exercise 7 = .ok (.iload_n 2, 1) := by decide +kernel
theorem dX3_exercise_8 : decode cX3_exercise 8 = .ok (.invokevirtual 105, 3) := by decide +kernel
theorem dX3_exercise_11 : decode cX3_exercise 11 = .ok (.astore 5, 2) := by decide +kernel
theorem dX3_exercise_13 : decode cX3_exercise 13 = .ok (.iload_n 3, 1) := by decide +kernel
theorem dX3_exercise_14 : decode cX3_exercise 14 = .ok (.iconst 1, 1) := by decide +kernel
theorem dX3_exercise_15 : decode cX3_exercise 15 = .ok (.sipush 1000, 3) := by decide +kernel
theorem dX3_exercise_18 : decode cX3_exercise 18 = .ok (.invokestatic 47, 3) := by decide +kernel
theorem dX3_exercise_21 : decode cX3_exercise 21 = .ok (.aload_n 0, 1) := by decide +kernel
theorem dX3_exercise_22 : decode cX3_exercise 22 = .ok (.aload 5, 2) := by decide +kernel
theorem dX3_exercise_24 : decode cX3_exercise 24 = .ok (.invokevirtual 109, 3) := by decide +kernel
theorem dX3_exercise_27 : decode cX3_exercise 27 = .ok (.aload 5, 2) := by decide +kernel
theorem dX3_exercise_29 : decode cX3_exercise 29 = .ok (.iload 4, 2) := by decide +kernel
theorem dX3_exercise_31 : decode cX3_exercise 31 = .ok (.invokevirtual 165, 3) := by decide +kernel
theorem dX3_exercise_34 : decode cX3_exercise 34 = .ok (.iload_n 3, 1) := by decide +kernel
theorem dX3_exercise_35 : decode cX3_exercise 35 = .ok (.if_icmp .ge 13, 3) := by decide +kernel
theorem dX3_exercise_38 : decode cX3_exercise 38 = .ok (.new 89, 3) := by decide +kernel
theorem dX3_exercise_41 : decode cX3_exercise 41 = .ok (.dup, 1) := by decide +kernel
theorem dX3_exercise_42 : decode cX3_exercise 42 = .ok (.ldc 168, 2) := by decide +kernel
theorem dX3_exercise_44 : decode cX3_exercise 44 = .ok (.invokespecial 93, 3) := by decide +kernel
theorem dX3_exercise_47 : decode cX3_exercise 47 = .ok (.athrow, 1) := by decide +kernel
theorem dX3_exercise_48 : decode cX3_exercise 48 = .ok (.aload 5, 2) := by decide +kernel
theorem dX3_exercise_50 : decode cX3_exercise 50 = .ok (.getfield 170, 3) := by decide +kernel
theorem dX3_exercise_53 : decode cX3_exercise 53 = .ok (.ifCond .ne 28, 3) := by decide +kernel
theorem dX3_exercise_56 : decode cX3_exercise 56 = .ok (.aload 5, 2) := by decide +kernel
theorem dX3_exercise_58 : decode cX3_exercise 58 = .ok (.getfield 174, 3) := by decide +kernel
theorem dX3_exercise_61 : decode cX3_exercise 61 = .ok (.aload_n 0, 1) := by decide +kernel
theorem dX3_exercise_62 : decode cX3_exercise 62 = .ok (.getfield 12, 3) := by decide +kernel
theorem dX3_exercise_65 : decode cX3_exercise 65 = .ok (.getfield 68, 3) := by decide +kernel
theorem dX3_exercise_68 : decode cX3_exercise 68 = .ok (.if_icmp .eq 13, 3) := by decide +kernel
theorem dX3_exercise_71 : decode cX3_exercise 71 = .ok (.new 89, 3) := by decide +kernel
theorem dX3_exercise_74 : decode cX3_exercise 74 = .ok (.dup, 1) := by decide +kernel
theorem dX3_exercise_75 : decode cX3_exercise 75 = .ok (.ldc 177, 2) := by decide +kernel
theorem dX3_exercise_77 : decode cX3_exercise 77 = .ok (.invokespecial 93, 3) := by decide +kernel
theorem dX3_exercise_80 : decode cX3_exercise 80 = .ok (.athrow, 1) := by decide +kernel
theorem dX3_exercise_81 : decode cX3_exercise 81 = .ok (.aload_n 0, 1) := by decide +kernel
theorem dX3_exercise_82 : decode cX3_exercise 82 = .ok (.invokevirtual 51, 3) := by decide +kernel
theorem dX3_exercise_85 : decode cX3_exercise 85 = .ok (.lstore 6, 2) := by decide +kernel
theorem dX3_exercise_87 : decode cX3_exercise 87 = .ok (.aload_n 0, 1) := by decide +kernel
theorem dX3_exercise_88 : decode cX3_exercise 88 = .ok (.iload 4, 2) := by decide +kernel
theorem dX3_exercise_90 : decode cX3_exercise 90 = .ok (.aload 5, 2) := by decide +kernel
theorem dX3_exercise_92 : decode cX3_exercise 92 = .ok (.iload_n 3, 1) := by decide +kernel
theorem dX3_exercise_93 : decode cX3_exercise 93 = .ok (.invokevirtual 179, 3) := by decide +kernel
theorem dX3_exercise_96 : decode cX3_exercise 96 = .ok (.aload_n 0, 1) := by decide +kernel
theorem dX3_exercise_97 : decode cX3_exercise 97 = .ok (.iconst 4, 1) := by decide +kernel
theorem dX3_exercise_98 : decode cX3_exercise 98 = .ok (.aload_n 0, 1) := by decide +kernel
theorem dX3_exercise_99 : decode cX3_exercise 99 = .ok (.invokevirtual 51, 3) := by decide +kernel
theorem dX3_exercise_102 : decode cX3_exercise 102 = .ok (.lload 6, 2) := by decide +kernel
theorem dX3_exercise_104 : decode cX3_exercise 104 = .ok (.lsub, 1) := by decide +kernel
theorem dX3_exercise_105 : decode cX3_exercise 105 = .ok (.invokevirtual 61, 3) := by decide +kernel
theorem dX3_exercise_108 : decode cX3_exercise 108 = .ok (.aload 5, 2) := by decide +kernel
theorem dX3_exercise_110 : decode cX3_exercise 110 = .ok (.aload_n 0, 1) := by decide +kernel
theorem dX3_exercise_111 : decode cX3_exercise 111 = .ok (.getfield 12, 3) := by decide +kernel
theorem dX3_exercise_114 : decode cX3_exercise 114 = .ok (.getfield 65, 3) := by decide +kernel
theorem dX3_exercise_117 : decode cX3_exercise 117 = .ok (.invokevirtual 183, 3) := by decide +kernel
theorem dX3_exercise_120 : decode cX3_exercise 120 = .ok (.ireturn, 1) := by decide +kernel
theorem dX3_contrary_0 : decode cX3_contrary 0 = .ok (.iload_n 1, 1) := by decide +kernel
theorem dX3_contrary_1 : decode cX3_contrary 1 = .ok (.invokestatic 130, 3) := by decide +kernel
theorem dX3_contrary_4 : decode cX3_contrary 4 = .ok (.aload_n 0, 1) := by decide +kernel
theorem dX3_contrary_5 : decode cX3_contrary 5 = .ok (.iload_n 2, 1) := by decide +kernel
theorem dX3_contrary_6 : decode cX3_contrary 6 = .ok (.invokevirtual 105, 3) := by decide +kernel
theorem dX3_contrary_9 : decode cX3_contrary 9 = .ok (.astore 4, 2) := by decide +kernel
theorem dX3_contrary_11 : decode cX3_contrary 11 = .ok (.aload_n 0, 1) := by decide +kernel
theorem dX3_contrary_12 : decode cX3_contrary 12 = .ok (.aload 4, 2) := by decide +kernel
theorem dX3_contrary_14 : decode cX3_contrary 14 = .ok (.invokevirtual 109, 3) := by decide +kernel
theorem dX3_contrary_17 : decode cX3_contrary 17 = .ok (.aload 4, 2) := by decide +kernel
theorem dX3_contrary_19 : decode cX3_contrary 19 = .ok (.iload_n 1, 1) := by decide +kernel
theorem dX3_contrary_20 : decode cX3_contrary 20 = .ok (.iload_n 3, 1) := by decide +kernel
theorem dX3_contrary_21 : decode cX3_contrary 21 = .ok (.invokevirtual 186, 3) := by decide +kernel
theorem dX3_contrary_24 : decode cX3_contrary 24 = .ok (.ireturn, 1) := by decide +kernel
theorem dX3_close_0 : decode cX3_close 0 = .ok (.aload_n 0, 1) := by decide +kernel
theorem dX3_close_1 : decode cX3_close 1 = .ok (.getfield 12, 3) := by decide +kernel
theorem dX3_close_4 : decode cX3_close 4 = .ok (.getfield 68, 3) := by decide +kernel
theorem dX3_close_7 : decode cX3_close 7 = .ok (.sipush 200, 3) := by decide +kernel
theorem dX3_close_10 : decode cX3_close 10 = .ok (.if_icmp .lt 13, 3) := by decide +kernel
theorem dX3_close_13 : decode cX3_close 13 = .ok (.new 89, 3) := by decide +kernel
theorem dX3_close_16 : decode cX3_close 16 = .ok (.dup, 1) := by decide +kernel
theorem dX3_close_17 : decode cX3_close 17 = .ok (.ldc 190, 2) := by decide +kernel
theorem dX3_close_19 : decode cX3_close 19 = .ok (.invokespecial 93, 3) := by decide +kernel
theorem dX3_close_22 : decode cX3_close 22 = .ok (.athrow, 1) := by decide +kernel
theorem dX3_close_23 : decode cX3_close 23 = .ok (.aload_n 0, 1) := by decide +kernel
theorem dX3_close_24 : decode cX3_close 24 = .ok (.invokevirtual 51, 3) := by decide +kernel
theorem dX3_close_27 : decode cX3_close 27 = .ok (.lstore_n 1, 1) := by decide +kernel
theorem dX3_close_28 : decode cX3_close 28 = .ok (.iconst 0, 1) := by decide +kernel
theorem dX3_close_29 : decode cX3_close 29 = .ok (.istore_n 3, 1) := by decide +kernel
theorem dX3_close_30 : decode cX3_close 30 = .ok (.iload_n 3, 1) := by decide +kernel
theorem dX3_close_31 : decode cX3_close 31 = .ok (.aload_n 0, 1) := by decide +kernel
theorem dX3_close_32 : decode cX3_close 32 = .ok (.getfield 26, 3) := by decide +kernel
theorem dX3_close_35 : decode cX3_close 35 = .ok (.invokevirtual 85, 3) := by decide +kernel
theorem dX3_close_38 : decode cX3_close 38 = .ok (.if_icmp .ge 43, 3) := by decide +kernel
theorem dX3_close_41 : decode cX3_close 41 = .ok (.aload_n 0, 1) := by decide +kernel
theorem dX3_close_42 : decode cX3_close 42 = .ok (.getfield 26, 3) := by decide +kernel
theorem dX3_close_45 : decode cX3_close 45 = .ok (.iload_n 3, 1) := by decide +kernel
theorem dX3_close_46 : decode cX3_close 46 = .ok (.invokevirtual 119, 3) := by decide +kernel
theorem dX3_close_49 : decode cX3_close 49 = .ok (.checkcast 96, 3) := by decide +kernel
theorem dX3_close_52 : decode cX3_close 52 = .ok (.astore 4, 2) := by decide +kernel
theorem dX3_close_54 : decode cX3_close 54 = .ok (.aload 4, 2) := by decide +kernel
theorem dX3_close_56 : decode cX3_close 56 = .ok (.getfield 174, 3) := by decide +kernel
theorem dX3_close_59 : decode cX3_close 59 = .ok (.aload_n 0, 1) := by decide +kernel
theorem dX3_close_60 : decode cX3_close 60 = .ok (.getfield 12, 3) := by decide +kernel
theorem dX3_close_63 : decode cX3_close 63 = .ok (.getfield 68, 3) := by decide +kernel
theorem dX3_close_66 : decode cX3_close 66 = .ok (.if_icmp .ne 9, 3) := by decide +kernel
theorem dX3_close_69 : decode cX3_close 69 = .ok (.aload_n 0, 1) := by decide +kernel
theorem dX3_close_70 : decode cX3_close 70 = .ok (.aload 4, 2) := by decide +kernel
theorem dX3_close_72 : decode cX3_close 72 = .ok (.invokevirtual 192, 3) := by decide +kernel
theorem dX3_close_75 : decode cX3_close 75 = .ok (.iinc 3 1, 3) := by decide +kernel
theorem dX3_close_78 : decode cX3_close 78 = .ok (.goto (-48), 3) := by decide +kernel
theorem dX3_close_81 : decode cX3_close 81 = .ok (.aload_n 0, 1) := by decide +kernel
theorem dX3_close_82 : decode cX3_close 82 = .ok (.invokevirtual 51, 3) := by decide +kernel
theorem dX3_close_85 : decode cX3_close 85 = .ok (.lstore_n 3, 1) := by decide +kernel
theorem dX3_close_86 : decode cX3_close 86 = .ok (.aload_n 0, 1) := by decide +kernel
theorem dX3_close_87 : decode cX3_close 87 = .ok (.getfield 12, 3) := by decide +kernel
theorem dX3_close_90 : decode cX3_close 90 = .ok (.dup, 1) := by decide +kernel
theorem dX3_close_91 : decode cX3_close 91 = .ok (.getfield 68, 3) := by decide +kernel
theorem dX3_close_94 : decode cX3_close 94 = .ok (.iconst 1, 1) := by decide +kernel
theorem dX3_close_95 : decode cX3_close 95 = .ok (.iadd, 1) := by decide +kernel
theorem dX3_close_96 : decode cX3_close 96 = .ok (.putfield 68, 3) := by decide +kernel
theorem dX3_close_99 : decode cX3_close 99 = .ok (.aload_n 0, 1) := by decide +kernel
theorem dX3_close_100 : decode cX3_close 100 = .ok (.iconst 4, 1) := by decide +kernel
theorem dX3_close_101 : decode cX3_close 101 = .ok (.lload_n 3, 1) := by decide +kernel
theorem dX3_close_102 : decode cX3_close 102 = .ok (.lload_n 1, 1) := by decide +kernel
theorem dX3_close_103 : decode cX3_close 103 = .ok (.lsub, 1) := by decide +kernel
theorem dX3_close_104 : decode cX3_close 104 = .ok (.invokevirtual 61, 3) := by decide +kernel
theorem dX3_close_107 : decode cX3_close 107 = .ok (.aload_n 0, 1) := by decide +kernel
theorem dX3_close_108 : decode cX3_close 108 = .ok (.iconst 2, 1) := by decide +kernel
theorem dX3_close_109 : decode cX3_close 109 = .ok (.aload_n 0, 1) := by decide +kernel
theorem dX3_close_110 : decode cX3_close 110 = .ok (.invokevirtual 51, 3) := by decide +kernel
end
section
theorem dX3_close_113 : decode cX3_close 113 = .ok (.lload_n 3, 1) := by decide +kernel
theorem dX3_close_114 : decode cX3_close 114 = .ok (.lsub, 1) := by decide +kernel
theorem dX3_close_115 : decode cX3_close 115 = .ok (.invokevirtual 61, 3) := by decide +kernel
theorem dX3_close_118 : decode cX3_close 118 = .ok (.aload_n 0, 1) := by decide +kernel
theorem dX3_close_119 : decode cX3_close 119 = .ok (.getfield 12, 3) := by decide +kernel
theorem dX3_close_122 : decode cX3_close 122 = .ok (.getfield 68, 3) := by decide +kernel
theorem dX3_close_125 : decode cX3_close 125 = .ok (.ireturn, 1) := by decide +kernel
theorem dX3_value_0 : decode cX3_value 0 = .ok (.aload_n 0, 1) := by decide +kernel
theorem dX3_value_1 : decode cX3_value 1 = .ok (.iload_n 1, 1) := by decide +kernel
theorem dX3_value_2 : decode cX3_value 2 = .ok (.invokevirtual 105, 3) := by decide +kernel
theorem dX3_value_5 : decode cX3_value 5 = .ok (.astore_n 3, 1) := by decide +kernel
theorem dX3_value_6 : decode cX3_value 6 = .ok (.aload_n 0, 1) := by decide +kernel
theorem dX3_value_7 : decode cX3_value 7 = .ok (.getfield 12, 3) := by decide +kernel
theorem dX3_value_10 : decode cX3_value 10 = .ok (.aload_n 3, 1) := by decide +kernel
theorem dX3_value_11 : decode cX3_value 11 = .ok (.aload_n 0, 1) := by decide +kernel
theorem dX3_value_12 : decode cX3_value 12 = .ok (.getfield 12, 3) := by decide +kernel
theorem dX3_value_15 : decode cX3_value 15 = .ok (.getfield 65, 3) := by decide +kernel
theorem dX3_value_18 : decode cX3_value 18 = .ok (.invokevirtual 195, 3) := by decide +kernel
theorem dX3_value_21 : decode cX3_value 21 = .ok (.lstore 4, 2) := by decide +kernel
theorem dX3_value_23 : decode cX3_value 23 = .ok (.aload_n 0, 1) := by decide +kernel
theorem dX3_value_24 : decode cX3_value 24 = .ok (.getfield 12, 3) := by decide +kernel
theorem dX3_value_27 : decode cX3_value 27 = .ok (.aload_n 3, 1) := by decide +kernel
theorem dX3_value_28 : decode cX3_value 28 = .ok (.invokevirtual 199, 3) := by decide +kernel
theorem dX3_value_31 : decode cX3_value 31 = .ok (.lstore 6, 2) := by decide +kernel
theorem dX3_value_33 : decode cX3_value 33 = .ok (.lload 4, 2) := by decide +kernel
theorem dX3_value_35 : decode cX3_value 35 = .ok (.lload 6, 2) := by decide +kernel
theorem dX3_value_37 : decode cX3_value 37 = .ok (.invokestatic 203, 3) := by decide +kernel
theorem dX3_value_40 : decode cX3_value 40 = .ok (.lstore 8, 2) := by decide +kernel
theorem dX3_value_42 : decode cX3_value 42 = .ok (.lload 8, 2) := by decide +kernel
theorem dX3_value_44 : decode cX3_value 44 = .ok (.lconst 0, 1) := by decide +kernel
theorem dX3_value_45 : decode cX3_value 45 = .ok (.lcmp, 1) := by decide +kernel
theorem dX3_value_46 : decode cX3_value 46 = .ok (.ifCond .ne 13, 3) := by decide +kernel
theorem dX3_value_49 : decode cX3_value 49 = .ok (.iload_n 2, 1) := by decide +kernel
theorem dX3_value_50 : decode cX3_value 50 = .ok (.ifCond .eq 7, 3) := by decide +kernel
theorem dX3_value_53 : decode cX3_value 53 = .ok (.lconst 1, 1) := by decide +kernel
theorem dX3_value_54 : decode cX3_value 54 = .ok (.goto 4, 3) := by decide +kernel
theorem dX3_value_57 : decode cX3_value 57 = .ok (.lconst 0, 1) := by decide +kernel
theorem dX3_value_58 : decode cX3_value 58 = .ok (.lreturn, 1) := by decide +kernel
theorem dX3_value_59 : decode cX3_value 59 = .ok (.iload_n 2, 1) := by decide +kernel
theorem dX3_value_60 : decode cX3_value 60 = .ok (.ifCond .eq 8, 3) := by decide +kernel
theorem dX3_value_63 : decode cX3_value 63 = .ok (.lload 6, 2) := by decide +kernel
theorem dX3_value_65 : decode cX3_value 65 = .ok (.goto 5, 3) := by decide +kernel
theorem dX3_value_68 : decode cX3_value 68 = .ok (.lload 4, 2) := by decide +kernel
theorem dX3_value_70 : decode cX3_value 70 = .ok (.lload 8, 2) := by decide +kernel
theorem dX3_value_72 : decode cX3_value 72 = .ok (.ldiv, 1) := by decide +kernel
theorem dX3_value_73 : decode cX3_value 73 = .ok (.lreturn, 1) := by decide +kernel
theorem dX3_mark_0 : decode cX3_mark 0 = .ok (.aload_n 0, 1) := by decide +kernel
theorem dX3_mark_1 : decode cX3_mark 1 = .ok (.getfield 12, 3) := by decide +kernel
theorem dX3_mark_4 : decode cX3_mark 4 = .ok (.aload_n 0, 1) := by decide +kernel
theorem dX3_mark_5 : decode cX3_mark 5 = .ok (.iload_n 1, 1) := by decide +kernel
theorem dX3_mark_6 : decode cX3_mark 6 = .ok (.invokevirtual 105, 3) := by decide +kernel
theorem dX3_mark_9 : decode cX3_mark 9 = .ok (.aload_n 0, 1) := by decide +kernel
theorem dX3_mark_10 : decode cX3_mark 10 = .ok (.getfield 12, 3) := by decide +kernel
theorem dX3_mark_13 : decode cX3_mark 13 = .ok (.getfield 65, 3) := by decide +kernel
theorem dX3_mark_16 : decode cX3_mark 16 = .ok (.invokevirtual 207, 3) := by decide +kernel
theorem dX3_mark_19 : decode cX3_mark 19 = .ok (.ireturn, 1) := by decide +kernel
theorem dX3_markByWays_0 : decode cX3_markByWays 0 = .ok (.aload_n 0, 1) := by decide +kernel
theorem dX3_markByWays_1 : decode cX3_markByWays 1 = .ok (.iload_n 1, 1) := by decide +kernel
theorem dX3_markByWays_2 : decode cX3_markByWays 2 = .ok (.invokevirtual 105, 3) := by decide +kernel
theorem dX3_markByWays_5 : decode cX3_markByWays 5 = .ok (.astore_n 2, 1) := by decide +kernel
theorem dX3_markByWays_6 : decode cX3_markByWays 6 = .ok (.aload_n 0, 1) := by decide +kernel
theorem dX3_markByWays_7 : decode cX3_markByWays 7 = .ok (.getfield 12, 3) := by decide +kernel
theorem dX3_markByWays_10 : decode cX3_markByWays 10 = .ok (.aload_n 2, 1) := by decide +kernel
theorem dX3_markByWays_11 : decode cX3_markByWays 11 = .ok (.aload_n 0, 1) := by decide +kernel
theorem dX3_markByWays_12 : decode cX3_markByWays 12 = .ok (.getfield 12, 3) := by decide +kernel
theorem dX3_markByWays_15 : decode cX3_markByWays 15 = .ok (.getfield 65, 3) := by decide +kernel
theorem dX3_markByWays_18 : decode cX3_markByWays 18 = .ok (.aload_n 2, 1) := by decide +kernel
theorem dX3_markByWays_19 : decode cX3_markByWays 19 = .ok (.getfield 174, 3) := by decide +kernel
theorem dX3_markByWays_22 : decode cX3_markByWays 22 = .ok (.aload_n 0, 1) := by decide +kernel
theorem dX3_markByWays_23 : decode cX3_markByWays 23 = .ok (.getfield 12, 3) := by decide +kernel
theorem dX3_markByWays_26 : decode cX3_markByWays 26 = .ok (.getfield 68, 3) := by decide +kernel
theorem dX3_markByWays_29 : decode cX3_markByWays 29 = .ok (.isub, 1) := by decide +kernel
theorem dX3_markByWays_30 : decode cX3_markByWays 30 = .ok (.invokestatic 211, 3) := by decide +kernel
theorem dX3_markByWays_33 : decode cX3_markByWays 33 = .ok (.lstore_n 3, 1) := by decide +kernel
theorem dX3_markByWays_34 : decode cX3_markByWays 34 = .ok (.lload_n 3, 1) := by decide +kernel
theorem dX3_markByWays_35 : decode cX3_markByWays 35 = .ok (.aload_n 0, 1) := by decide +kernel
theorem dX3_markByWays_36 : decode cX3_markByWays 36 = .ok (.getfield 12, 3) := by decide +kernel
theorem dX3_markByWays_39 : decode cX3_markByWays 39 = .ok (.aload_n 2, 1) := by decide +kernel
theorem dX3_markByWays_40 : decode cX3_markByWays 40 = .ok (.invokevirtual 199, 3) := by decide +kernel
theorem dX3_markByWays_43 : decode cX3_markByWays 43 = .ok (.invokestatic 215, 3) := by decide +kernel
theorem dX3_markByWays_46 : decode cX3_markByWays 46 = .ok (.ireturn, 1) := by decide +kernel
theorem dX3_fault_0 : decode cX3_fault 0 = .ok (.aload_n 0, 1) := by decide +kernel
theorem dX3_fault_1 : decode cX3_fault 1 = .ok (.invokevirtual 116, 3) := by decide +kernel
theorem dX3_fault_4 : decode cX3_fault 4 = .ok (.ireturn, 1) := by decide +kernel
theorem dX3_quoted_0 : decode cX3_quoted 0 = .ok (.aload_n 0, 1) := by decide +kernel
theorem dX3_quoted_1 : decode cX3_quoted 1 = .ok (.iload_n 1, 1) := by decide +kernel
theorem dX3_quoted_2 : decode cX3_quoted 2 = .ok (.invokevirtual 105, 3) := by decide +kernel
theorem dX3_quoted_5 : decode cX3_quoted 5 = .ok (.astore_n 3, 1) := by decide +kernel
theorem dX3_quoted_6 : decode cX3_quoted 6 = .ok (.iload_n 2, 1) := by decide +kernel
theorem dX3_quoted_7 : decode cX3_quoted 7 = .ok (.tableswitch 49 0 3 #[29, 34, 39, 44], 29) := by decide +kernel
theorem dX3_quoted_36 : decode cX3_quoted 36 = .ok (.aload_n 3, 1) := by decide +kernel
theorem dX3_quoted_37 : decode cX3_quoted 37 = .ok (.getfield 219, 3) := by decide +kernel
theorem dX3_quoted_40 : decode cX3_quoted 40 = .ok (.ireturn, 1) := by decide +kernel
theorem dX3_quoted_41 : decode cX3_quoted 41 = .ok (.aload_n 3, 1) := by decide +kernel
theorem dX3_quoted_42 : decode cX3_quoted 42 = .ok (.getfield 222, 3) := by decide +kernel
theorem dX3_quoted_45 : decode cX3_quoted 45 = .ok (.ireturn, 1) := by decide +kernel
theorem dX3_quoted_46 : decode cX3_quoted 46 = .ok (.aload_n 3, 1) := by decide +kernel
theorem dX3_quoted_47 : decode cX3_quoted 47 = .ok (.getfield 225, 3) := by decide +kernel
theorem dX3_quoted_50 : decode cX3_quoted 50 = .ok (.ireturn, 1) := by decide +kernel
theorem dX3_quoted_51 : decode cX3_quoted 51 = .ok (.aload_n 3, 1) := by decide +kernel
theorem dX3_quoted_52 : decode cX3_quoted 52 = .ok (.getfield 228, 3) := by decide +kernel
theorem dX3_quoted_55 : decode cX3_quoted 55 = .ok (.ireturn, 1) := by decide +kernel
theorem dX3_quoted_56 : decode cX3_quoted 56 = .ok (.new 134, 3) := by decide +kernel
theorem dX3_quoted_59 : decode cX3_quoted 59 = .ok (.dup, 1) := by decide +kernel
theorem dX3_quoted_60 : decode cX3_quoted 60 = .ok (.ldc 231, 2) := by decide +kernel
theorem dX3_quoted_62 : decode cX3_quoted 62 = .ok (.invokespecial 138, 3) := by decide +kernel
theorem dX3_quoted_65 : decode cX3_quoted 65 = .ok (.athrow, 1) := by decide +kernel
theorem dX3_lots_0 : decode cX3_lots 0 = .ok (.iload_n 1, 1) := by decide +kernel
theorem dX3_lots_1 : decode cX3_lots 1 = .ok (.invokestatic 162, 3) := by decide +kernel
theorem dX3_lots_4 : decode cX3_lots 4 = .ok (.istore_n 3, 1) := by decide +kernel
theorem dX3_lots_5 : decode cX3_lots 5 = .ok (.aload_n 0, 1) := by decide +kernel
theorem dX3_lots_6 : decode cX3_lots 6 = .ok (.iload_n 2, 1) := by decide +kernel
theorem dX3_lots_7 : decode cX3_lots 7 = .ok (.invokevirtual 105, 3) := by decide +kernel
theorem dX3_lots_10 : decode cX3_lots 10 = .ok (.iload_n 3, 1) := by decide +kernel
theorem dX3_lots_11 : decode cX3_lots 11 = .ok (.invokevirtual 165, 3) := by decide +kernel
theorem dX3_lots_14 : decode cX3_lots 14 = .ok (.ireturn, 1) := by decide +kernel
theorem dX3_cash_0 : decode cX3_cash 0 = .ok (.aload_n 0, 1) := by decide +kernel
theorem dX3_cash_1 : decode cX3_cash 1 = .ok (.iload_n 1, 1) := by decide +kernel
theorem dX3_cash_2 : decode cX3_cash 2 = .ok (.invokestatic 162, 3) := by decide +kernel
theorem dX3_cash_5 : decode cX3_cash 5 = .ok (.invokevirtual 233, 3) := by decide +kernel
theorem dX3_cash_8 : decode cX3_cash 8 = .ok (.lreturn, 1) := by decide +kernel
theorem dX3_worth_0 : decode cX3_worth 0 = .ok (.aload_n 0, 1) := by decide +kernel
theorem dX3_worth_1 : decode cX3_worth 1 = .ok (.invokevirtual 51, 3) := by decide +kernel
theorem dX3_worth_4 : decode cX3_worth 4 = .ok (.lreturn, 1) := by decide +kernel
theorem dX3_cause_0 : decode cX3_cause 0 = .ok (.iload_n 1, 1) := by decide +kernel
theorem dX3_cause_1 : decode cX3_cause 1 = .ok (.ifCond .lt 12, 3) := by decide +kernel
theorem dX3_cause_4 : decode cX3_cause 4 = .ok (.iload_n 1, 1) := by decide +kernel
theorem dX3_cause_5 : decode cX3_cause 5 = .ok (.aload_n 0, 1) := by decide +kernel
theorem dX3_cause_6 : decode cX3_cause 6 = .ok (.getfield 34, 3) := by decide +kernel
theorem dX3_cause_9 : decode cX3_cause 9 = .ok (.arraylength, 1) := by decide +kernel
theorem dX3_cause_10 : decode cX3_cause 10 = .ok (.if_icmp .lt 13, 3) := by decide +kernel
theorem dX3_cause_13 : decode cX3_cause 13 = .ok (.new 237, 3) := by decide +kernel
theorem dX3_cause_16 : decode cX3_cause 16 = .ok (.dup, 1) := by decide +kernel
theorem dX3_cause_17 : decode cX3_cause 17 = .ok (.ldc 239, 2) := by decide +kernel
theorem dX3_cause_19 : decode cX3_cause 19 = .ok (.invokespecial 241, 3) := by decide +kernel
theorem dX3_cause_22 : decode cX3_cause 22 = .ok (.athrow, 1) := by decide +kernel
theorem dX3_cause_23 : decode cX3_cause 23 = .ok (.aload_n 0, 1) := by decide +kernel
theorem dX3_cause_24 : decode cX3_cause 24 = .ok (.getfield 34, 3) := by decide +kernel
theorem dX3_cause_27 : decode cX3_cause 27 = .ok (.iload_n 1, 1) := by decide +kernel
theorem dX3_cause_28 : decode cX3_cause 28 = .ok (.laload, 1) := by decide +kernel
theorem dX3_cause_29 : decode cX3_cause 29 = .ok (.lreturn, 1) := by decide +kernel
theorem dX3_worst_0 : decode cX3_worst 0 = .ok (.iload_n 1, 1) := by decide +kernel
theorem dX3_worst_1 : decode cX3_worst 1 = .ok (.iconst 0, 1) := by decide +kernel
theorem dX3_worst_2 : decode cX3_worst 2 = .ok (.bipush 100, 2) := by decide +kernel
theorem dX3_worst_4 : decode cX3_worst 4 = .ok (.invokestatic 47, 3) := by decide +kernel
theorem dX3_worst_7 : decode cX3_worst 7 = .ok (.aload_n 0, 1) := by decide +kernel
theorem dX3_worst_8 : decode cX3_worst 8 = .ok (.invokevirtual 51, 3) := by decide +kernel
theorem dX3_worst_11 : decode cX3_worst 11 = .ok (.lstore_n 2, 1) := by decide +kernel
theorem dX3_worst_12 : decode cX3_worst 12 = .ok (.lconst 0, 1) := by decide +kernel
theorem dX3_worst_13 : decode cX3_worst 13 = .ok (.lstore 4, 2) := by decide +kernel
theorem dX3_worst_15 : decode cX3_worst 15 = .ok (.iload_n 1, 1) := by decide +kernel
theorem dX3_worst_16 : decode cX3_worst 16 = .ok (.ineg, 1) := by decide +kernel
theorem dX3_worst_17 : decode cX3_worst 17 = .ok (.istore 6, 2) := by decide +kernel
theorem dX3_worst_19 : decode cX3_worst 19 = .ok (.iload 6, 2) := by decide +kernel
theorem dX3_worst_21 : decode cX3_worst 21 = .ok (.iload_n 1, 1) := by decide +kernel
theorem dX3_worst_22 : decode cX3_worst 22 = .ok (.if_icmp .gt 35, 3) := by decide +kernel
theorem dX3_worst_25 : decode cX3_worst 25 = .ok (.lload 4, 2) := by decide +kernel
theorem dX3_worst_27 : decode cX3_worst 27 = .ok (.lload_n 2, 1) := by decide +kernel
theorem dX3_worst_28 : decode cX3_worst 28 = .ok (.aload_n 0, 1) := by decide +kernel
theorem dX3_worst_29 : decode cX3_worst 29 = .ok (.aload_n 0, 1) := by decide +kernel
theorem dX3_worst_30 : decode cX3_worst 30 = .ok (.getfield 12, 3) := by decide +kernel
theorem dX3_worst_33 : decode cX3_worst 33 = .ok (.getfield 65, 3) := by decide +kernel
theorem dX3_worst_36 : decode cX3_worst 36 = .ok (.bipush 10, 2) := by decide +kernel
theorem dX3_worst_38 : decode cX3_worst 38 = .ok (.iload 6, 2) := by decide +kernel
theorem dX3_worst_40 : decode cX3_worst 40 = .ok (.imul, 1) := by decide +kernel
theorem dX3_worst_41 : decode cX3_worst 41 = .ok (.iadd, 1) := by decide +kernel
theorem dX3_worst_42 : decode cX3_worst 42 = .ok (.invokevirtual 242, 3) := by decide +kernel
theorem dX3_worst_45 : decode cX3_worst 45 = .ok (.lsub, 1) := by decide +kernel
theorem dX3_worst_46 : decode cX3_worst 46 = .ok (.invokestatic 245, 3) := by decide +kernel
theorem dX3_worst_49 : decode cX3_worst 49 = .ok (.lstore 4, 2) := by decide +kernel
theorem dX3_worst_51 : decode cX3_worst 51 = .ok (.iinc 6 1, 3) := by decide +kernel
theorem dX3_worst_54 : decode cX3_worst 54 = .ok (.goto (-35), 3) := by decide +kernel
theorem dX3_worst_57 : decode cX3_worst 57 = .ok (.lload 4, 2) := by decide +kernel
theorem dX3_worst_59 : decode cX3_worst 59 = .ok (.lreturn, 1) := by decide +kernel
theorem dX3_checkRange_0 : decode cX3_checkRange 0 = .ok (.iload_n 0, 1) := by decide +kernel
theorem dX3_checkRange_1 : decode cX3_checkRange 1 = .ok (.iload_n 1, 1) := by decide +kernel
theorem dX3_checkRange_2 : decode cX3_checkRange 2 = .ok (.if_icmp .lt 8, 3) := by decide +kernel
theorem dX3_checkRange_5 : decode cX3_checkRange 5 = .ok (.iload_n 0, 1) := by decide +kernel
theorem dX3_checkRange_6 : decode cX3_checkRange 6 = .ok (.iload_n 2, 1) := by decide +kernel
theorem dX3_checkRange_7 : decode cX3_checkRange 7 = .ok (.if_icmp .le 13, 3) := by decide +kernel
theorem dX3_checkRange_10 : decode cX3_checkRange 10 = .ok (.new 134, 3) := by decide +kernel
theorem dX3_checkRange_13 : decode cX3_checkRange 13 = .ok (.dup, 1) := by decide +kernel
theorem dX3_checkRange_14 : decode cX3_checkRange 14 = .ok (.ldc 248, 2) := by decide +kernel
theorem dX3_checkRange_16 : decode cX3_checkRange 16 = .ok (.invokespecial 138, 3) := by decide +kernel
theorem dX3_checkRange_19 : decode cX3_checkRange 19 = .ok (.athrow, 1) := by decide +kernel
theorem dX3_checkRange_20 : decode cX3_checkRange 20 = .ok (.return_, 1) := by decide +kernel
theorem dX3_checkCustomer_0 : decode cX3_checkCustomer 0 = .ok (.iload_n 0, 1) := by decide +kernel
theorem dX3_checkCustomer_1 : decode cX3_checkCustomer 1 = .ok (.ifCond .lt 9, 3) := by decide +kernel
theorem dX3_checkCustomer_4 : decode cX3_checkCustomer 4 = .ok (.iload_n 0, 1) := by decide +kernel
theorem dX3_checkCustomer_5 : decode cX3_checkCustomer 5 = .ok (.bipush 6, 2) := by decide +kernel
theorem dX3_checkCustomer_7 : decode cX3_checkCustomer 7 = .ok (.if_icmp .lt 13, 3) := by decide +kernel
theorem dX3_checkCustomer_10 : decode cX3_checkCustomer 10 = .ok (.new 237, 3) := by decide +kernel
theorem dX3_checkCustomer_13 : decode cX3_checkCustomer 13 = .ok (.dup, 1) := by decide +kernel
theorem dX3_checkCustomer_14 : decode cX3_checkCustomer 14 = .ok (.ldc 250, 2) := by decide +kernel
theorem dX3_checkCustomer_16 : decode cX3_checkCustomer 16 = .ok (.invokespecial 241, 3) := by decide +kernel
theorem dX3_checkCustomer_19 : decode cX3_checkCustomer 19 = .ok (.athrow, 1) := by decide +kernel
theorem dX3_checkCustomer_20 : decode cX3_checkCustomer 20 = .ok (.return_, 1) := by decide +kernel
theorem dX3_checkNotOver_0 : decode cX3_checkNotOver 0 = .ok (.aload_n 1, 1) := by decide +kernel
theorem dX3_checkNotOver_1 : decode cX3_checkNotOver 1 = .ok (.getfield 174, 3) := by decide +kernel
theorem dX3_checkNotOver_4 : decode cX3_checkNotOver 4 = .ok (.aload_n 0, 1) := by decide +kernel
theorem dX3_checkNotOver_5 : decode cX3_checkNotOver 5 = .ok (.getfield 12, 3) := by decide +kernel
theorem dX3_checkNotOver_8 : decode cX3_checkNotOver 8 = .ok (.getfield 68, 3) := by decide +kernel
theorem dX3_checkNotOver_11 : decode cX3_checkNotOver 11 = .ok (.if_icmp .ge 13, 3) := by decide +kernel
theorem dX3_checkNotOver_14 : decode cX3_checkNotOver 14 = .ok (.new 89, 3) := by decide +kernel
theorem dX3_checkNotOver_17 : decode cX3_checkNotOver 17 = .ok (.dup, 1) := by decide +kernel
theorem dX3_checkNotOver_18 : decode cX3_checkNotOver 18 = .ok (.ldc 252, 2) := by decide +kernel
theorem dX3_checkNotOver_20 : decode cX3_checkNotOver 20 = .ok (.invokespecial 93, 3) := by decide +kernel
theorem dX3_checkNotOver_23 : decode cX3_checkNotOver 23 = .ok (.athrow, 1) := by decide +kernel
theorem dX3_checkNotOver_24 : decode cX3_checkNotOver 24 = .ok (.return_, 1) := by decide +kernel
theorem dX3_placeOf_0 : decode cX3_placeOf 0 = .ok (.iload_n 0, 1) := by decide +kernel
theorem dX3_placeOf_1 : decode cX3_placeOf 1 = .ok (.iconst (-1), 1) := by decide +kernel
theorem dX3_placeOf_2 : decode cX3_placeOf 2 = .ok (.if_icmp .ne 6, 3) := by decide +kernel
theorem dX3_placeOf_5 : decode cX3_placeOf 5 = .ok (.bipush 6, 2) := by decide +kernel
theorem dX3_placeOf_7 : decode cX3_placeOf 7 = .ok (.ireturn, 1) := by decide +kernel
theorem dX3_placeOf_8 : decode cX3_placeOf 8 = .ok (.iload_n 0, 1) := by decide +kernel
theorem dX3_placeOf_9 : decode cX3_placeOf 9 = .ok (.invokestatic 130, 3) := by decide +kernel
theorem dX3_placeOf_12 : decode cX3_placeOf 12 = .ok (.iload_n 0, 1) := by decide +kernel
theorem dX3_placeOf_13 : decode cX3_placeOf 13 = .ok (.ireturn, 1) := by decide +kernel
theorem dX3_contractOf_0 : decode cX3_contractOf 0 = .ok (.iload_n 1, 1) := by decide +kernel
theorem dX3_contractOf_1 : decode cX3_contractOf 1 = .ok (.ifCond .lt 14, 3) := by decide +kernel
theorem dX3_contractOf_4 : decode cX3_contractOf 4 = .ok (.iload_n 1, 1) := by decide +kernel
theorem dX3_contractOf_5 : decode cX3_contractOf 5 = .ok (.aload_n 0, 1) := by decide +kernel
theorem dX3_contractOf_6 : decode cX3_contractOf 6 = .ok (.getfield 26, 3) := by decide +kernel
theorem dX3_contractOf_9 : decode cX3_contractOf 9 = .ok (.invokevirtual 85, 3) := by decide +kernel
theorem dX3_contractOf_12 : decode cX3_contractOf 12 = .ok (.if_icmp .lt 13, 3) := by decide +kernel
theorem dX3_contractOf_15 : decode cX3_contractOf 15 = .ok (.new 237, 3) := by decide +kernel
theorem dX3_contractOf_18 : decode cX3_contractOf 18 = .ok (.dup, 1) := by decide +kernel
theorem dX3_contractOf_19 : decode cX3_contractOf 19 = .ok (.ldc 254, 2) := by decide +kernel
theorem dX3_contractOf_21 : decode cX3_contractOf 21 = .ok (.invokespecial 241, 3) := by decide +kernel
theorem dX3_contractOf_24 : decode cX3_contractOf 24 = .ok (.athrow, 1) := by decide +kernel
theorem dX3_contractOf_25 : decode cX3_contractOf 25 = .ok (.aload_n 0, 1) := by decide +kernel
theorem dX3_contractOf_26 : decode cX3_contractOf 26 = .ok (.getfield 26, 3) := by decide +kernel
theorem dX3_contractOf_29 : decode cX3_contractOf 29 = .ok (.iload_n 1, 1) := by decide +kernel
theorem dX3_contractOf_30 : decode cX3_contractOf 30 = .ok (.invokevirtual 119, 3) := by decide +kernel
theorem dX3_contractOf_33 : decode cX3_contractOf 33 = .ok (.checkcast 96, 3) := by decide +kernel
theorem dX3_contractOf_36 : decode cX3_contractOf 36 = .ok (.areturn, 1) := by decide +kernel
theorem dX3_moneyAt_0 : decode cX3_moneyAt 0 = .ok (.iload_n 1, 1) := by decide +kernel
theorem dX3_moneyAt_1 : decode cX3_moneyAt 1 = .ok (.ifCond .lt 21, 3) := by decide +kernel
theorem dX3_moneyAt_4 : decode cX3_moneyAt 4 = .ok (.iload_n 1, 1) := by decide +kernel
theorem dX3_moneyAt_5 : decode cX3_moneyAt 5 = .ok (.aload_n 0, 1) := by decide +kernel
theorem dX3_moneyAt_6 : decode cX3_moneyAt 6 = .ok (.getfield 30, 3) := by decide +kernel
theorem dX3_moneyAt_9 : decode cX3_moneyAt 9 = .ok (.arraylength, 1) := by decide +kernel
theorem dX3_moneyAt_10 : decode cX3_moneyAt 10 = .ok (.if_icmp .ge 12, 3) := by decide +kernel
theorem dX3_moneyAt_13 : decode cX3_moneyAt 13 = .ok (.aload_n 0, 1) := by decide +kernel
theorem dX3_moneyAt_14 : decode cX3_moneyAt 14 = .ok (.getfield 30, 3) := by decide +kernel
theorem dX3_moneyAt_17 : decode cX3_moneyAt 17 = .ok (.iload_n 1, 1) := by decide +kernel
theorem dX3_moneyAt_18 : decode cX3_moneyAt 18 = .ok (.laload, 1) := by decide +kernel
theorem dX3_moneyAt_19 : decode cX3_moneyAt 19 = .ok (.goto 4, 3) := by decide +kernel
theorem dX3_moneyAt_22 : decode cX3_moneyAt 22 = .ok (.lconst 0, 1) := by decide +kernel
theorem dX3_moneyAt_23 : decode cX3_moneyAt 23 = .ok (.lreturn, 1) := by decide +kernel
theorem dX3_addMoney_0 : decode cX3_addMoney 0 = .ok (.iload_n 1, 1) := by decide +kernel
theorem dX3_addMoney_1 : decode cX3_addMoney 1 = .ok (.ifCond .lt 22, 3) := by decide +kernel
theorem dX3_addMoney_4 : decode cX3_addMoney 4 = .ok (.iload_n 1, 1) := by decide +kernel
theorem dX3_addMoney_5 : decode cX3_addMoney 5 = .ok (.aload_n 0, 1) := by decide +kernel
theorem dX3_addMoney_6 : decode cX3_addMoney 6 = .ok (.getfield 30, 3) := by decide +kernel
theorem dX3_addMoney_9 : decode cX3_addMoney 9 = .ok (.arraylength, 1) := by decide +kernel
theorem dX3_addMoney_10 : decode cX3_addMoney 10 = .ok (.if_icmp .ge 13, 3) := by decide +kernel
theorem dX3_addMoney_13 : decode cX3_addMoney 13 = .ok (.aload_n 0, 1) := by decide +kernel
theorem dX3_addMoney_14 : decode cX3_addMoney 14 = .ok (.getfield 30, 3) := by decide +kernel
theorem dX3_addMoney_17 : decode cX3_addMoney 17 = .ok (.iload_n 1, 1) := by decide +kernel
theorem dX3_addMoney_18 : decode cX3_addMoney 18 = .ok (.dup2, 1) := by decide +kernel
theorem dX3_addMoney_19 : decode cX3_addMoney 19 = .ok (.laload, 1) := by decide +kernel
theorem dX3_addMoney_20 : decode cX3_addMoney 20 = .ok (.lload_n 2, 1) := by decide +kernel
theorem dX3_addMoney_21 : decode cX3_addMoney 21 = .ok (.ladd, 1) := by decide +kernel
theorem dX3_addMoney_22 : decode cX3_addMoney 22 = .ok (.lastore, 1) := by decide +kernel
theorem dX3_addMoney_23 : decode cX3_addMoney 23 = .ok (.return_, 1) := by decide +kernel
theorem dX3_addProfit_0 : decode cX3_addProfit 0 = .ok (.iload_n 1, 1) := by decide +kernel
theorem dX3_addProfit_1 : decode cX3_addProfit 1 = .ok (.ifCond .lt 22, 3) := by decide +kernel
theorem dX3_addProfit_4 : decode cX3_addProfit 4 = .ok (.iload_n 1, 1) := by decide +kernel
theorem dX3_addProfit_5 : decode cX3_addProfit 5 = .ok (.aload_n 0, 1) := by decide +kernel
theorem dX3_addProfit_6 : decode cX3_addProfit 6 = .ok (.getfield 34, 3) := by decide +kernel
theorem dX3_addProfit_9 : decode cX3_addProfit 9 = .ok (.arraylength, 1) := by decide +kernel
theorem dX3_addProfit_10 : decode cX3_addProfit 10 = .ok (.if_icmp .ge 13, 3) := by decide +kernel
theorem dX3_addProfit_13 : decode cX3_addProfit 13 = .ok (.aload_n 0, 1) := by decide +kernel
theorem dX3_addProfit_14 : decode cX3_addProfit 14 = .ok (.getfield 34, 3) := by decide +kernel
theorem dX3_addProfit_17 : decode cX3_addProfit 17 = .ok (.iload_n 1, 1) := by decide +kernel
theorem dX3_addProfit_18 : decode cX3_addProfit 18 = .ok (.dup2, 1) := by decide +kernel
theorem dX3_addProfit_19 : decode cX3_addProfit 19 = .ok (.laload, 1) := by decide +kernel
theorem dX3_addProfit_20 : decode cX3_addProfit 20 = .ok (.lload_n 2, 1) := by decide +kernel
theorem dX3_addProfit_21 : decode cX3_addProfit 21 = .ok (.ladd, 1) := by decide +kernel
theorem dX3_addProfit_22 : decode cX3_addProfit 22 = .ok (.lastore, 1) := by decide +kernel
theorem dX3_addProfit_23 : decode cX3_addProfit 23 = .ok (.return_, 1) := by decide +kernel
theorem dX3_worthNow_0 : decode cX3_worthNow 0 = .ok (.aload_n 0, 1) := by decide +kernel
theorem dX3_worthNow_1 : decode cX3_worthNow 1 = .ok (.aload_n 0, 1) := by decide +kernel
theorem dX3_worthNow_2 : decode cX3_worthNow 2 = .ok (.getfield 12, 3) := by decide +kernel
theorem dX3_worthNow_5 : decode cX3_worthNow 5 = .ok (.getfield 65, 3) := by decide +kernel
theorem dX3_worthNow_8 : decode cX3_worthNow 8 = .ok (.invokevirtual 242, 3) := by decide +kernel
theorem dX3_worthNow_11 : decode cX3_worthNow 11 = .ok (.lreturn, 1) := by decide +kernel
theorem dX3_worthAt_0 : decode cX3_worthAt 0 = .ok (.aload_n 0, 1) := by decide +kernel
theorem dX3_worthAt_1 : decode cX3_worthAt 1 = .ok (.bipush 6, 2) := by decide +kernel
theorem dX3_worthAt_3 : decode cX3_worthAt 3 = .ok (.invokevirtual 233, 3) := by decide +kernel
theorem dX3_worthAt_6 : decode cX3_worthAt 6 = .ok (.ldc2_w 256, 3) := by decide +kernel
theorem dX3_worthAt_9 : decode cX3_worthAt 9 = .ok (.iload_n 1, 1) := by decide +kernel
theorem dX3_worthAt_10 : decode cX3_worthAt 10 = .ok (.i2l, 1) := by decide +kernel
theorem dX3_worthAt_11 : decode cX3_worthAt 11 = .ok (.lmul, 1) := by decide +kernel
theorem dX3_worthAt_12 : decode cX3_worthAt 12 = .ok (.aload_n 0, 1) := by decide +kernel
theorem dX3_worthAt_13 : decode cX3_worthAt 13 = .ok (.getfield 41, 3) := by decide +kernel
theorem dX3_worthAt_16 : decode cX3_worthAt 16 = .ok (.i2l, 1) := by decide +kernel
theorem dX3_worthAt_17 : decode cX3_worthAt 17 = .ok (.lmul, 1) := by decide +kernel
theorem dX3_worthAt_18 : decode cX3_worthAt 18 = .ok (.ladd, 1) := by decide +kernel
theorem dX3_worthAt_19 : decode cX3_worthAt 19 = .ok (.lstore_n 2, 1) := by decide +kernel
theorem dX3_worthAt_20 : decode cX3_worthAt 20 = .ok (.iconst 0, 1) := by decide +kernel
theorem dX3_worthAt_21 : decode cX3_worthAt 21 = .ok (.istore 4, 2) := by decide +kernel
theorem dX3_worthAt_23 : decode cX3_worthAt 23 = .ok (.iload 4, 2) := by decide +kernel
theorem dX3_worthAt_25 : decode cX3_worthAt 25 = .ok (.aload_n 0, 1) := by decide +kernel
theorem dX3_worthAt_26 : decode cX3_worthAt 26 = .ok (.getfield 26, 3) := by decide +kernel
theorem dX3_worthAt_29 : decode cX3_worthAt 29 = .ok (.invokevirtual 85, 3) := by decide +kernel
theorem dX3_worthAt_32 : decode cX3_worthAt 32 = .ok (.if_icmp .ge 55, 3) := by decide +kernel
theorem dX3_worthAt_35 : decode cX3_worthAt 35 = .ok (.aload_n 0, 1) := by decide +kernel
theorem dX3_worthAt_36 : decode cX3_worthAt 36 = .ok (.getfield 26, 3) := by decide +kernel
theorem dX3_worthAt_39 : decode cX3_worthAt 39 = .ok (.iload 4, 2) := by decide +kernel
theorem dX3_worthAt_41 : decode cX3_worthAt 41 = .ok (.invokevirtual 119, 3) := by decide +kernel
theorem dX3_worthAt_44 : decode cX3_worthAt 44 = .ok (.checkcast 96, 3) := by decide +kernel
theorem dX3_worthAt_47 : decode cX3_worthAt 47 = .ok (.astore 5, 2) := by decide +kernel
theorem dX3_worthAt_49 : decode cX3_worthAt 49 = .ok (.aload 5, 2) := by decide +kernel
theorem dX3_worthAt_51 : decode cX3_worthAt 51 = .ok (.bipush 6, 2) := by decide +kernel
theorem dX3_worthAt_53 : decode cX3_worthAt 53 = .ok (.invokevirtual 165, 3) := by decide +kernel
theorem dX3_worthAt_56 : decode cX3_worthAt 56 = .ok (.istore 6, 2) := by decide +kernel
theorem dX3_worthAt_58 : decode cX3_worthAt 58 = .ok (.iload 6, 2) := by decide +kernel
theorem dX3_worthAt_60 : decode cX3_worthAt 60 = .ok (.ifCond .eq 21, 3) := by decide +kernel
theorem dX3_worthAt_63 : decode cX3_worthAt 63 = .ok (.lload_n 2, 1) := by decide +kernel
theorem dX3_worthAt_64 : decode cX3_worthAt 64 = .ok (.iload 6, 2) := by decide +kernel
theorem dX3_worthAt_66 : decode cX3_worthAt 66 = .ok (.i2l, 1) := by decide +kernel
theorem dX3_worthAt_67 : decode cX3_worthAt 67 = .ok (.aload_n 0, 1) := by decide +kernel
theorem dX3_worthAt_68 : decode cX3_worthAt 68 = .ok (.getfield 12, 3) := by decide +kernel
theorem dX3_worthAt_71 : decode cX3_worthAt 71 = .ok (.aload 5, 2) := by decide +kernel
theorem dX3_worthAt_73 : decode cX3_worthAt 73 = .ok (.iload_n 1, 1) := by decide +kernel
theorem dX3_worthAt_74 : decode cX3_worthAt 74 = .ok (.invokevirtual 207, 3) := by decide +kernel
theorem dX3_worthAt_77 : decode cX3_worthAt 77 = .ok (.i2l, 1) := by decide +kernel
theorem dX3_worthAt_78 : decode cX3_worthAt 78 = .ok (.lmul, 1) := by decide +kernel
theorem dX3_worthAt_79 : decode cX3_worthAt 79 = .ok (.ladd, 1) := by decide +kernel
theorem dX3_worthAt_80 : decode cX3_worthAt 80 = .ok (.lstore_n 2, 1) := by decide +kernel
theorem dX3_worthAt_81 : decode cX3_worthAt 81 = .ok (.iinc 4 1, 3) := by decide +kernel
theorem dX3_worthAt_84 : decode cX3_worthAt 84 = .ok (.goto (-61), 3) := by decide +kernel
theorem dX3_worthAt_87 : decode cX3_worthAt 87 = .ok (.lload_n 2, 1) := by decide +kernel
theorem dX3_worthAt_88 : decode cX3_worthAt 88 = .ok (.lreturn, 1) := by decide +kernel
theorem dX3_buy_0 : decode cX3_buy 0 = .ok (.iload 4, 2) := by decide +kernel
theorem dX3_buy_2 : decode cX3_buy 2 = .ok (.aload_n 2, 1) := by decide +kernel
theorem dX3_buy_3 : decode cX3_buy 3 = .ok (.getfield 222, 3) := by decide +kernel
theorem dX3_buy_6 : decode cX3_buy 6 = .ok (.if_icmp .ge 5, 3) := by decide +kernel
theorem dX3_buy_9 : decode cX3_buy 9 = .ok (.iconst 0, 1) := by decide +kernel
theorem dX3_buy_10 : decode cX3_buy 10 = .ok (.ireturn, 1) := by decide +kernel
theorem dX3_buy_11 : decode cX3_buy 11 = .ok (.iconst 0, 1) := by decide +kernel
theorem dX3_buy_12 : decode cX3_buy 12 = .ok (.aload_n 0, 1) := by decide +kernel
theorem dX3_buy_13 : decode cX3_buy 13 = .ok (.getfield 37, 3) := by decide +kernel
theorem dX3_buy_16 : decode cX3_buy 16 = .ok (.aload_n 2, 1) := by decide +kernel
theorem dX3_buy_17 : decode cX3_buy 17 = .ok (.bipush 6, 2) := by decide +kernel
theorem dX3_buy_19 : decode cX3_buy 19 = .ok (.invokevirtual 165, 3) := by decide +kernel
theorem dX3_buy_22 : decode cX3_buy 22 = .ok (.iadd, 1) := by decide +kernel
theorem dX3_buy_23 : decode cX3_buy 23 = .ok (.invokestatic 258, 3) := by decide +kernel
theorem dX3_buy_26 : decode cX3_buy 26 = .ok (.istore 5, 2) := by decide +kernel
theorem dX3_buy_28 : decode cX3_buy 28 = .ok (.iload_n 3, 1) := by decide +kernel
theorem dX3_buy_29 : decode cX3_buy 29 = .ok (.aload_n 2, 1) := by decide +kernel
theorem dX3_buy_30 : decode cX3_buy 30 = .ok (.getfield 228, 3) := by decide +kernel
theorem dX3_buy_33 : decode cX3_buy 33 = .ok (.invokestatic 79, 3) := by decide +kernel
theorem dX3_buy_36 : decode cX3_buy 36 = .ok (.iload 5, 2) := by decide +kernel
theorem dX3_buy_38 : decode cX3_buy 38 = .ok (.invokestatic 79, 3) := by decide +kernel
theorem dX3_buy_41 : decode cX3_buy 41 = .ok (.istore 6, 2) := by decide +kernel
theorem dX3_buy_43 : decode cX3_buy 43 = .ok (.aload_n 0, 1) := by decide +kernel
theorem dX3_buy_44 : decode cX3_buy 44 = .ok (.iload_n 1, 1) := by decide +kernel
theorem dX3_buy_45 : decode cX3_buy 45 = .ok (.aload_n 2, 1) := by decide +kernel
theorem dX3_buy_46 : decode cX3_buy 46 = .ok (.iload 6, 2) := by decide +kernel
theorem dX3_buy_48 : decode cX3_buy 48 = .ok (.aload_n 2, 1) := by decide +kernel
theorem dX3_buy_49 : decode cX3_buy 49 = .ok (.getfield 222, 3) := by decide +kernel
theorem dX3_buy_52 : decode cX3_buy 52 = .ok (.invokevirtual 260, 3) := by decide +kernel
theorem dX3_buy_55 : decode cX3_buy 55 = .ok (.aload_n 2, 1) := by decide +kernel
theorem dX3_buy_56 : decode cX3_buy 56 = .ok (.iconst 0, 1) := by decide +kernel
theorem dX3_buy_57 : decode cX3_buy 57 = .ok (.iload 6, 2) := by decide +kernel
theorem dX3_buy_59 : decode cX3_buy 59 = .ok (.invokevirtual 264, 3) := by decide +kernel
theorem dX3_buy_62 : decode cX3_buy 62 = .ok (.iload 6, 2) := by decide +kernel
theorem dX3_buy_64 : decode cX3_buy 64 = .ok (.ireturn, 1) := by decide +kernel
theorem dX3_sell_0 : decode cX3_sell 0 = .ok (.iload 4, 2) := by decide +kernel
theorem dX3_sell_2 : decode cX3_sell 2 = .ok (.aload_n 2, 1) := by decide +kernel
theorem dX3_sell_3 : decode cX3_sell 3 = .ok (.getfield 219, 3) := by decide +kernel
theorem dX3_sell_6 : decode cX3_sell 6 = .ok (.if_icmp .le 5, 3) := by decide +kernel
theorem dX3_sell_9 : decode cX3_sell 9 = .ok (.iconst 0, 1) := by decide +kernel
theorem dX3_sell_10 : decode cX3_sell 10 = .ok (.ireturn, 1) := by decide +kernel
theorem dX3_sell_11 : decode cX3_sell 11 = .ok (.iconst 0, 1) := by decide +kernel
theorem dX3_sell_12 : decode cX3_sell 12 = .ok (.aload_n 0, 1) := by decide +kernel
theorem dX3_sell_13 : decode cX3_sell 13 = .ok (.getfield 37, 3) := by decide +kernel
theorem dX3_sell_16 : decode cX3_sell 16 = .ok (.aload_n 2, 1) := by decide +kernel
theorem dX3_sell_17 : decode cX3_sell 17 = .ok (.bipush 6, 2) := by decide +kernel
theorem dX3_sell_19 : decode cX3_sell 19 = .ok (.invokevirtual 165, 3) := by decide +kernel
theorem dX3_sell_22 : decode cX3_sell 22 = .ok (.isub, 1) := by decide +kernel
theorem dX3_sell_23 : decode cX3_sell 23 = .ok (.invokestatic 258, 3) := by decide +kernel
theorem dX3_sell_26 : decode cX3_sell 26 = .ok (.istore 5, 2) := by decide +kernel
theorem dX3_sell_28 : decode cX3_sell 28 = .ok (.iload_n 3, 1) := by decide +kernel
theorem dX3_sell_29 : decode cX3_sell 29 = .ok (.aload_n 2, 1) := by decide +kernel
theorem dX3_sell_30 : decode cX3_sell 30 = .ok (.getfield 225, 3) := by decide +kernel
theorem dX3_sell_33 : decode cX3_sell 33 = .ok (.invokestatic 79, 3) := by decide +kernel
theorem dX3_sell_36 : decode cX3_sell 36 = .ok (.iload 5, 2) := by decide +kernel
theorem dX3_sell_38 : decode cX3_sell 38 = .ok (.invokestatic 79, 3) := by decide +kernel
theorem dX3_sell_41 : decode cX3_sell 41 = .ok (.istore 6, 2) := by decide +kernel
theorem dX3_sell_43 : decode cX3_sell 43 = .ok (.aload_n 0, 1) := by decide +kernel
theorem dX3_sell_44 : decode cX3_sell 44 = .ok (.iload_n 1, 1) := by decide +kernel
theorem dX3_sell_45 : decode cX3_sell 45 = .ok (.aload_n 2, 1) := by decide +kernel
theorem dX3_sell_46 : decode cX3_sell 46 = .ok (.iload 6, 2) := by decide +kernel
theorem dX3_sell_48 : decode cX3_sell 48 = .ok (.ineg, 1) := by decide +kernel
theorem dX3_sell_49 : decode cX3_sell 49 = .ok (.aload_n 2, 1) := by decide +kernel
theorem dX3_sell_50 : decode cX3_sell 50 = .ok (.getfield 219, 3) := by decide +kernel
theorem dX3_sell_53 : decode cX3_sell 53 = .ok (.invokevirtual 260, 3) := by decide +kernel
theorem dX3_sell_56 : decode cX3_sell 56 = .ok (.aload_n 2, 1) := by decide +kernel
theorem dX3_sell_57 : decode cX3_sell 57 = .ok (.iload 6, 2) := by decide +kernel
theorem dX3_sell_59 : decode cX3_sell 59 = .ok (.iconst 0, 1) := by decide +kernel
theorem dX3_sell_60 : decode cX3_sell 60 = .ok (.invokevirtual 264, 3) := by decide +kernel
theorem dX3_sell_63 : decode cX3_sell 63 = .ok (.iload 6, 2) := by decide +kernel
theorem dX3_sell_65 : decode cX3_sell 65 = .ok (.ireturn, 1) := by decide +kernel
theorem dX3_deal_0 : decode cX3_deal 0 = .ok (.aload_n 2, 1) := by decide +kernel
theorem dX3_deal_1 : decode cX3_deal 1 = .ok (.iload_n 1, 1) := by decide +kernel
theorem dX3_deal_2 : decode cX3_deal 2 = .ok (.iload_n 3, 1) := by decide +kernel
theorem dX3_deal_3 : decode cX3_deal 3 = .ok (.invokevirtual 267, 3) := by decide +kernel
theorem dX3_deal_6 : decode cX3_deal 6 = .ok (.aload_n 2, 1) := by decide +kernel
theorem dX3_deal_7 : decode cX3_deal 7 = .ok (.bipush 6, 2) := by decide +kernel
theorem dX3_deal_9 : decode cX3_deal 9 = .ok (.iload_n 3, 1) := by decide +kernel
theorem dX3_deal_10 : decode cX3_deal 10 = .ok (.ineg, 1) := by decide +kernel
theorem dX3_deal_11 : decode cX3_deal 11 = .ok (.invokevirtual 267, 3) := by decide +kernel
theorem dX3_deal_14 : decode cX3_deal 14 = .ok (.ldc2_w 256, 3) := by decide +kernel
theorem dX3_deal_17 : decode cX3_deal 17 = .ok (.iload 4, 2) := by decide +kernel
theorem dX3_deal_19 : decode cX3_deal 19 = .ok (.i2l, 1) := by decide +kernel
theorem dX3_deal_20 : decode cX3_deal 20 = .ok (.lmul, 1) := by decide +kernel
theorem dX3_deal_21 : decode cX3_deal 21 = .ok (.iload_n 3, 1) := by decide +kernel
theorem dX3_deal_22 : decode cX3_deal 22 = .ok (.i2l, 1) := by decide +kernel
theorem dX3_deal_23 : decode cX3_deal 23 = .ok (.lmul, 1) := by decide +kernel
theorem dX3_deal_24 : decode cX3_deal 24 = .ok (.lstore 5, 2) := by decide +kernel
theorem dX3_deal_26 : decode cX3_deal 26 = .ok (.aload_n 0, 1) := by decide +kernel
theorem dX3_deal_27 : decode cX3_deal 27 = .ok (.iload_n 1, 1) := by decide +kernel
theorem dX3_deal_28 : decode cX3_deal 28 = .ok (.lload 5, 2) := by decide +kernel
theorem dX3_deal_30 : decode cX3_deal 30 = .ok (.lneg, 1) := by decide +kernel
theorem dX3_deal_31 : decode cX3_deal 31 = .ok (.invokevirtual 150, 3) := by decide +kernel
theorem dX3_deal_34 : decode cX3_deal 34 = .ok (.aload_n 0, 1) := by decide +kernel
theorem dX3_deal_35 : decode cX3_deal 35 = .ok (.bipush 6, 2) := by decide +kernel
theorem dX3_deal_37 : decode cX3_deal 37 = .ok (.lload 5, 2) := by decide +kernel
theorem dX3_deal_39 : decode cX3_deal 39 = .ok (.invokevirtual 150, 3) := by decide +kernel
theorem dX3_deal_42 : decode cX3_deal 42 = .ok (.return_, 1) := by decide +kernel
theorem dX3_exerciseLots_0 : decode cX3_exerciseLots 0 = .ok (.ldc2_w 256, 3) := by decide +kernel
theorem dX3_exerciseLots_3 : decode cX3_exerciseLots 3 = .ok (.aload_n 2, 1) := by decide +kernel
theorem dX3_exerciseLots_4 : decode cX3_exerciseLots 4 = .ok (.aload_n 0, 1) := by decide +kernel
theorem dX3_exerciseLots_5 : decode cX3_exerciseLots 5 = .ok (.getfield 12, 3) := by decide +kernel
theorem dX3_exerciseLots_8 : decode cX3_exerciseLots 8 = .ok (.getfield 65, 3) := by decide +kernel
theorem dX3_exerciseLots_11 : decode cX3_exerciseLots 11 = .ok (.invokevirtual 183, 3) := by decide +kernel
theorem dX3_exerciseLots_14 : decode cX3_exerciseLots 14 = .ok (.i2l, 1) := by decide +kernel
theorem dX3_exerciseLots_15 : decode cX3_exerciseLots 15 = .ok (.lmul, 1) := by decide +kernel
theorem dX3_exerciseLots_16 : decode cX3_exerciseLots 16 = .ok (.lstore 4, 2) := by decide +kernel
theorem dX3_exerciseLots_18 : decode cX3_exerciseLots 18 = .ok (.iconst 0, 1) := by decide +kernel
theorem dX3_exerciseLots_19 : decode cX3_exerciseLots 19 = .ok (.istore 6, 2) := by decide +kernel
theorem dX3_exerciseLots_21 : decode cX3_exerciseLots 21 = .ok (.iload 6, 2) := by decide +kernel
theorem dX3_exerciseLots_23 : decode cX3_exerciseLots 23 = .ok (.iload_n 3, 1) := by decide +kernel
theorem dX3_exerciseLots_24 : decode cX3_exerciseLots 24 = .ok (.if_icmp .ge 55, 3) := by decide +kernel
theorem dX3_exerciseLots_27 : decode cX3_exerciseLots 27 = .ok (.aload_n 2, 1) := by decide +kernel
theorem dX3_exerciseLots_28 : decode cX3_exerciseLots 28 = .ok (.aload_n 0, 1) := by decide +kernel
theorem dX3_exerciseLots_29 : decode cX3_exerciseLots 29 = .ok (.getfield 19, 3) := by decide +kernel
theorem dX3_exerciseLots_32 : decode cX3_exerciseLots 32 = .ok (.aload_n 2, 1) := by decide +kernel
theorem dX3_exerciseLots_33 : decode cX3_exerciseLots 33 = .ok (.invokevirtual 270, 3) := by decide +kernel
theorem dX3_exerciseLots_36 : decode cX3_exerciseLots 36 = .ok (.invokevirtual 273, 3) := by decide +kernel
theorem dX3_exerciseLots_39 : decode cX3_exerciseLots 39 = .ok (.invokevirtual 276, 3) := by decide +kernel
theorem dX3_exerciseLots_42 : decode cX3_exerciseLots 42 = .ok (.istore 7, 2) := by decide +kernel
theorem dX3_exerciseLots_44 : decode cX3_exerciseLots 44 = .ok (.aload_n 2, 1) := by decide +kernel
theorem dX3_exerciseLots_45 : decode cX3_exerciseLots 45 = .ok (.iload_n 1, 1) := by decide +kernel
theorem dX3_exerciseLots_46 : decode cX3_exerciseLots 46 = .ok (.iconst (-1), 1) := by decide +kernel
theorem dX3_exerciseLots_47 : decode cX3_exerciseLots 47 = .ok (.invokevirtual 267, 3) := by decide +kernel
theorem dX3_exerciseLots_50 : decode cX3_exerciseLots 50 = .ok (.aload_n 2, 1) := by decide +kernel
theorem dX3_exerciseLots_51 : decode cX3_exerciseLots 51 = .ok (.iload 7, 2) := by decide +kernel
theorem dX3_exerciseLots_53 : decode cX3_exerciseLots 53 = .ok (.iconst 1, 1) := by decide +kernel
theorem dX3_exerciseLots_54 : decode cX3_exerciseLots 54 = .ok (.invokevirtual 267, 3) := by decide +kernel
theorem dX3_exerciseLots_57 : decode cX3_exerciseLots 57 = .ok (.aload_n 0, 1) := by decide +kernel
theorem dX3_exerciseLots_58 : decode cX3_exerciseLots 58 = .ok (.iload_n 1, 1) := by decide +kernel
theorem dX3_exerciseLots_59 : decode cX3_exerciseLots 59 = .ok (.lload 4, 2) := by decide +kernel
theorem dX3_exerciseLots_61 : decode cX3_exerciseLots 61 = .ok (.invokevirtual 150, 3) := by decide +kernel
theorem dX3_exerciseLots_64 : decode cX3_exerciseLots 64 = .ok (.aload_n 0, 1) := by decide +kernel
theorem dX3_exerciseLots_65 : decode cX3_exerciseLots 65 = .ok (.iload 7, 2) := by decide +kernel
theorem dX3_exerciseLots_67 : decode cX3_exerciseLots 67 = .ok (.lload 4, 2) := by decide +kernel
theorem dX3_exerciseLots_69 : decode cX3_exerciseLots 69 = .ok (.lneg, 1) := by decide +kernel
theorem dX3_exerciseLots_70 : decode cX3_exerciseLots 70 = .ok (.invokevirtual 150, 3) := by decide +kernel
theorem dX3_exerciseLots_73 : decode cX3_exerciseLots 73 = .ok (.iinc 6 1, 3) := by decide +kernel
theorem dX3_exerciseLots_76 : decode cX3_exerciseLots 76 = .ok (.goto (-55), 3) := by decide +kernel
theorem dX3_exerciseLots_79 : decode cX3_exerciseLots 79 = .ok (.return_, 1) := by decide +kernel
theorem dX3_expire_0 : decode cX3_expire 0 = .ok (.aload_n 1, 1) := by decide +kernel
theorem dX3_expire_1 : decode cX3_expire 1 = .ok (.aload_n 0, 1) := by decide +kernel
theorem dX3_expire_2 : decode cX3_expire 2 = .ok (.getfield 12, 3) := by decide +kernel
theorem dX3_expire_5 : decode cX3_expire 5 = .ok (.getfield 65, 3) := by decide +kernel
theorem dX3_expire_8 : decode cX3_expire 8 = .ok (.invokevirtual 183, 3) := by decide +kernel
theorem dX3_expire_11 : decode cX3_expire 11 = .ok (.ifCond .le 36, 3) := by decide +kernel
theorem dX3_expire_14 : decode cX3_expire 14 = .ok (.iconst 0, 1) := by decide +kernel
theorem dX3_expire_15 : decode cX3_expire 15 = .ok (.istore_n 2, 1) := by decide +kernel
theorem dX3_expire_16 : decode cX3_expire 16 = .ok (.iload_n 2, 1) := by decide +kernel
theorem dX3_expire_17 : decode cX3_expire 17 = .ok (.bipush 7, 2) := by decide +kernel
theorem dX3_expire_19 : decode cX3_expire 19 = .ok (.if_icmp .ge 28, 3) := by decide +kernel
theorem dX3_expire_22 : decode cX3_expire 22 = .ok (.aload_n 1, 1) := by decide +kernel
theorem dX3_expire_23 : decode cX3_expire 23 = .ok (.iload_n 2, 1) := by decide +kernel
theorem dX3_expire_24 : decode cX3_expire 24 = .ok (.invokevirtual 279, 3) := by decide +kernel
theorem dX3_expire_27 : decode cX3_expire 27 = .ok (.ifCond .ne 14, 3) := by decide +kernel
theorem dX3_expire_30 : decode cX3_expire 30 = .ok (.aload_n 0, 1) := by decide +kernel
theorem dX3_expire_31 : decode cX3_expire 31 = .ok (.iload_n 2, 1) := by decide +kernel
theorem dX3_expire_32 : decode cX3_expire 32 = .ok (.aload_n 1, 1) := by decide +kernel
theorem dX3_expire_33 : decode cX3_expire 33 = .ok (.aload_n 1, 1) := by decide +kernel
theorem dX3_expire_34 : decode cX3_expire 34 = .ok (.iload_n 2, 1) := by decide +kernel
theorem dX3_expire_35 : decode cX3_expire 35 = .ok (.invokevirtual 165, 3) := by decide +kernel
theorem dX3_expire_38 : decode cX3_expire 38 = .ok (.invokevirtual 179, 3) := by decide +kernel
theorem dX3_expire_41 : decode cX3_expire 41 = .ok (.iinc 2 1, 3) := by decide +kernel
theorem dX3_expire_44 : decode cX3_expire 44 = .ok (.goto (-28), 3) := by decide +kernel
theorem dX3_expire_47 : decode cX3_expire 47 = .ok (.aload_n 1, 1) := by decide +kernel
theorem dX3_expire_48 : decode cX3_expire 48 = .ok (.invokevirtual 283, 3) := by decide +kernel
theorem dX3_expire_51 : decode cX3_expire 51 = .ok (.aload_n 1, 1) := by decide +kernel
theorem dX3_expire_52 : decode cX3_expire 52 = .ok (.invokevirtual 127, 3) := by decide +kernel
theorem dX3_expire_55 : decode cX3_expire 55 = .ok (.return_, 1) := by decide +kernel
theorem dX3_commonDivisor_0 : decode cX3_commonDivisor 0 = .ok (.lload_n 0, 1) := by decide +kernel
theorem dX3_commonDivisor_1 : decode cX3_commonDivisor 1 = .ok (.lstore 4, 2) := by decide +kernel
theorem dX3_commonDivisor_3 : decode cX3_commonDivisor 3 = .ok (.lload_n 2, 1) := by decide +kernel
theorem dX3_commonDivisor_4 : decode cX3_commonDivisor 4 = .ok (.lstore 6, 2) := by decide +kernel
theorem dX3_commonDivisor_6 : decode cX3_commonDivisor 6 = .ok (.iconst 0, 1) := by decide +kernel
theorem dX3_commonDivisor_7 : decode cX3_commonDivisor 7 = .ok (.istore 8, 2) := by decide +kernel
theorem dX3_commonDivisor_9 : decode cX3_commonDivisor 9 = .ok (.iload 8, 2) := by decide +kernel
theorem dX3_commonDivisor_11 : decode cX3_commonDivisor 11 = .ok (.bipush 100, 2) := by decide +kernel
theorem dX3_commonDivisor_13 : decode cX3_commonDivisor 13 = .ok (.if_icmp .ge 31, 3) := by decide +kernel
theorem dX3_commonDivisor_16 : decode cX3_commonDivisor 16 = .ok (.lload 6, 2) := by decide +kernel
theorem dX3_commonDivisor_18 : decode cX3_commonDivisor 18 = .ok (.lconst 0, 1) := by decide +kernel
theorem dX3_commonDivisor_19 : decode cX3_commonDivisor 19 = .ok (.lcmp, 1) := by decide +kernel
theorem dX3_commonDivisor_20 : decode cX3_commonDivisor 20 = .ok (.ifCond .eq 24, 3) := by decide +kernel
theorem dX3_commonDivisor_23 : decode cX3_commonDivisor 23 = .ok (.lload 4, 2) := by decide +kernel
theorem dX3_commonDivisor_25 : decode cX3_commonDivisor 25 = .ok (.lload 6, 2) := by decide +kernel
theorem dX3_commonDivisor_27 : decode cX3_commonDivisor 27 = .ok (.lrem, 1) := by decide +kernel
theorem dX3_commonDivisor_28 : decode cX3_commonDivisor 28 = .ok (.lstore 9, 2) := by decide +kernel
theorem dX3_commonDivisor_30 : decode cX3_commonDivisor 30 = .ok (.lload 6, 2) := by decide +kernel
theorem dX3_commonDivisor_32 : decode cX3_commonDivisor 32 = .ok (.lstore 4, 2) := by decide +kernel
theorem dX3_commonDivisor_34 : decode cX3_commonDivisor 34 = .ok (.lload 9, 2) := by decide +kernel
theorem dX3_commonDivisor_36 : decode cX3_commonDivisor 36 = .ok (.lstore 6, 2) := by decide +kernel
theorem dX3_commonDivisor_38 : decode cX3_commonDivisor 38 = .ok (.iinc 8 1, 3) := by decide +kernel
theorem dX3_commonDivisor_41 : decode cX3_commonDivisor 41 = .ok (.goto (-32), 3) := by decide +kernel
theorem dX3_commonDivisor_44 : decode cX3_commonDivisor 44 = .ok (.lload 4, 2) := by decide +kernel
theorem dX3_commonDivisor_46 : decode cX3_commonDivisor 46 = .ok (.lreturn, 1) := by decide +kernel
theorem dX3_thousandTimes_0 : decode cX3_thousandTimes 0 = .ok (.lload_n 2, 1) := by decide +kernel
theorem dX3_thousandTimes_1 : decode cX3_thousandTimes 1 = .ok (.lconst 0, 1) := by decide +kernel
theorem dX3_thousandTimes_2 : decode cX3_thousandTimes 2 = .ok (.lcmp, 1) := by decide +kernel
theorem dX3_thousandTimes_3 : decode cX3_thousandTimes 3 = .ok (.ifCond .gt 5, 3) := by decide +kernel
theorem dX3_thousandTimes_6 : decode cX3_thousandTimes 6 = .ok (.iconst 0, 1) := by decide +kernel
theorem dX3_thousandTimes_7 : decode cX3_thousandTimes 7 = .ok (.ireturn, 1) := by decide +kernel
theorem dX3_thousandTimes_8 : decode cX3_thousandTimes 8 = .ok (.lload_n 0, 1) := by decide +kernel
theorem dX3_thousandTimes_9 : decode cX3_thousandTimes 9 = .ok (.lload_n 2, 1) := by decide +kernel
theorem dX3_thousandTimes_10 : decode cX3_thousandTimes 10 = .ok (.ldiv, 1) := by decide +kernel
theorem dX3_thousandTimes_11 : decode cX3_thousandTimes 11 = .ok (.ldc2_w 256, 3) := by decide +kernel
theorem dX3_thousandTimes_14 : decode cX3_thousandTimes 14 = .ok (.lmul, 1) := by decide +kernel
theorem dX3_thousandTimes_15 : decode cX3_thousandTimes 15 = .ok (.lload_n 0, 1) := by decide +kernel
theorem dX3_thousandTimes_16 : decode cX3_thousandTimes 16 = .ok (.lload_n 2, 1) := by decide +kernel
theorem dX3_thousandTimes_17 : decode cX3_thousandTimes 17 = .ok (.lrem, 1) := by decide +kernel
theorem dX3_thousandTimes_18 : decode cX3_thousandTimes 18 = .ok (.ldc2_w 256, 3) := by decide +kernel
theorem dX3_thousandTimes_21 : decode cX3_thousandTimes 21 = .ok (.lmul, 1) := by decide +kernel
theorem dX3_thousandTimes_22 : decode cX3_thousandTimes 22 = .ok (.lload_n 2, 1) := by decide +kernel
theorem dX3_thousandTimes_23 : decode cX3_thousandTimes 23 = .ok (.ldiv, 1) := by decide +kernel
theorem dX3_thousandTimes_24 : decode cX3_thousandTimes 24 = .ok (.ladd, 1) := by decide +kernel
theorem dX3_thousandTimes_25 : decode cX3_thousandTimes 25 = .ok (.l2i, 1) := by decide +kernel
theorem dX3_thousandTimes_26 : decode cX3_thousandTimes 26 = .ok (.ireturn, 1) := by decide +kernel
theorem dX3_power_0 : decode cX3_power 0 = .ok (.lconst 1, 1) := by decide +kernel
theorem dX3_power_1 : decode cX3_power 1 = .ok (.lstore_n 3, 1) := by decide +kernel
theorem dX3_power_2 : decode cX3_power 2 = .ok (.iconst 0, 1) := by decide +kernel
theorem dX3_power_3 : decode cX3_power 3 = .ok (.istore 5, 2) := by decide +kernel
theorem dX3_power_5 : decode cX3_power 5 = .ok (.iload 5, 2) := by decide +kernel
theorem dX3_power_7 : decode cX3_power 7 = .ok (.iload_n 2, 1) := by decide +kernel
theorem dX3_power_8 : decode cX3_power 8 = .ok (.if_icmp .ge 13, 3) := by decide +kernel
theorem dX3_power_11 : decode cX3_power 11 = .ok (.lload_n 3, 1) := by decide +kernel
theorem dX3_power_12 : decode cX3_power 12 = .ok (.lload_n 0, 1) := by decide +kernel
theorem dX3_power_13 : decode cX3_power 13 = .ok (.lmul, 1) := by decide +kernel
theorem dX3_power_14 : decode cX3_power 14 = .ok (.lstore_n 3, 1) := by decide +kernel
theorem dX3_power_15 : decode cX3_power 15 = .ok (.iinc 5 1, 3) := by decide +kernel
theorem dX3_power_18 : decode cX3_power 18 = .ok (.goto (-13), 3) := by decide +kernel
theorem dX3_power_21 : decode cX3_power 21 = .ok (.lload_n 3, 1) := by decide +kernel
theorem dX3_power_22 : decode cX3_power 22 = .ok (.lreturn, 1) := by decide +kernel
theorem dX3_numberByWays_0 : decode cX3_numberByWays 0 = .ok (.iload_n 3, 1) := by decide +kernel
theorem dX3_numberByWays_1 : decode cX3_numberByWays 1 = .ok (.ifCond .lt 9, 3) := by decide +kernel
theorem dX3_numberByWays_4 : decode cX3_numberByWays 4 = .ok (.iload_n 3, 1) := by decide +kernel
theorem dX3_numberByWays_5 : decode cX3_numberByWays 5 = .ok (.bipush 10, 2) := by decide +kernel
theorem dX3_numberByWays_7 : decode cX3_numberByWays 7 = .ok (.if_icmp .le 5, 3) := by decide +kernel
theorem dX3_numberByWays_10 : decode cX3_numberByWays 10 = .ok (.lconst 0, 1) := by decide +kernel
theorem dX3_numberByWays_11 : decode cX3_numberByWays 11 = .ok (.lreturn, 1) := by decide +kernel
theorem dX3_numberByWays_12 : decode cX3_numberByWays 12 = .ok (.aload_n 1, 1) := by decide +kernel
theorem dX3_numberByWays_13 : decode cX3_numberByWays 13 = .ok (.iload_n 2, 1) := by decide +kernel
theorem dX3_numberByWays_14 : decode cX3_numberByWays 14 = .ok (.invokevirtual 183, 3) := by decide +kernel
theorem dX3_numberByWays_17 : decode cX3_numberByWays 17 = .ok (.istore 4, 2) := by decide +kernel
theorem dX3_numberByWays_19 : decode cX3_numberByWays 19 = .ok (.iload_n 3, 1) := by decide +kernel
theorem dX3_numberByWays_20 : decode cX3_numberByWays 20 = .ok (.ifCond .ne 7, 3) := by decide +kernel
theorem dX3_numberByWays_23 : decode cX3_numberByWays 23 = .ok (.iload 4, 2) := by decide +kernel
theorem dX3_numberByWays_25 : decode cX3_numberByWays 25 = .ok (.i2l, 1) := by decide +kernel
theorem dX3_numberByWays_26 : decode cX3_numberByWays 26 = .ok (.lreturn, 1) := by decide +kernel
theorem dX3_numberByWays_27 : decode cX3_numberByWays 27 = .ok (.iload_n 2, 1) := by decide +kernel
theorem dX3_numberByWays_28 : decode cX3_numberByWays 28 = .ok (.aload_n 0, 1) := by decide +kernel
theorem dX3_numberByWays_29 : decode cX3_numberByWays 29 = .ok (.aload_n 1, 1) := by decide +kernel
theorem dX3_numberByWays_30 : decode cX3_numberByWays 30 = .ok (.getfield 174, 3) := by decide +kernel
theorem dX3_numberByWays_33 : decode cX3_numberByWays 33 = .ok (.iload_n 3, 1) := by decide +kernel
theorem dX3_numberByWays_34 : decode cX3_numberByWays 34 = .ok (.isub, 1) := by decide +kernel
theorem dX3_numberByWays_35 : decode cX3_numberByWays 35 = .ok (.iconst 1, 1) := by decide +kernel
theorem dX3_numberByWays_36 : decode cX3_numberByWays 36 = .ok (.iadd, 1) := by decide +kernel
theorem dX3_numberByWays_37 : decode cX3_numberByWays 37 = .ok (.invokevirtual 71, 3) := by decide +kernel
theorem dX3_numberByWays_40 : decode cX3_numberByWays 40 = .ok (.isub, 1) := by decide +kernel
theorem dX3_numberByWays_41 : decode cX3_numberByWays 41 = .ok (.istore 5, 2) := by decide +kernel
theorem dX3_numberByWays_43 : decode cX3_numberByWays 43 = .ok (.aload_n 0, 1) := by decide +kernel
theorem dX3_numberByWays_44 : decode cX3_numberByWays 44 = .ok (.getfield 58, 3) := by decide +kernel
theorem dX3_numberByWays_47 : decode cX3_numberByWays 47 = .ok (.i2l, 1) := by decide +kernel
theorem dX3_numberByWays_48 : decode cX3_numberByWays 48 = .ok (.aload_n 0, 1) := by decide +kernel
theorem dX3_numberByWays_49 : decode cX3_numberByWays 49 = .ok (.aload_n 1, 1) := by decide +kernel
theorem dX3_numberByWays_50 : decode cX3_numberByWays 50 = .ok (.iload 5, 2) := by decide +kernel
theorem dX3_numberByWays_52 : decode cX3_numberByWays 52 = .ok (.bipush 10, 2) := by decide +kernel
theorem dX3_numberByWays_54 : decode cX3_numberByWays 54 = .ok (.aload_n 0, 1) := by decide +kernel
theorem dX3_numberByWays_55 : decode cX3_numberByWays 55 = .ok (.getfield 55, 3) := by decide +kernel
theorem dX3_numberByWays_58 : decode cX3_numberByWays 58 = .ok (.imul, 1) := by decide +kernel
theorem dX3_numberByWays_59 : decode cX3_numberByWays 59 = .ok (.iadd, 1) := by decide +kernel
theorem dX3_numberByWays_60 : decode cX3_numberByWays 60 = .ok (.iload_n 3, 1) := by decide +kernel
theorem dX3_numberByWays_61 : decode cX3_numberByWays 61 = .ok (.iconst 1, 1) := by decide +kernel
theorem dX3_numberByWays_62 : decode cX3_numberByWays 62 = .ok (.isub, 1) := by decide +kernel
theorem dX3_numberByWays_63 : decode cX3_numberByWays 63 = .ok (.invokestatic 211, 3) := by decide +kernel
theorem dX3_numberByWays_66 : decode cX3_numberByWays 66 = .ok (.lmul, 1) := by decide +kernel
theorem dX3_numberByWays_67 : decode cX3_numberByWays 67 = .ok (.aload_n 0, 1) := by decide +kernel
theorem dX3_numberByWays_68 : decode cX3_numberByWays 68 = .ok (.getfield 55, 3) := by decide +kernel
theorem dX3_numberByWays_71 : decode cX3_numberByWays 71 = .ok (.i2l, 1) := by decide +kernel
theorem dX3_numberByWays_72 : decode cX3_numberByWays 72 = .ok (.aload_n 0, 1) := by decide +kernel
theorem dX3_numberByWays_73 : decode cX3_numberByWays 73 = .ok (.aload_n 1, 1) := by decide +kernel
theorem dX3_numberByWays_74 : decode cX3_numberByWays 74 = .ok (.iload 5, 2) := by decide +kernel
theorem dX3_numberByWays_76 : decode cX3_numberByWays 76 = .ok (.bipush 10, 2) := by decide +kernel
theorem dX3_numberByWays_78 : decode cX3_numberByWays 78 = .ok (.aload_n 0, 1) := by decide +kernel
theorem dX3_numberByWays_79 : decode cX3_numberByWays 79 = .ok (.getfield 58, 3) := by decide +kernel
theorem dX3_numberByWays_82 : decode cX3_numberByWays 82 = .ok (.imul, 1) := by decide +kernel
theorem dX3_numberByWays_83 : decode cX3_numberByWays 83 = .ok (.isub, 1) := by decide +kernel
theorem dX3_numberByWays_84 : decode cX3_numberByWays 84 = .ok (.iload_n 3, 1) := by decide +kernel
theorem dX3_numberByWays_85 : decode cX3_numberByWays 85 = .ok (.iconst 1, 1) := by decide +kernel
theorem dX3_numberByWays_86 : decode cX3_numberByWays 86 = .ok (.isub, 1) := by decide +kernel
theorem dX3_numberByWays_87 : decode cX3_numberByWays 87 = .ok (.invokestatic 211, 3) := by decide +kernel
theorem dX3_numberByWays_90 : decode cX3_numberByWays 90 = .ok (.lmul, 1) := by decide +kernel
theorem dX3_numberByWays_91 : decode cX3_numberByWays 91 = .ok (.ladd, 1) := by decide +kernel
theorem dX3_numberByWays_92 : decode cX3_numberByWays 92 = .ok (.lstore 6, 2) := by decide +kernel
theorem dX3_numberByWays_94 : decode cX3_numberByWays 94 = .ok (.aload_n 1, 1) := by decide +kernel
theorem dX3_numberByWays_95 : decode cX3_numberByWays 95 = .ok (.getfield 170, 3) := by decide +kernel
theorem dX3_numberByWays_98 : decode cX3_numberByWays 98 = .ok (.ifCond .ne 6, 3) := by decide +kernel
theorem dX3_numberByWays_101 : decode cX3_numberByWays 101 = .ok (.lload 6, 2) := by decide +kernel
theorem dX3_numberByWays_103 : decode cX3_numberByWays 103 = .ok (.lreturn, 1) := by decide +kernel
theorem dX3_numberByWays_104 : decode cX3_numberByWays 104 = .ok (.lload 6, 2) := by decide +kernel
theorem dX3_numberByWays_106 : decode cX3_numberByWays 106 = .ok (.iload 4, 2) := by decide +kernel
theorem dX3_numberByWays_108 : decode cX3_numberByWays 108 = .ok (.i2l, 1) := by decide +kernel
theorem dX3_numberByWays_109 : decode cX3_numberByWays 109 = .ok (.aload_n 0, 1) := by decide +kernel
theorem dX3_numberByWays_110 : decode cX3_numberByWays 110 = .ok (.getfield 55, 3) := by decide +kernel
theorem dX3_numberByWays_113 : decode cX3_numberByWays 113 = .ok (.aload_n 0, 1) := by decide +kernel
theorem dX3_numberByWays_114 : decode cX3_numberByWays 114 = .ok (.getfield 58, 3) := by decide +kernel
theorem dX3_numberByWays_117 : decode cX3_numberByWays 117 = .ok (.iadd, 1) := by decide +kernel
theorem dX3_numberByWays_118 : decode cX3_numberByWays 118 = .ok (.i2l, 1) := by decide +kernel
theorem dX3_numberByWays_119 : decode cX3_numberByWays 119 = .ok (.iload_n 3, 1) := by decide +kernel
theorem dX3_numberByWays_120 : decode cX3_numberByWays 120 = .ok (.invokestatic 286, 3) := by decide +kernel
theorem dX3_numberByWays_123 : decode cX3_numberByWays 123 = .ok (.lmul, 1) := by decide +kernel
theorem dX3_numberByWays_124 : decode cX3_numberByWays 124 = .ok (.invokestatic 245, 3) := by decide +kernel
theorem dX3_numberByWays_127 : decode cX3_numberByWays 127 = .ok (.lreturn, 1) := by decide +kernel
theorem dX3_firstFault_0 : decode cX3_firstFault 0 = .ok (.aload_n 0, 1) := by decide +kernel
theorem dX3_firstFault_1 : decode cX3_firstFault 1 = .ok (.invokevirtual 290, 3) := by decide +kernel
theorem dX3_firstFault_4 : decode cX3_firstFault 4 = .ok (.ifCond .eq 5, 3) := by decide +kernel
theorem dX3_firstFault_7 : decode cX3_firstFault 7 = .ok (.iconst 1, 1) := by decide +kernel
theorem dX3_firstFault_8 : decode cX3_firstFault 8 = .ok (.ireturn, 1) := by decide +kernel
theorem dX3_firstFault_9 : decode cX3_firstFault 9 = .ok (.aload_n 0, 1) := by decide +kernel
theorem dX3_firstFault_10 : decode cX3_firstFault 10 = .ok (.invokevirtual 293, 3) := by decide +kernel
theorem dX3_firstFault_13 : decode cX3_firstFault 13 = .ok (.ifCond .eq 5, 3) := by decide +kernel
theorem dX3_firstFault_16 : decode cX3_firstFault 16 = .ok (.iconst 2, 1) := by decide +kernel
theorem dX3_firstFault_17 : decode cX3_firstFault 17 = .ok (.ireturn, 1) := by decide +kernel
theorem dX3_firstFault_18 : decode cX3_firstFault 18 = .ok (.aload_n 0, 1) := by decide +kernel
theorem dX3_firstFault_19 : decode cX3_firstFault 19 = .ok (.invokevirtual 296, 3) := by decide +kernel
theorem dX3_firstFault_22 : decode cX3_firstFault 22 = .ok (.ifCond .eq 5, 3) := by decide +kernel
theorem dX3_firstFault_25 : decode cX3_firstFault 25 = .ok (.iconst 3, 1) := by decide +kernel
theorem dX3_firstFault_26 : decode cX3_firstFault 26 = .ok (.ireturn, 1) := by decide +kernel
theorem dX3_firstFault_27 : decode cX3_firstFault 27 = .ok (.aload_n 0, 1) := by decide +kernel
theorem dX3_firstFault_28 : decode cX3_firstFault 28 = .ok (.invokevirtual 299, 3) := by decide +kernel
theorem dX3_firstFault_31 : decode cX3_firstFault 31 = .ok (.ifCond .eq 7, 3) := by decide +kernel
theorem dX3_firstFault_34 : decode cX3_firstFault 34 = .ok (.iconst 4, 1) := by decide +kernel
theorem dX3_firstFault_35 : decode cX3_firstFault 35 = .ok (.goto 4, 3) := by decide +kernel
theorem dX3_firstFault_38 : decode cX3_firstFault 38 = .ok (.iconst 0, 1) := by decide +kernel
theorem dX3_firstFault_39 : decode cX3_firstFault 39 = .ok (.ireturn, 1) := by decide +kernel
theorem dX3_hasCrossedQuote_0 : decode cX3_hasCrossedQuote 0 = .ok (.iconst 0, 1) := by decide +kernel
theorem dX3_hasCrossedQuote_1 : decode cX3_hasCrossedQuote 1 = .ok (.istore_n 1, 1) := by decide +kernel
theorem dX3_hasCrossedQuote_2 : decode cX3_hasCrossedQuote 2 = .ok (.iload_n 1, 1) := by decide +kernel
theorem dX3_hasCrossedQuote_3 : decode cX3_hasCrossedQuote 3 = .ok (.aload_n 0, 1) := by decide +kernel
theorem dX3_hasCrossedQuote_4 : decode cX3_hasCrossedQuote 4 = .ok (.getfield 26, 3) := by decide +kernel
theorem dX3_hasCrossedQuote_7 : decode cX3_hasCrossedQuote 7 = .ok (.invokevirtual 85, 3) := by decide +kernel
theorem dX3_hasCrossedQuote_10 : decode cX3_hasCrossedQuote 10 = .ok (.if_icmp .ge 41, 3) := by decide +kernel
theorem dX3_hasCrossedQuote_13 : decode cX3_hasCrossedQuote 13 = .ok (.aload_n 0, 1) := by decide +kernel
theorem dX3_hasCrossedQuote_14 : decode cX3_hasCrossedQuote 14 = .ok (.getfield 26, 3) := by decide +kernel
theorem dX3_hasCrossedQuote_17 : decode cX3_hasCrossedQuote 17 = .ok (.iload_n 1, 1) := by decide +kernel
theorem dX3_hasCrossedQuote_18 : decode cX3_hasCrossedQuote 18 = .ok (.invokevirtual 119, 3) := by decide +kernel
theorem dX3_hasCrossedQuote_21 : decode cX3_hasCrossedQuote 21 = .ok (.checkcast 96, 3) := by decide +kernel
theorem dX3_hasCrossedQuote_24 : decode cX3_hasCrossedQuote 24 = .ok (.astore_n 2, 1) := by decide +kernel
theorem dX3_hasCrossedQuote_25 : decode cX3_hasCrossedQuote 25 = .ok (.aload_n 2, 1) := by decide +kernel
theorem dX3_hasCrossedQuote_26 : decode cX3_hasCrossedQuote 26 = .ok (.invokevirtual 302, 3) := by decide +kernel
theorem dX3_hasCrossedQuote_29 : decode cX3_hasCrossedQuote 29 = .ok (.ifCond .eq 16, 3) := by decide +kernel
theorem dX3_hasCrossedQuote_32 : decode cX3_hasCrossedQuote 32 = .ok (.aload_n 2, 1) := by decide +kernel
theorem dX3_hasCrossedQuote_33 : decode cX3_hasCrossedQuote 33 = .ok (.getfield 219, 3) := by decide +kernel
theorem dX3_hasCrossedQuote_36 : decode cX3_hasCrossedQuote 36 = .ok (.aload_n 2, 1) := by decide +kernel
theorem dX3_hasCrossedQuote_37 : decode cX3_hasCrossedQuote 37 = .ok (.getfield 222, 3) := by decide +kernel
theorem dX3_hasCrossedQuote_40 : decode cX3_hasCrossedQuote 40 = .ok (.if_icmp .lt 5, 3) := by decide +kernel
theorem dX3_hasCrossedQuote_43 : decode cX3_hasCrossedQuote 43 = .ok (.iconst 1, 1) := by decide +kernel
theorem dX3_hasCrossedQuote_44 : decode cX3_hasCrossedQuote 44 = .ok (.ireturn, 1) := by decide +kernel
theorem dX3_hasCrossedQuote_45 : decode cX3_hasCrossedQuote 45 = .ok (.iinc 1 1, 3) := by decide +kernel
theorem dX3_hasCrossedQuote_48 : decode cX3_hasCrossedQuote 48 = .ok (.goto (-46), 3) := by decide +kernel
theorem dX3_hasCrossedQuote_51 : decode cX3_hasCrossedQuote 51 = .ok (.iconst 0, 1) := by decide +kernel
theorem dX3_hasCrossedQuote_52 : decode cX3_hasCrossedQuote 52 = .ok (.ireturn, 1) := by decide +kernel
theorem dX3_hasStrikesFault_0 : decode cX3_hasStrikesFault 0 = .ok (.iconst 0, 1) := by decide +kernel
theorem dX3_hasStrikesFault_1 : decode cX3_hasStrikesFault 1 = .ok (.istore_n 1, 1) := by decide +kernel
theorem dX3_hasStrikesFault_2 : decode cX3_hasStrikesFault 2 = .ok (.iload_n 1, 1) := by decide +kernel
theorem dX3_hasStrikesFault_3 : decode cX3_hasStrikesFault 3 = .ok (.aload_n 0, 1) := by decide +kernel
theorem dX3_hasStrikesFault_4 : decode cX3_hasStrikesFault 4 = .ok (.getfield 26, 3) := by decide +kernel
theorem dX3_hasStrikesFault_7 : decode cX3_hasStrikesFault 7 = .ok (.invokevirtual 85, 3) := by decide +kernel
theorem dX3_hasStrikesFault_10 : decode cX3_hasStrikesFault 10 = .ok (.if_icmp .ge 58, 3) := by decide +kernel
theorem dX3_hasStrikesFault_13 : decode cX3_hasStrikesFault 13 = .ok (.iconst 0, 1) := by decide +kernel
theorem dX3_hasStrikesFault_14 : decode cX3_hasStrikesFault 14 = .ok (.istore_n 2, 1) := by decide +kernel
theorem dX3_hasStrikesFault_15 : decode cX3_hasStrikesFault 15 = .ok (.iload_n 2, 1) := by decide +kernel
theorem dX3_hasStrikesFault_16 : decode cX3_hasStrikesFault 16 = .ok (.aload_n 0, 1) := by decide +kernel
theorem dX3_hasStrikesFault_17 : decode cX3_hasStrikesFault 17 = .ok (.getfield 26, 3) := by decide +kernel
theorem dX3_hasStrikesFault_20 : decode cX3_hasStrikesFault 20 = .ok (.invokevirtual 85, 3) := by decide +kernel
theorem dX3_hasStrikesFault_23 : decode cX3_hasStrikesFault 23 = .ok (.if_icmp .ge 39, 3) := by decide +kernel
theorem dX3_hasStrikesFault_26 : decode cX3_hasStrikesFault 26 = .ok (.aload_n 0, 1) := by decide +kernel
theorem dX3_hasStrikesFault_27 : decode cX3_hasStrikesFault 27 = .ok (.getfield 26, 3) := by decide +kernel
theorem dX3_hasStrikesFault_30 : decode cX3_hasStrikesFault 30 = .ok (.iload_n 1, 1) := by decide +kernel
theorem dX3_hasStrikesFault_31 : decode cX3_hasStrikesFault 31 = .ok (.invokevirtual 119, 3) := by decide +kernel
theorem dX3_hasStrikesFault_34 : decode cX3_hasStrikesFault 34 = .ok (.checkcast 96, 3) := by decide +kernel
theorem dX3_hasStrikesFault_37 : decode cX3_hasStrikesFault 37 = .ok (.aload_n 0, 1) := by decide +kernel
theorem dX3_hasStrikesFault_38 : decode cX3_hasStrikesFault 38 = .ok (.getfield 26, 3) := by decide +kernel
theorem dX3_hasStrikesFault_41 : decode cX3_hasStrikesFault 41 = .ok (.iload_n 2, 1) := by decide +kernel
theorem dX3_hasStrikesFault_42 : decode cX3_hasStrikesFault 42 = .ok (.invokevirtual 119, 3) := by decide +kernel
theorem dX3_hasStrikesFault_45 : decode cX3_hasStrikesFault 45 = .ok (.checkcast 96, 3) := by decide +kernel
theorem dX3_hasStrikesFault_48 : decode cX3_hasStrikesFault 48 = .ok (.invokestatic 305, 3) := by decide +kernel
theorem dX3_hasStrikesFault_51 : decode cX3_hasStrikesFault 51 = .ok (.ifCond .eq 5, 3) := by decide +kernel
theorem dX3_hasStrikesFault_54 : decode cX3_hasStrikesFault 54 = .ok (.iconst 1, 1) := by decide +kernel
theorem dX3_hasStrikesFault_55 : decode cX3_hasStrikesFault 55 = .ok (.ireturn, 1) := by decide +kernel
theorem dX3_hasStrikesFault_56 : decode cX3_hasStrikesFault 56 = .ok (.iinc 2 1, 3) := by decide +kernel
theorem dX3_hasStrikesFault_59 : decode cX3_hasStrikesFault 59 = .ok (.goto (-44), 3) := by decide +kernel
theorem dX3_hasStrikesFault_62 : decode cX3_hasStrikesFault 62 = .ok (.iinc 1 1, 3) := by decide +kernel
theorem dX3_hasStrikesFault_65 : decode cX3_hasStrikesFault 65 = .ok (.goto (-63), 3) := by decide +kernel
theorem dX3_hasStrikesFault_68 : decode cX3_hasStrikesFault 68 = .ok (.iconst 0, 1) := by decide +kernel
theorem dX3_hasStrikesFault_69 : decode cX3_hasStrikesFault 69 = .ok (.ireturn, 1) := by decide +kernel
theorem dX3_hasMiddleFault_0 : decode cX3_hasMiddleFault 0 = .ok (.iconst 0, 1) := by decide +kernel
theorem dX3_hasMiddleFault_1 : decode cX3_hasMiddleFault 1 = .ok (.istore_n 1, 1) := by decide +kernel
theorem dX3_hasMiddleFault_2 : decode cX3_hasMiddleFault 2 = .ok (.iload_n 1, 1) := by decide +kernel
theorem dX3_hasMiddleFault_3 : decode cX3_hasMiddleFault 3 = .ok (.aload_n 0, 1) := by decide +kernel
theorem dX3_hasMiddleFault_4 : decode cX3_hasMiddleFault 4 = .ok (.getfield 26, 3) := by decide +kernel
theorem dX3_hasMiddleFault_7 : decode cX3_hasMiddleFault 7 = .ok (.invokevirtual 85, 3) := by decide +kernel
theorem dX3_hasMiddleFault_10 : decode cX3_hasMiddleFault 10 = .ok (.if_icmp .ge 87, 3) := by decide +kernel
theorem dX3_hasMiddleFault_13 : decode cX3_hasMiddleFault 13 = .ok (.iconst 0, 1) := by decide +kernel
theorem dX3_hasMiddleFault_14 : decode cX3_hasMiddleFault 14 = .ok (.istore_n 2, 1) := by decide +kernel
theorem dX3_hasMiddleFault_15 : decode cX3_hasMiddleFault 15 = .ok (.iload_n 2, 1) := by decide +kernel
theorem dX3_hasMiddleFault_16 : decode cX3_hasMiddleFault 16 = .ok (.aload_n 0, 1) := by decide +kernel
theorem dX3_hasMiddleFault_17 : decode cX3_hasMiddleFault 17 = .ok (.getfield 26, 3) := by decide +kernel
theorem dX3_hasMiddleFault_20 : decode cX3_hasMiddleFault 20 = .ok (.invokevirtual 85, 3) := by decide +kernel
theorem dX3_hasMiddleFault_23 : decode cX3_hasMiddleFault 23 = .ok (.if_icmp .ge 68, 3) := by decide +kernel
theorem dX3_hasMiddleFault_26 : decode cX3_hasMiddleFault 26 = .ok (.aload_n 0, 1) := by decide +kernel
theorem dX3_hasMiddleFault_27 : decode cX3_hasMiddleFault 27 = .ok (.getfield 26, 3) := by decide +kernel
theorem dX3_hasMiddleFault_30 : decode cX3_hasMiddleFault 30 = .ok (.iload_n 1, 1) := by decide +kernel
theorem dX3_hasMiddleFault_31 : decode cX3_hasMiddleFault 31 = .ok (.invokevirtual 119, 3) := by decide +kernel
theorem dX3_hasMiddleFault_34 : decode cX3_hasMiddleFault 34 = .ok (.checkcast 96, 3) := by decide +kernel
theorem dX3_hasMiddleFault_37 : decode cX3_hasMiddleFault 37 = .ok (.aload_n 0, 1) := by decide +kernel
theorem dX3_hasMiddleFault_38 : decode cX3_hasMiddleFault 38 = .ok (.getfield 26, 3) := by decide +kernel
theorem dX3_hasMiddleFault_41 : decode cX3_hasMiddleFault 41 = .ok (.iload_n 2, 1) := by decide +kernel
theorem dX3_hasMiddleFault_42 : decode cX3_hasMiddleFault 42 = .ok (.invokevirtual 119, 3) := by decide +kernel
theorem dX3_hasMiddleFault_45 : decode cX3_hasMiddleFault 45 = .ok (.checkcast 96, 3) := by decide +kernel
theorem dX3_hasMiddleFault_48 : decode cX3_hasMiddleFault 48 = .ok (.invokestatic 309, 3) := by decide +kernel
theorem dX3_hasMiddleFault_51 : decode cX3_hasMiddleFault 51 = .ok (.ifCond .eq 34, 3) := by decide +kernel
theorem dX3_hasMiddleFault_54 : decode cX3_hasMiddleFault 54 = .ok (.aload_n 0, 1) := by decide +kernel
theorem dX3_hasMiddleFault_55 : decode cX3_hasMiddleFault 55 = .ok (.aload_n 0, 1) := by decide +kernel
theorem dX3_hasMiddleFault_56 : decode cX3_hasMiddleFault 56 = .ok (.getfield 26, 3) := by decide +kernel
theorem dX3_hasMiddleFault_59 : decode cX3_hasMiddleFault 59 = .ok (.iload_n 1, 1) := by decide +kernel
theorem dX3_hasMiddleFault_60 : decode cX3_hasMiddleFault 60 = .ok (.invokevirtual 119, 3) := by decide +kernel
theorem dX3_hasMiddleFault_63 : decode cX3_hasMiddleFault 63 = .ok (.checkcast 96, 3) := by decide +kernel
theorem dX3_hasMiddleFault_66 : decode cX3_hasMiddleFault 66 = .ok (.aload_n 0, 1) := by decide +kernel
theorem dX3_hasMiddleFault_67 : decode cX3_hasMiddleFault 67 = .ok (.getfield 26, 3) := by decide +kernel
theorem dX3_hasMiddleFault_70 : decode cX3_hasMiddleFault 70 = .ok (.iload_n 2, 1) := by decide +kernel
theorem dX3_hasMiddleFault_71 : decode cX3_hasMiddleFault 71 = .ok (.invokevirtual 119, 3) := by decide +kernel
theorem dX3_hasMiddleFault_74 : decode cX3_hasMiddleFault 74 = .ok (.checkcast 96, 3) := by decide +kernel
theorem dX3_hasMiddleFault_77 : decode cX3_hasMiddleFault 77 = .ok (.invokevirtual 312, 3) := by decide +kernel
theorem dX3_hasMiddleFault_80 : decode cX3_hasMiddleFault 80 = .ok (.ifCond .eq 5, 3) := by decide +kernel
theorem dX3_hasMiddleFault_83 : decode cX3_hasMiddleFault 83 = .ok (.iconst 1, 1) := by decide +kernel
theorem dX3_hasMiddleFault_84 : decode cX3_hasMiddleFault 84 = .ok (.ireturn, 1) := by decide +kernel
theorem dX3_hasMiddleFault_85 : decode cX3_hasMiddleFault 85 = .ok (.iinc 2 1, 3) := by decide +kernel
theorem dX3_hasMiddleFault_88 : decode cX3_hasMiddleFault 88 = .ok (.goto (-73), 3) := by decide +kernel
theorem dX3_hasMiddleFault_91 : decode cX3_hasMiddleFault 91 = .ok (.iinc 1 1, 3) := by decide +kernel
theorem dX3_hasMiddleFault_94 : decode cX3_hasMiddleFault 94 = .ok (.goto (-92), 3) := by decide +kernel
theorem dX3_hasMiddleFault_97 : decode cX3_hasMiddleFault 97 = .ok (.iconst 0, 1) := by decide +kernel
theorem dX3_hasMiddleFault_98 : decode cX3_hasMiddleFault 98 = .ok (.ireturn, 1) := by decide +kernel
theorem dX3_hasMiddleFaultWith_0 : decode cX3_hasMiddleFaultWith 0 = .ok (.iconst 0, 1) := by decide +kernel
theorem dX3_hasMiddleFaultWith_1 : decode cX3_hasMiddleFaultWith 1 = .ok (.istore_n 3, 1) := by decide +kernel
theorem dX3_hasMiddleFaultWith_2 : decode cX3_hasMiddleFaultWith 2 = .ok (.iload_n 3, 1) := by decide +kernel
theorem dX3_hasMiddleFaultWith_3 : decode cX3_hasMiddleFaultWith 3 = .ok (.aload_n 0, 1) := by decide +kernel
theorem dX3_hasMiddleFaultWith_4 : decode cX3_hasMiddleFaultWith 4 = .ok (.getfield 26, 3) := by decide +kernel
theorem dX3_hasMiddleFaultWith_7 : decode cX3_hasMiddleFaultWith 7 = .ok (.invokevirtual 85, 3) := by decide +kernel
theorem dX3_hasMiddleFaultWith_10 : decode cX3_hasMiddleFaultWith 10 = .ok (.if_icmp .ge 30, 3) := by decide +kernel
theorem dX3_hasMiddleFaultWith_13 : decode cX3_hasMiddleFaultWith 13 = .ok (.aload_n 1, 1) := by decide +kernel
theorem dX3_hasMiddleFaultWith_14 : decode cX3_hasMiddleFaultWith 14 = .ok (.aload_n 2, 1) := by decide +kernel
theorem dX3_hasMiddleFaultWith_15 : decode cX3_hasMiddleFaultWith 15 = .ok (.aload_n 0, 1) := by decide +kernel
theorem dX3_hasMiddleFaultWith_16 : decode cX3_hasMiddleFaultWith 16 = .ok (.getfield 26, 3) := by decide +kernel
theorem dX3_hasMiddleFaultWith_19 : decode cX3_hasMiddleFaultWith 19 = .ok (.iload_n 3, 1) := by decide +kernel
theorem dX3_hasMiddleFaultWith_20 : decode cX3_hasMiddleFaultWith 20 = .ok (.invokevirtual 119, 3) := by decide +kernel
theorem dX3_hasMiddleFaultWith_23 : decode cX3_hasMiddleFaultWith 23 = .ok (.checkcast 96, 3) := by decide +kernel
theorem dX3_hasMiddleFaultWith_26 : decode cX3_hasMiddleFaultWith 26 = .ok (.invokestatic 315, 3) := by decide +kernel
theorem dX3_hasMiddleFaultWith_29 : decode cX3_hasMiddleFaultWith 29 = .ok (.ifCond .eq 5, 3) := by decide +kernel
theorem dX3_hasMiddleFaultWith_32 : decode cX3_hasMiddleFaultWith 32 = .ok (.iconst 1, 1) := by decide +kernel
theorem dX3_hasMiddleFaultWith_33 : decode cX3_hasMiddleFaultWith 33 = .ok (.ireturn, 1) := by decide +kernel
theorem dX3_hasMiddleFaultWith_34 : decode cX3_hasMiddleFaultWith 34 = .ok (.iinc 3 1, 3) := by decide +kernel
theorem dX3_hasMiddleFaultWith_37 : decode cX3_hasMiddleFaultWith 37 = .ok (.goto (-35), 3) := by decide +kernel
theorem dX3_hasMiddleFaultWith_40 : decode cX3_hasMiddleFaultWith 40 = .ok (.iconst 0, 1) := by decide +kernel
theorem dX3_hasMiddleFaultWith_41 : decode cX3_hasMiddleFaultWith 41 = .ok (.ireturn, 1) := by decide +kernel
theorem dX3_hasExpiriesFault_0 : decode cX3_hasExpiriesFault 0 = .ok (.iconst 0, 1) := by decide +kernel
theorem dX3_hasExpiriesFault_1 : decode cX3_hasExpiriesFault 1 = .ok (.istore_n 1, 1) := by decide +kernel
theorem dX3_hasExpiriesFault_2 : decode cX3_hasExpiriesFault 2 = .ok (.iload_n 1, 1) := by decide +kernel
theorem dX3_hasExpiriesFault_3 : decode cX3_hasExpiriesFault 3 = .ok (.aload_n 0, 1) := by decide +kernel
theorem dX3_hasExpiriesFault_4 : decode cX3_hasExpiriesFault 4 = .ok (.getfield 26, 3) := by decide +kernel
theorem dX3_hasExpiriesFault_7 : decode cX3_hasExpiriesFault 7 = .ok (.invokevirtual 85, 3) := by decide +kernel
theorem dX3_hasExpiriesFault_10 : decode cX3_hasExpiriesFault 10 = .ok (.if_icmp .ge 58, 3) := by decide +kernel
theorem dX3_hasExpiriesFault_13 : decode cX3_hasExpiriesFault 13 = .ok (.iconst 0, 1) := by decide +kernel
theorem dX3_hasExpiriesFault_14 : decode cX3_hasExpiriesFault 14 = .ok (.istore_n 2, 1) := by decide +kernel
theorem dX3_hasExpiriesFault_15 : decode cX3_hasExpiriesFault 15 = .ok (.iload_n 2, 1) := by decide +kernel
theorem dX3_hasExpiriesFault_16 : decode cX3_hasExpiriesFault 16 = .ok (.aload_n 0, 1) := by decide +kernel
theorem dX3_hasExpiriesFault_17 : decode cX3_hasExpiriesFault 17 = .ok (.getfield 26, 3) := by decide +kernel
theorem dX3_hasExpiriesFault_20 : decode cX3_hasExpiriesFault 20 = .ok (.invokevirtual 85, 3) := by decide +kernel
theorem dX3_hasExpiriesFault_23 : decode cX3_hasExpiriesFault 23 = .ok (.if_icmp .ge 39, 3) := by decide +kernel
theorem dX3_hasExpiriesFault_26 : decode cX3_hasExpiriesFault 26 = .ok (.aload_n 0, 1) := by decide +kernel
theorem dX3_hasExpiriesFault_27 : decode cX3_hasExpiriesFault 27 = .ok (.getfield 26, 3) := by decide +kernel
theorem dX3_hasExpiriesFault_30 : decode cX3_hasExpiriesFault 30 = .ok (.iload_n 1, 1) := by decide +kernel
theorem dX3_hasExpiriesFault_31 : decode cX3_hasExpiriesFault 31 = .ok (.invokevirtual 119, 3) := by decide +kernel
theorem dX3_hasExpiriesFault_34 : decode cX3_hasExpiriesFault 34 = .ok (.checkcast 96, 3) := by decide +kernel
theorem dX3_hasExpiriesFault_37 : decode cX3_hasExpiriesFault 37 = .ok (.aload_n 0, 1) := by decide +kernel
theorem dX3_hasExpiriesFault_38 : decode cX3_hasExpiriesFault 38 = .ok (.getfield 26, 3) := by decide +kernel
theorem dX3_hasExpiriesFault_41 : decode cX3_hasExpiriesFault 41 = .ok (.iload_n 2, 1) := by decide +kernel
theorem dX3_hasExpiriesFault_42 : decode cX3_hasExpiriesFault 42 = .ok (.invokevirtual 119, 3) := by decide +kernel
theorem dX3_hasExpiriesFault_45 : decode cX3_hasExpiriesFault 45 = .ok (.checkcast 96, 3) := by decide +kernel
theorem dX3_hasExpiriesFault_48 : decode cX3_hasExpiriesFault 48 = .ok (.invokestatic 319, 3) := by decide +kernel
theorem dX3_hasExpiriesFault_51 : decode cX3_hasExpiriesFault 51 = .ok (.ifCond .eq 5, 3) := by decide +kernel
theorem dX3_hasExpiriesFault_54 : decode cX3_hasExpiriesFault 54 = .ok (.iconst 1, 1) := by decide +kernel
theorem dX3_hasExpiriesFault_55 : decode cX3_hasExpiriesFault 55 = .ok (.ireturn, 1) := by decide +kernel
theorem dX3_hasExpiriesFault_56 : decode cX3_hasExpiriesFault 56 = .ok (.iinc 2 1, 3) := by decide +kernel
theorem dX3_hasExpiriesFault_59 : decode cX3_hasExpiriesFault 59 = .ok (.goto (-44), 3) := by decide +kernel
theorem dX3_hasExpiriesFault_62 : decode cX3_hasExpiriesFault 62 = .ok (.iinc 1 1, 3) := by decide +kernel
theorem dX3_hasExpiriesFault_65 : decode cX3_hasExpiriesFault 65 = .ok (.goto (-63), 3) := by decide +kernel
theorem dX3_hasExpiriesFault_68 : decode cX3_hasExpiriesFault 68 = .ok (.iconst 0, 1) := by decide +kernel
theorem dX3_hasExpiriesFault_69 : decode cX3_hasExpiriesFault 69 = .ok (.ireturn, 1) := by decide +kernel
theorem dX3_isStrikePair_0 : decode cX3_isStrikePair 0 = .ok (.aload_n 0, 1) := by decide +kernel
theorem dX3_isStrikePair_1 : decode cX3_isStrikePair 1 = .ok (.invokevirtual 302, 3) := by decide +kernel
theorem dX3_isStrikePair_4 : decode cX3_isStrikePair 4 = .ok (.ifCond .eq 58, 3) := by decide +kernel
theorem dX3_isStrikePair_7 : decode cX3_isStrikePair 7 = .ok (.aload_n 1, 1) := by decide +kernel
theorem dX3_isStrikePair_8 : decode cX3_isStrikePair 8 = .ok (.invokevirtual 302, 3) := by decide +kernel
theorem dX3_isStrikePair_11 : decode cX3_isStrikePair 11 = .ok (.ifCond .eq 51, 3) := by decide +kernel
theorem dX3_isStrikePair_14 : decode cX3_isStrikePair 14 = .ok (.aload_n 0, 1) := by decide +kernel
theorem dX3_isStrikePair_15 : decode cX3_isStrikePair 15 = .ok (.getfield 322, 3) := by decide +kernel
theorem dX3_isStrikePair_18 : decode cX3_isStrikePair 18 = .ok (.aload_n 1, 1) := by decide +kernel
theorem dX3_isStrikePair_19 : decode cX3_isStrikePair 19 = .ok (.getfield 322, 3) := by decide +kernel
theorem dX3_isStrikePair_22 : decode cX3_isStrikePair 22 = .ok (.if_icmp .ge 40, 3) := by decide +kernel
theorem dX3_isStrikePair_25 : decode cX3_isStrikePair 25 = .ok (.aload_n 0, 1) := by decide +kernel
theorem dX3_isStrikePair_26 : decode cX3_isStrikePair 26 = .ok (.getfield 325, 3) := by decide +kernel
theorem dX3_isStrikePair_29 : decode cX3_isStrikePair 29 = .ok (.aload_n 1, 1) := by decide +kernel
theorem dX3_isStrikePair_30 : decode cX3_isStrikePair 30 = .ok (.getfield 325, 3) := by decide +kernel
theorem dX3_isStrikePair_33 : decode cX3_isStrikePair 33 = .ok (.if_icmp .ne 29, 3) := by decide +kernel
theorem dX3_isStrikePair_36 : decode cX3_isStrikePair 36 = .ok (.aload_n 0, 1) := by decide +kernel
theorem dX3_isStrikePair_37 : decode cX3_isStrikePair 37 = .ok (.getfield 174, 3) := by decide +kernel
theorem dX3_isStrikePair_40 : decode cX3_isStrikePair 40 = .ok (.aload_n 1, 1) := by decide +kernel
theorem dX3_isStrikePair_41 : decode cX3_isStrikePair 41 = .ok (.getfield 174, 3) := by decide +kernel
theorem dX3_isStrikePair_44 : decode cX3_isStrikePair 44 = .ok (.if_icmp .ne 18, 3) := by decide +kernel
theorem dX3_isStrikePair_47 : decode cX3_isStrikePair 47 = .ok (.aload_n 0, 1) := by decide +kernel
theorem dX3_isStrikePair_48 : decode cX3_isStrikePair 48 = .ok (.getfield 170, 3) := by decide +kernel
theorem dX3_isStrikePair_51 : decode cX3_isStrikePair 51 = .ok (.aload_n 1, 1) := by decide +kernel
theorem dX3_isStrikePair_52 : decode cX3_isStrikePair 52 = .ok (.getfield 170, 3) := by decide +kernel
theorem dX3_isStrikePair_55 : decode cX3_isStrikePair 55 = .ok (.if_icmp .ne 7, 3) := by decide +kernel
theorem dX3_isStrikePair_58 : decode cX3_isStrikePair 58 = .ok (.iconst 1, 1) := by decide +kernel
theorem dX3_isStrikePair_59 : decode cX3_isStrikePair 59 = .ok (.goto 4, 3) := by decide +kernel
theorem dX3_isStrikePair_62 : decode cX3_isStrikePair 62 = .ok (.iconst 0, 1) := by decide +kernel
theorem dX3_isStrikePair_63 : decode cX3_isStrikePair 63 = .ok (.ireturn, 1) := by decide +kernel
theorem dX3_isStrikesFault_0 : decode cX3_isStrikesFault 0 = .ok (.aload_n 0, 1) := by decide +kernel
theorem dX3_isStrikesFault_1 : decode cX3_isStrikesFault 1 = .ok (.aload_n 1, 1) := by decide +kernel
theorem dX3_isStrikesFault_2 : decode cX3_isStrikesFault 2 = .ok (.invokestatic 309, 3) := by decide +kernel
theorem dX3_isStrikesFault_5 : decode cX3_isStrikesFault 5 = .ok (.ifCond .ne 5, 3) := by decide +kernel
theorem dX3_isStrikesFault_8 : decode cX3_isStrikesFault 8 = .ok (.iconst 0, 1) := by decide +kernel
theorem dX3_isStrikesFault_9 : decode cX3_isStrikesFault 9 = .ok (.ireturn, 1) := by decide +kernel
theorem dX3_isStrikesFault_10 : decode cX3_isStrikesFault 10 = .ok (.aload_n 0, 1) := by decide +kernel
theorem dX3_isStrikesFault_11 : decode cX3_isStrikesFault 11 = .ok (.getfield 325, 3) := by decide +kernel
theorem dX3_isStrikesFault_14 : decode cX3_isStrikesFault 14 = .ok (.ifCond .ne 22, 3) := by decide +kernel
theorem dX3_isStrikesFault_17 : decode cX3_isStrikesFault 17 = .ok (.aload_n 1, 1) := by decide +kernel
theorem dX3_isStrikesFault_18 : decode cX3_isStrikesFault 18 = .ok (.getfield 219, 3) := by decide +kernel
theorem dX3_isStrikesFault_21 : decode cX3_isStrikesFault 21 = .ok (.aload_n 0, 1) := by decide +kernel
theorem dX3_isStrikesFault_22 : decode cX3_isStrikesFault 22 = .ok (.getfield 222, 3) := by decide +kernel
theorem dX3_isStrikesFault_25 : decode cX3_isStrikesFault 25 = .ok (.if_icmp .le 7, 3) := by decide +kernel
theorem dX3_isStrikesFault_28 : decode cX3_isStrikesFault 28 = .ok (.iconst 1, 1) := by decide +kernel
theorem dX3_isStrikesFault_29 : decode cX3_isStrikesFault 29 = .ok (.goto 23, 3) := by decide +kernel
theorem dX3_isStrikesFault_32 : decode cX3_isStrikesFault 32 = .ok (.iconst 0, 1) := by decide +kernel
theorem dX3_isStrikesFault_33 : decode cX3_isStrikesFault 33 = .ok (.goto 19, 3) := by decide +kernel
theorem dX3_isStrikesFault_36 : decode cX3_isStrikesFault 36 = .ok (.aload_n 0, 1) := by decide +kernel
theorem dX3_isStrikesFault_37 : decode cX3_isStrikesFault 37 = .ok (.getfield 219, 3) := by decide +kernel
theorem dX3_isStrikesFault_40 : decode cX3_isStrikesFault 40 = .ok (.aload_n 1, 1) := by decide +kernel
theorem dX3_isStrikesFault_41 : decode cX3_isStrikesFault 41 = .ok (.getfield 222, 3) := by decide +kernel
theorem dX3_isStrikesFault_44 : decode cX3_isStrikesFault 44 = .ok (.if_icmp .le 7, 3) := by decide +kernel
theorem dX3_isStrikesFault_47 : decode cX3_isStrikesFault 47 = .ok (.iconst 1, 1) := by decide +kernel
theorem dX3_isStrikesFault_48 : decode cX3_isStrikesFault 48 = .ok (.goto 4, 3) := by decide +kernel
theorem dX3_isStrikesFault_51 : decode cX3_isStrikesFault 51 = .ok (.iconst 0, 1) := by decide +kernel
theorem dX3_isStrikesFault_52 : decode cX3_isStrikesFault 52 = .ok (.ireturn, 1) := by decide +kernel
theorem dX3_isMiddleFault_0 : decode cX3_isMiddleFault 0 = .ok (.aload_n 0, 1) := by decide +kernel
theorem dX3_isMiddleFault_1 : decode cX3_isMiddleFault 1 = .ok (.aload_n 1, 1) := by decide +kernel
theorem dX3_isMiddleFault_2 : decode cX3_isMiddleFault 2 = .ok (.invokestatic 309, 3) := by decide +kernel
theorem dX3_isMiddleFault_5 : decode cX3_isMiddleFault 5 = .ok (.ifCond .eq 54, 3) := by decide +kernel
theorem dX3_isMiddleFault_8 : decode cX3_isMiddleFault 8 = .ok (.aload_n 1, 1) := by decide +kernel
theorem dX3_isMiddleFault_9 : decode cX3_isMiddleFault 9 = .ok (.aload_n 2, 1) := by decide +kernel
theorem dX3_isMiddleFault_10 : decode cX3_isMiddleFault 10 = .ok (.invokestatic 309, 3) := by decide +kernel
theorem dX3_isMiddleFault_13 : decode cX3_isMiddleFault 13 = .ok (.ifCond .eq 46, 3) := by decide +kernel
theorem dX3_isMiddleFault_16 : decode cX3_isMiddleFault 16 = .ok (.aload_n 1, 1) := by decide +kernel
theorem dX3_isMiddleFault_17 : decode cX3_isMiddleFault 17 = .ok (.getfield 322, 3) := by decide +kernel
theorem dX3_isMiddleFault_20 : decode cX3_isMiddleFault 20 = .ok (.aload_n 0, 1) := by decide +kernel
theorem dX3_isMiddleFault_21 : decode cX3_isMiddleFault 21 = .ok (.getfield 322, 3) := by decide +kernel
theorem dX3_isMiddleFault_24 : decode cX3_isMiddleFault 24 = .ok (.isub, 1) := by decide +kernel
theorem dX3_isMiddleFault_25 : decode cX3_isMiddleFault 25 = .ok (.aload_n 2, 1) := by decide +kernel
theorem dX3_isMiddleFault_26 : decode cX3_isMiddleFault 26 = .ok (.getfield 322, 3) := by decide +kernel
theorem dX3_isMiddleFault_29 : decode cX3_isMiddleFault 29 = .ok (.aload_n 1, 1) := by decide +kernel
theorem dX3_isMiddleFault_30 : decode cX3_isMiddleFault 30 = .ok (.getfield 322, 3) := by decide +kernel
theorem dX3_isMiddleFault_33 : decode cX3_isMiddleFault 33 = .ok (.isub, 1) := by decide +kernel
theorem dX3_isMiddleFault_34 : decode cX3_isMiddleFault 34 = .ok (.if_icmp .ne 25, 3) := by decide +kernel
theorem dX3_isMiddleFault_37 : decode cX3_isMiddleFault 37 = .ok (.iconst 2, 1) := by decide +kernel
theorem dX3_isMiddleFault_38 : decode cX3_isMiddleFault 38 = .ok (.aload_n 1, 1) := by decide +kernel
theorem dX3_isMiddleFault_39 : decode cX3_isMiddleFault 39 = .ok (.getfield 219, 3) := by decide +kernel
theorem dX3_isMiddleFault_42 : decode cX3_isMiddleFault 42 = .ok (.imul, 1) := by decide +kernel
theorem dX3_isMiddleFault_43 : decode cX3_isMiddleFault 43 = .ok (.aload_n 0, 1) := by decide +kernel
theorem dX3_isMiddleFault_44 : decode cX3_isMiddleFault 44 = .ok (.getfield 222, 3) := by decide +kernel
theorem dX3_isMiddleFault_47 : decode cX3_isMiddleFault 47 = .ok (.aload_n 2, 1) := by decide +kernel
theorem dX3_isMiddleFault_48 : decode cX3_isMiddleFault 48 = .ok (.getfield 222, 3) := by decide +kernel
theorem dX3_isMiddleFault_51 : decode cX3_isMiddleFault 51 = .ok (.iadd, 1) := by decide +kernel
theorem dX3_isMiddleFault_52 : decode cX3_isMiddleFault 52 = .ok (.if_icmp .le 7, 3) := by decide +kernel
theorem dX3_isMiddleFault_55 : decode cX3_isMiddleFault 55 = .ok (.iconst 1, 1) := by decide +kernel
theorem dX3_isMiddleFault_56 : decode cX3_isMiddleFault 56 = .ok (.goto 4, 3) := by decide +kernel
theorem dX3_isMiddleFault_59 : decode cX3_isMiddleFault 59 = .ok (.iconst 0, 1) := by decide +kernel
theorem dX3_isMiddleFault_60 : decode cX3_isMiddleFault 60 = .ok (.ireturn, 1) := by decide +kernel
theorem dX3_isExpiriesFault_0 : decode cX3_isExpiriesFault 0 = .ok (.aload_n 0, 1) := by decide +kernel
theorem dX3_isExpiriesFault_1 : decode cX3_isExpiriesFault 1 = .ok (.invokevirtual 302, 3) := by decide +kernel
theorem dX3_isExpiriesFault_4 : decode cX3_isExpiriesFault 4 = .ok (.ifCond .eq 72, 3) := by decide +kernel
theorem dX3_isExpiriesFault_7 : decode cX3_isExpiriesFault 7 = .ok (.aload_n 1, 1) := by decide +kernel
theorem dX3_isExpiriesFault_8 : decode cX3_isExpiriesFault 8 = .ok (.invokevirtual 302, 3) := by decide +kernel
theorem dX3_isExpiriesFault_11 : decode cX3_isExpiriesFault 11 = .ok (.ifCond .eq 65, 3) := by decide +kernel
theorem dX3_isExpiriesFault_14 : decode cX3_isExpiriesFault 14 = .ok (.aload_n 0, 1) := by decide +kernel
theorem dX3_isExpiriesFault_15 : decode cX3_isExpiriesFault 15 = .ok (.getfield 174, 3) := by decide +kernel
theorem dX3_isExpiriesFault_18 : decode cX3_isExpiriesFault 18 = .ok (.aload_n 1, 1) := by decide +kernel
theorem dX3_isExpiriesFault_19 : decode cX3_isExpiriesFault 19 = .ok (.getfield 174, 3) := by decide +kernel
theorem dX3_isExpiriesFault_22 : decode cX3_isExpiriesFault 22 = .ok (.if_icmp .ge 54, 3) := by decide +kernel
theorem dX3_isExpiriesFault_25 : decode cX3_isExpiriesFault 25 = .ok (.aload_n 0, 1) := by decide +kernel
theorem dX3_isExpiriesFault_26 : decode cX3_isExpiriesFault 26 = .ok (.getfield 170, 3) := by decide +kernel
theorem dX3_isExpiriesFault_29 : decode cX3_isExpiriesFault 29 = .ok (.ifCond .eq 47, 3) := by decide +kernel
theorem dX3_isExpiriesFault_32 : decode cX3_isExpiriesFault 32 = .ok (.aload_n 1, 1) := by decide +kernel
theorem dX3_isExpiriesFault_33 : decode cX3_isExpiriesFault 33 = .ok (.getfield 170, 3) := by decide +kernel
theorem dX3_isExpiriesFault_36 : decode cX3_isExpiriesFault 36 = .ok (.ifCond .eq 40, 3) := by decide +kernel
theorem dX3_isExpiriesFault_39 : decode cX3_isExpiriesFault 39 = .ok (.aload_n 0, 1) := by decide +kernel
theorem dX3_isExpiriesFault_40 : decode cX3_isExpiriesFault 40 = .ok (.getfield 325, 3) := by decide +kernel
theorem dX3_isExpiriesFault_43 : decode cX3_isExpiriesFault 43 = .ok (.aload_n 1, 1) := by decide +kernel
theorem dX3_isExpiriesFault_44 : decode cX3_isExpiriesFault 44 = .ok (.getfield 325, 3) := by decide +kernel
theorem dX3_isExpiriesFault_47 : decode cX3_isExpiriesFault 47 = .ok (.if_icmp .ne 29, 3) := by decide +kernel
theorem dX3_isExpiriesFault_50 : decode cX3_isExpiriesFault 50 = .ok (.aload_n 0, 1) := by decide +kernel
theorem dX3_isExpiriesFault_51 : decode cX3_isExpiriesFault 51 = .ok (.getfield 322, 3) := by decide +kernel
theorem dX3_isExpiriesFault_54 : decode cX3_isExpiriesFault 54 = .ok (.aload_n 1, 1) := by decide +kernel
theorem dX3_isExpiriesFault_55 : decode cX3_isExpiriesFault 55 = .ok (.getfield 322, 3) := by decide +kernel
theorem dX3_isExpiriesFault_58 : decode cX3_isExpiriesFault 58 = .ok (.if_icmp .ne 18, 3) := by decide +kernel
theorem dX3_isExpiriesFault_61 : decode cX3_isExpiriesFault 61 = .ok (.aload_n 0, 1) := by decide +kernel
theorem dX3_isExpiriesFault_62 : decode cX3_isExpiriesFault 62 = .ok (.getfield 219, 3) := by decide +kernel
theorem dX3_isExpiriesFault_65 : decode cX3_isExpiriesFault 65 = .ok (.aload_n 1, 1) := by decide +kernel
theorem dX3_isExpiriesFault_66 : decode cX3_isExpiriesFault 66 = .ok (.getfield 222, 3) := by decide +kernel
theorem dX3_isExpiriesFault_69 : decode cX3_isExpiriesFault 69 = .ok (.if_icmp .le 7, 3) := by decide +kernel
theorem dX3_isExpiriesFault_72 : decode cX3_isExpiriesFault 72 = .ok (.iconst 1, 1) := by decide +kernel
theorem dX3_isExpiriesFault_73 : decode cX3_isExpiriesFault 73 = .ok (.goto 4, 3) := by decide +kernel
theorem dX3_isExpiriesFault_76 : decode cX3_isExpiriesFault 76 = .ok (.iconst 0, 1) := by decide +kernel
theorem dX3_isExpiriesFault_77 : decode cX3_isExpiriesFault 77 = .ok (.ireturn, 1) := by decide +kernel
theorem dX4_init_0 : decode cX4_init 0 = .ok (.aload_n 0, 1) := by decide +kernel
theorem dX4_init_1 : decode cX4_init 1 = .ok (.invokespecial 1, 3) := by decide +kernel
theorem dX4_init_4 : decode cX4_init 4 = .ok (.aload_n 0, 1) := by decide +kernel
theorem dX4_init_5 : decode cX4_init 5 = .ok (.sipush 10000, 3) := by decide +kernel
theorem dX4_init_8 : decode cX4_init 8 = .ok (.putfield 7, 3) := by decide +kernel
theorem dX4_init_11 : decode cX4_init 11 = .ok (.aload_n 0, 1) := by decide +kernel
theorem dX4_init_12 : decode cX4_init 12 = .ok (.bipush 10, 2) := by decide +kernel
theorem dX4_init_14 : decode cX4_init 14 = .ok (.putfield 13, 3) := by decide +kernel
theorem dX4_init_17 : decode cX4_init 17 = .ok (.aload_n 0, 1) := by decide +kernel
theorem dX4_init_18 : decode cX4_init 18 = .ok (.bipush 10, 2) := by decide +kernel
theorem dX4_init_20 : decode cX4_init 20 = .ok (.putfield 16, 3) := by decide +kernel
theorem dX4_init_23 : decode cX4_init 23 = .ok (.aload_n 0, 1) := by decide +kernel
theorem dX4_init_24 : decode cX4_init 24 = .ok (.sipush 201, 3) := by decide +kernel
theorem dX4_init_27 : decode cX4_init 27 = .ok (.newarray .int, 2) := by decide +kernel
theorem dX4_init_29 : decode cX4_init 29 = .ok (.putfield 19, 3) := by decide +kernel
theorem dX4_init_32 : decode cX4_init 32 = .ok (.aload_n 0, 1) := by decide +kernel
theorem dX4_init_33 : decode cX4_init 33 = .ok (.bipush 12, 2) := by decide +kernel
theorem dX4_init_35 : decode cX4_init 35 = .ok (.newarray .int, 2) := by decide +kernel
theorem dX4_init_37 : decode cX4_init 37 = .ok (.putfield 23, 3) := by decide +kernel
theorem dX4_init_40 : decode cX4_init 40 = .ok (.aload_n 0, 1) := by decide +kernel
theorem dX4_init_41 : decode cX4_init 41 = .ok (.bipush 12, 2) := by decide +kernel
theorem dX4_init_43 : decode cX4_init 43 = .ok (.newarray .int, 2) := by decide +kernel
theorem dX4_init_45 : decode cX4_init 45 = .ok (.putfield 26, 3) := by decide +kernel
theorem dX4_init_48 : decode cX4_init 48 = .ok (.aload_n 0, 1) := by decide +kernel
theorem dX4_init_49 : decode cX4_init 49 = .ok (.bipush 12, 2) := by decide +kernel
theorem dX4_init_51 : decode cX4_init 51 = .ok (.newarray .int, 2) := by decide +kernel
theorem dX4_init_53 : decode cX4_init 53 = .ok (.putfield 29, 3) := by decide +kernel
theorem dX4_init_56 : decode cX4_init 56 = .ok (.aload_n 0, 1) := by decide +kernel
theorem dX4_init_57 : decode cX4_init 57 = .ok (.bipush 12, 2) := by decide +kernel
theorem dX4_init_59 : decode cX4_init 59 = .ok (.newarray .boolean, 2) := by decide +kernel
theorem dX4_init_61 : decode cX4_init 61 = .ok (.putfield 32, 3) := by decide +kernel
theorem dX4_init_64 : decode cX4_init 64 = .ok (.aload_n 0, 1) := by decide +kernel
theorem dX4_init_65 : decode cX4_init 65 = .ok (.bipush 12, 2) := by decide +kernel
theorem dX4_init_67 : decode cX4_init 67 = .ok (.newarray .boolean, 2) := by decide +kernel
theorem dX4_init_69 : decode cX4_init 69 = .ok (.putfield 36, 3) := by decide +kernel
theorem dX4_init_72 : decode cX4_init 72 = .ok (.aload_n 0, 1) := by decide +kernel
theorem dX4_init_73 : decode cX4_init 73 = .ok (.bipush 12, 2) := by decide +kernel
theorem dX4_init_75 : decode cX4_init 75 = .ok (.newarray .int, 2) := by decide +kernel
theorem dX4_init_77 : decode cX4_init 77 = .ok (.putfield 39, 3) := by decide +kernel
theorem dX4_init_80 : decode cX4_init 80 = .ok (.aload_n 0, 1) := by decide +kernel
theorem dX4_init_81 : decode cX4_init 81 = .ok (.bipush 12, 2) := by decide +kernel
theorem dX4_init_83 : decode cX4_init 83 = .ok (.newarray .int, 2) := by decide +kernel
theorem dX4_init_85 : decode cX4_init 85 = .ok (.putfield 42, 3) := by decide +kernel
theorem dX4_init_88 : decode cX4_init 88 = .ok (.aload_n 0, 1) := by decide +kernel
theorem dX4_init_89 : decode cX4_init 89 = .ok (.bipush 12, 2) := by decide +kernel
theorem dX4_init_91 : decode cX4_init 91 = .ok (.newarray .int, 2) := by decide +kernel
theorem dX4_init_93 : decode cX4_init 93 = .ok (.putfield 45, 3) := by decide +kernel
theorem dX4_init_96 : decode cX4_init 96 = .ok (.aload_n 0, 1) := by decide +kernel
theorem dX4_init_97 : decode cX4_init 97 = .ok (.bipush 12, 2) := by decide +kernel
theorem dX4_init_99 : decode cX4_init 99 = .ok (.newarray .int, 2) := by decide +kernel
theorem dX4_init_101 : decode cX4_init 101 = .ok (.putfield 48, 3) := by decide +kernel
theorem dX4_init_104 : decode cX4_init 104 = .ok (.aload_n 0, 1) := by decide +kernel
theorem dX4_init_105 : decode cX4_init 105 = .ok (.bipush 84, 2) := by decide +kernel
theorem dX4_init_107 : decode cX4_init 107 = .ok (.newarray .int, 2) := by decide +kernel
theorem dX4_init_109 : decode cX4_init 109 = .ok (.putfield 51, 3) := by decide +kernel
theorem dX4_init_112 : decode cX4_init 112 = .ok (.aload_n 0, 1) := by decide +kernel
theorem dX4_init_113 : decode cX4_init 113 = .ok (.bipush 84, 2) := by decide +kernel
theorem dX4_init_115 : decode cX4_init 115 = .ok (.newarray .boolean, 2) := by decide +kernel
theorem dX4_init_117 : decode cX4_init 117 = .ok (.putfield 54, 3) := by decide +kernel
theorem dX4_init_120 : decode cX4_init 120 = .ok (.aload_n 0, 1) := by decide +kernel
theorem dX4_init_121 : decode cX4_init 121 = .ok (.bipush 7, 2) := by decide +kernel
theorem dX4_init_123 : decode cX4_init 123 = .ok (.newarray .long, 2) := by decide +kernel
theorem dX4_init_125 : decode cX4_init 125 = .ok (.putfield 57, 3) := by decide +kernel
theorem dX4_init_128 : decode cX4_init 128 = .ok (.aload_n 0, 1) := by decide +kernel
theorem dX4_init_129 : decode cX4_init 129 = .ok (.bipush 100, 2) := by decide +kernel
theorem dX4_init_131 : decode cX4_init 131 = .ok (.putfield 61, 3) := by decide +kernel
theorem dX4_init_134 : decode cX4_init 134 = .ok (.aload_n 0, 1) := by decide +kernel
theorem dX4_init_135 : decode cX4_init 135 = .ok (.sipush 500, 3) := by decide +kernel
theorem dX4_init_138 : decode cX4_init 138 = .ok (.putfield 64, 3) := by decide +kernel
theorem dX4_init_141 : decode cX4_init 141 = .ok (.aload_n 0, 1) := by decide +kernel
theorem dX4_init_142 : decode cX4_init 142 = .ok (.bipush 6, 2) := by decide +kernel
theorem dX4_init_144 : decode cX4_init 144 = .ok (.newarray .long, 2) := by decide +kernel
theorem dX4_init_146 : decode cX4_init 146 = .ok (.putfield 67, 3) := by decide +kernel
theorem dX4_init_149 : decode cX4_init 149 = .ok (.aload_n 0, 1) := by decide +kernel
theorem dX4_init_150 : decode cX4_init 150 = .ok (.bipush 11, 2) := by decide +kernel
theorem dX4_init_152 : decode cX4_init 152 = .ok (.newarray .long, 2) := by decide +kernel
theorem dX4_init_154 : decode cX4_init 154 = .ok (.putfield 70, 3) := by decide +kernel
theorem dX4_init_157 : decode cX4_init 157 = .ok (.return_, 1) := by decide +kernel
theorem dX4_thrown_0 : decode cX4_thrown 0 = .ok (.aload_n 0, 1) := by decide +kernel
theorem dX4_thrown_1 : decode cX4_thrown 1 = .ok (.getfield 73, 3) := by decide +kernel
theorem dX4_thrown_4 : decode cX4_thrown 4 = .ok (.ireturn, 1) := by decide +kernel
theorem dX4_in_0 : decode cX4_in 0 = .ok (.lload_n 0, 1) := by decide +kernel
theorem dX4_in_1 : decode cX4_in 1 = .ok (.lload_n 2, 1) := by decide +kernel
theorem dX4_in_2 : decode cX4_in 2 = .ok (.lcmp, 1) := by decide +kernel
theorem dX4_in_3 : decode cX4_in 3 = .ok (.ifCond .lt 14, 3) := by decide +kernel
theorem dX4_in_6 : decode cX4_in 6 = .ok (.lload_n 0, 1) := by decide +kernel
theorem dX4_in_7 : decode cX4_in 7 = .ok (.lload 4, 2) := by decide +kernel
theorem dX4_in_9 : decode cX4_in 9 = .ok (.lcmp, 1) := by decide +kernel
theorem dX4_in_10 : decode cX4_in 10 = .ok (.ifCond .gt 7, 3) := by decide +kernel
theorem dX4_in_13 : decode cX4_in 13 = .ok (.iconst 1, 1) := by decide +kernel
theorem dX4_in_14 : decode cX4_in 14 = .ok (.goto 4, 3) := by decide +kernel
theorem dX4_in_17 : decode cX4_in 17 = .ok (.iconst 0, 1) := by decide +kernel
theorem dX4_in_18 : decode cX4_in 18 = .ok (.ireturn, 1) := by decide +kernel
theorem dX4_isContract_0 : decode cX4_isContract 0 = .ok (.iload_n 1, 1) := by decide +kernel
theorem dX4_isContract_1 : decode cX4_isContract 1 = .ok (.i2l, 1) := by decide +kernel
theorem dX4_isContract_2 : decode cX4_isContract 2 = .ok (.lconst 0, 1) := by decide +kernel
theorem dX4_isContract_3 : decode cX4_isContract 3 = .ok (.aload_n 0, 1) := by decide +kernel
theorem dX4_isContract_4 : decode cX4_isContract 4 = .ok (.getfield 76, 3) := by decide +kernel
theorem dX4_isContract_7 : decode cX4_isContract 7 = .ok (.iconst 1, 1) := by decide +kernel
theorem dX4_isContract_8 : decode cX4_isContract 8 = .ok (.isub, 1) := by decide +kernel
theorem dX4_isContract_9 : decode cX4_isContract 9 = .ok (.i2l, 1) := by decide +kernel
theorem dX4_isContract_10 : decode cX4_isContract 10 = .ok (.invokestatic 79, 3) := by decide +kernel
theorem dX4_isContract_13 : decode cX4_isContract 13 = .ok (.ireturn, 1) := by decide +kernel
theorem dX4_isHolder_0 : decode cX4_isHolder 0 = .ok (.iload_n 0, 1) := by decide +kernel
theorem dX4_isHolder_1 : decode cX4_isHolder 1 = .ok (.i2l, 1) := by decide +kernel
theorem dX4_isHolder_2 : decode cX4_isHolder 2 = .ok (.ldc2_w 83, 3) := by decide +kernel
theorem dX4_isHolder_5 : decode cX4_isHolder 5 = .ok (.ldc2_w 85, 3) := by decide +kernel
theorem dX4_isHolder_8 : decode cX4_isHolder 8 = .ok (.invokestatic 79, 3) := by decide +kernel
theorem dX4_isHolder_11 : decode cX4_isHolder 11 = .ok (.ireturn, 1) := by decide +kernel
theorem dX4_at_0 : decode cX4_at 0 = .ok (.bipush 7, 2) := by decide +kernel
theorem dX4_at_2 : decode cX4_at 2 = .ok (.iload_n 1, 1) := by decide +kernel
theorem dX4_at_3 : decode cX4_at 3 = .ok (.imul, 1) := by decide +kernel
theorem dX4_at_4 : decode cX4_at 4 = .ok (.iload_n 0, 1) := by decide +kernel
theorem dX4_at_5 : decode cX4_at 5 = .ok (.iconst (-1), 1) := by decide +kernel
theorem dX4_at_6 : decode cX4_at 6 = .ok (.if_icmp .ne 8, 3) := by decide +kernel
theorem dX4_at_9 : decode cX4_at 9 = .ok (.bipush 6, 2) := by decide +kernel
theorem dX4_at_11 : decode cX4_at 11 = .ok (.goto 4, 3) := by decide +kernel
theorem dX4_at_14 : decode cX4_at 14 = .ok (.iload_n 0, 1) := by decide +kernel
theorem dX4_at_15 : decode cX4_at 15 = .ok (.iadd, 1) := by decide +kernel
theorem dX4_at_16 : decode cX4_at 16 = .ok (.ireturn, 1) := by decide +kernel
theorem dX4_pays_0 : decode cX4_pays 0 = .ok (.aload_n 0, 1) := by decide +kernel
theorem dX4_pays_1 : decode cX4_pays 1 = .ok (.getfield 23, 3) := by decide +kernel
theorem dX4_pays_4 : decode cX4_pays 4 = .ok (.iload_n 1, 1) := by decide +kernel
theorem dX4_pays_5 : decode cX4_pays 5 = .ok (.iaload, 1) := by decide +kernel
theorem dX4_pays_6 : decode cX4_pays 6 = .ok (.ifCond .ne 15, 3) := by decide +kernel
theorem dX4_pays_9 : decode cX4_pays 9 = .ok (.lload_n 2, 1) := by decide +kernel
theorem dX4_pays_10 : decode cX4_pays 10 = .ok (.aload_n 0, 1) := by decide +kernel
theorem dX4_pays_11 : decode cX4_pays 11 = .ok (.getfield 26, 3) := by decide +kernel
theorem dX4_pays_14 : decode cX4_pays 14 = .ok (.iload_n 1, 1) := by decide +kernel
theorem dX4_pays_15 : decode cX4_pays 15 = .ok (.iaload, 1) := by decide +kernel
theorem dX4_pays_16 : decode cX4_pays 16 = .ok (.i2l, 1) := by decide +kernel
theorem dX4_pays_17 : decode cX4_pays 17 = .ok (.lsub, 1) := by decide +kernel
theorem dX4_pays_18 : decode cX4_pays 18 = .ok (.goto 12, 3) := by decide +kernel
theorem dX4_pays_21 : decode cX4_pays 21 = .ok (.aload_n 0, 1) := by decide +kernel
theorem dX4_pays_22 : decode cX4_pays 22 = .ok (.getfield 26, 3) := by decide +kernel
theorem dX4_pays_25 : decode cX4_pays 25 = .ok (.iload_n 1, 1) := by decide +kernel
theorem dX4_pays_26 : decode cX4_pays 26 = .ok (.iaload, 1) := by decide +kernel
theorem dX4_pays_27 : decode cX4_pays 27 = .ok (.i2l, 1) := by decide +kernel
theorem dX4_pays_28 : decode cX4_pays 28 = .ok (.lload_n 2, 1) := by decide +kernel
theorem dX4_pays_29 : decode cX4_pays 29 = .ok (.lsub, 1) := by decide +kernel
theorem dX4_pays_30 : decode cX4_pays 30 = .ok (.lstore 4, 2) := by decide +kernel
theorem dX4_pays_32 : decode cX4_pays 32 = .ok (.lload 4, 2) := by decide +kernel
theorem dX4_pays_34 : decode cX4_pays 34 = .ok (.lconst 0, 1) := by decide +kernel
theorem dX4_pays_35 : decode cX4_pays 35 = .ok (.lcmp, 1) := by decide +kernel
theorem dX4_pays_36 : decode cX4_pays 36 = .ok (.ifCond .le 8, 3) := by decide +kernel
theorem dX4_pays_39 : decode cX4_pays 39 = .ok (.lload 4, 2) := by decide +kernel
theorem dX4_pays_41 : decode cX4_pays 41 = .ok (.goto 4, 3) := by decide +kernel
theorem dX4_pays_44 : decode cX4_pays 44 = .ok (.lconst 0, 1) := by decide +kernel
theorem dX4_pays_45 : decode cX4_pays 45 = .ok (.lreturn, 1) := by decide +kernel
theorem dX4_priceOf_0 : decode cX4_priceOf 0 = .ok (.iload_n 1, 1) := by decide +kernel
theorem dX4_priceOf_1 : decode cX4_priceOf 1 = .ok (.i2l, 1) := by decide +kernel
theorem dX4_priceOf_2 : decode cX4_priceOf 2 = .ok (.ldc2_w 87, 3) := by decide +kernel
theorem dX4_priceOf_5 : decode cX4_priceOf 5 = .ok (.aload_n 0, 1) := by decide +kernel
theorem dX4_priceOf_6 : decode cX4_priceOf 6 = .ok (.getfield 13, 3) := by decide +kernel
theorem dX4_priceOf_9 : decode cX4_priceOf 9 = .ok (.i2l, 1) := by decide +kernel
theorem dX4_priceOf_10 : decode cX4_priceOf 10 = .ok (.lmul, 1) := by decide +kernel
theorem dX4_priceOf_11 : decode cX4_priceOf 11 = .ok (.iload_n 3, 1) := by decide +kernel
theorem dX4_priceOf_12 : decode cX4_priceOf 12 = .ok (.i2l, 1) := by decide +kernel
theorem dX4_priceOf_13 : decode cX4_priceOf 13 = .ok (.lmul, 1) := by decide +kernel
theorem dX4_priceOf_14 : decode cX4_priceOf 14 = .ok (.ladd, 1) := by decide +kernel
theorem dX4_priceOf_15 : decode cX4_priceOf 15 = .ok (.ldc2_w 87, 3) := by decide +kernel
theorem dX4_priceOf_18 : decode cX4_priceOf 18 = .ok (.aload_n 0, 1) := by decide +kernel
theorem dX4_priceOf_19 : decode cX4_priceOf 19 = .ok (.getfield 16, 3) := by decide +kernel
theorem dX4_priceOf_22 : decode cX4_priceOf 22 = .ok (.i2l, 1) := by decide +kernel
theorem dX4_priceOf_23 : decode cX4_priceOf 23 = .ok (.lmul, 1) := by decide +kernel
theorem dX4_priceOf_24 : decode cX4_priceOf 24 = .ok (.iload_n 2, 1) := by decide +kernel
theorem dX4_priceOf_25 : decode cX4_priceOf 25 = .ok (.aload_n 0, 1) := by decide +kernel
theorem dX4_priceOf_26 : decode cX4_priceOf 26 = .ok (.getfield 89, 3) := by decide +kernel
theorem dX4_priceOf_29 : decode cX4_priceOf 29 = .ok (.isub, 1) := by decide +kernel
theorem dX4_priceOf_30 : decode cX4_priceOf 30 = .ok (.iload_n 3, 1) := by decide +kernel
theorem dX4_priceOf_31 : decode cX4_priceOf 31 = .ok (.isub, 1) := by decide +kernel
theorem dX4_priceOf_32 : decode cX4_priceOf 32 = .ok (.i2l, 1) := by decide +kernel
theorem dX4_priceOf_33 : decode cX4_priceOf 33 = .ok (.lmul, 1) := by decide +kernel
theorem dX4_priceOf_34 : decode cX4_priceOf 34 = .ok (.lsub, 1) := by decide +kernel
theorem dX4_priceOf_35 : decode cX4_priceOf 35 = .ok (.lstore 4, 2) := by decide +kernel
theorem dX4_priceOf_37 : decode cX4_priceOf 37 = .ok (.aload_n 0, 1) := by decide +kernel
theorem dX4_priceOf_38 : decode cX4_priceOf 38 = .ok (.getfield 89, 3) := by decide +kernel
theorem dX4_priceOf_41 : decode cX4_priceOf 41 = .ok (.iconst 1, 1) := by decide +kernel
theorem dX4_priceOf_42 : decode cX4_priceOf 42 = .ok (.iadd, 1) := by decide +kernel
theorem dX4_priceOf_43 : decode cX4_priceOf 43 = .ok (.istore 6, 2) := by decide +kernel
theorem dX4_priceOf_45 : decode cX4_priceOf 45 = .ok (.iload 6, 2) := by decide +kernel
theorem dX4_priceOf_47 : decode cX4_priceOf 47 = .ok (.iload_n 2, 1) := by decide +kernel
theorem dX4_priceOf_48 : decode cX4_priceOf 48 = .ok (.if_icmp .gt 22, 3) := by decide +kernel
theorem dX4_priceOf_51 : decode cX4_priceOf 51 = .ok (.lload 4, 2) := by decide +kernel
theorem dX4_priceOf_53 : decode cX4_priceOf 53 = .ok (.aload_n 0, 1) := by decide +kernel
theorem dX4_priceOf_54 : decode cX4_priceOf 54 = .ok (.getfield 19, 3) := by decide +kernel
theorem dX4_priceOf_57 : decode cX4_priceOf 57 = .ok (.iload 6, 2) := by decide +kernel
theorem dX4_priceOf_59 : decode cX4_priceOf 59 = .ok (.iaload, 1) := by decide +kernel
theorem dX4_priceOf_60 : decode cX4_priceOf 60 = .ok (.i2l, 1) := by decide +kernel
theorem dX4_priceOf_61 : decode cX4_priceOf 61 = .ok (.lsub, 1) := by decide +kernel
theorem dX4_priceOf_62 : decode cX4_priceOf 62 = .ok (.lstore 4, 2) := by decide +kernel
theorem dX4_priceOf_64 : decode cX4_priceOf 64 = .ok (.iinc 6 1, 3) := by decide +kernel
theorem dX4_priceOf_67 : decode cX4_priceOf 67 = .ok (.goto (-22), 3) := by decide +kernel
theorem dX4_priceOf_70 : decode cX4_priceOf 70 = .ok (.lload 4, 2) := by decide +kernel
theorem dX4_priceOf_72 : decode cX4_priceOf 72 = .ok (.lreturn, 1) := by decide +kernel
theorem dX4_finds_0 : decode cX4_finds 0 = .ok (.aload_n 0, 1) := by decide +kernel
theorem dX4_finds_1 : decode cX4_finds 1 = .ok (.getfield 36, 3) := by decide +kernel
theorem dX4_finds_4 : decode cX4_finds 4 = .ok (.iload_n 1, 1) := by decide +kernel
theorem dX4_finds_5 : decode cX4_finds 5 = .ok (.baload, 1) := by decide +kernel
theorem dX4_finds_6 : decode cX4_finds 6 = .ok (.ifCond .eq 7, 3) := by decide +kernel
theorem dX4_finds_9 : decode cX4_finds 9 = .ok (.iconst 0, 1) := by decide +kernel
theorem dX4_finds_10 : decode cX4_finds 10 = .ok (.goto 14, 3) := by decide +kernel
theorem dX4_finds_13 : decode cX4_finds 13 = .ok (.aload_n 0, 1) := by decide +kernel
theorem dX4_finds_14 : decode cX4_finds 14 = .ok (.getfield 29, 3) := by decide +kernel
theorem dX4_finds_17 : decode cX4_finds 17 = .ok (.iload_n 1, 1) := by decide +kernel
theorem dX4_finds_18 : decode cX4_finds 18 = .ok (.iaload, 1) := by decide +kernel
theorem dX4_finds_19 : decode cX4_finds 19 = .ok (.aload_n 0, 1) := by decide +kernel
theorem dX4_finds_20 : decode cX4_finds 20 = .ok (.getfield 89, 3) := by decide +kernel
theorem dX4_finds_23 : decode cX4_finds 23 = .ok (.isub, 1) := by decide +kernel
theorem dX4_finds_24 : decode cX4_finds 24 = .ok (.istore_n 3, 1) := by decide +kernel
theorem dX4_finds_25 : decode cX4_finds 25 = .ok (.iconst 0, 1) := by decide +kernel
theorem dX4_finds_26 : decode cX4_finds 26 = .ok (.istore 4, 2) := by decide +kernel
theorem dX4_finds_28 : decode cX4_finds 28 = .ok (.iload 4, 2) := by decide +kernel
theorem dX4_finds_30 : decode cX4_finds 30 = .ok (.iload_n 3, 1) := by decide +kernel
theorem dX4_finds_31 : decode cX4_finds 31 = .ok (.if_icmp .gt 47, 3) := by decide +kernel
theorem dX4_finds_34 : decode cX4_finds 34 = .ok (.aload_n 0, 1) := by decide +kernel
theorem dX4_finds_35 : decode cX4_finds 35 = .ok (.getfield 70, 3) := by decide +kernel
theorem dX4_finds_38 : decode cX4_finds 38 = .ok (.iload 4, 2) := by decide +kernel
theorem dX4_finds_40 : decode cX4_finds 40 = .ok (.aload_n 0, 1) := by decide +kernel
theorem dX4_finds_41 : decode cX4_finds 41 = .ok (.getfield 36, 3) := by decide +kernel
theorem dX4_finds_44 : decode cX4_finds 44 = .ok (.iload_n 1, 1) := by decide +kernel
theorem dX4_finds_45 : decode cX4_finds 45 = .ok (.baload, 1) := by decide +kernel
theorem dX4_finds_46 : decode cX4_finds 46 = .ok (.ifCond .eq 7, 3) := by decide +kernel
theorem dX4_finds_49 : decode cX4_finds 49 = .ok (.lconst 0, 1) := by decide +kernel
theorem dX4_finds_50 : decode cX4_finds 50 = .ok (.goto 21, 3) := by decide +kernel
theorem dX4_finds_53 : decode cX4_finds 53 = .ok (.aload_n 0, 1) := by decide +kernel
theorem dX4_finds_54 : decode cX4_finds 54 = .ok (.iload_n 1, 1) := by decide +kernel
theorem dX4_finds_55 : decode cX4_finds 55 = .ok (.aload_n 0, 1) := by decide +kernel
theorem dX4_finds_56 : decode cX4_finds 56 = .ok (.iload_n 2, 1) := by decide +kernel
theorem dX4_finds_57 : decode cX4_finds 57 = .ok (.aload_n 0, 1) := by decide +kernel
theorem dX4_finds_58 : decode cX4_finds 58 = .ok (.getfield 89, 3) := by decide +kernel
theorem dX4_finds_61 : decode cX4_finds 61 = .ok (.iload_n 3, 1) := by decide +kernel
theorem dX4_finds_62 : decode cX4_finds 62 = .ok (.iadd, 1) := by decide +kernel
theorem dX4_finds_63 : decode cX4_finds 63 = .ok (.iload 4, 2) := by decide +kernel
theorem dX4_finds_65 : decode cX4_finds 65 = .ok (.invokevirtual 92, 3) := by decide +kernel
theorem dX4_finds_68 : decode cX4_finds 68 = .ok (.invokevirtual 96, 3) := by decide +kernel
theorem dX4_finds_71 : decode cX4_finds 71 = .ok (.lastore, 1) := by decide +kernel
theorem dX4_finds_72 : decode cX4_finds 72 = .ok (.iinc 4 1, 3) := by decide +kernel
theorem dX4_finds_75 : decode cX4_finds 75 = .ok (.goto (-47), 3) := by decide +kernel
theorem dX4_finds_78 : decode cX4_finds 78 = .ok (.aload_n 0, 1) := by decide +kernel
theorem dX4_finds_79 : decode cX4_finds 79 = .ok (.lconst 1, 1) := by decide +kernel
theorem dX4_finds_80 : decode cX4_finds 80 = .ok (.putfield 100, 3) := by decide +kernel
theorem dX4_finds_83 : decode cX4_finds 83 = .ok (.iload_n 3, 1) := by decide +kernel
theorem dX4_finds_84 : decode cX4_finds 84 = .ok (.iconst 1, 1) := by decide +kernel
theorem dX4_finds_85 : decode cX4_finds 85 = .ok (.isub, 1) := by decide +kernel
theorem dX4_finds_86 : decode cX4_finds 86 = .ok (.istore 4, 2) := by decide +kernel
theorem dX4_finds_88 : decode cX4_finds 88 = .ok (.iload 4, 2) := by decide +kernel
theorem dX4_finds_90 : decode cX4_finds 90 = .ok (.ifCond .lt 136, 3) := by decide +kernel
theorem dX4_finds_93 : decode cX4_finds 93 = .ok (.aload_n 0, 1) := by decide +kernel
theorem dX4_finds_94 : decode cX4_finds 94 = .ok (.dup, 1) := by decide +kernel
theorem dX4_finds_95 : decode cX4_finds 95 = .ok (.getfield 100, 3) := by decide +kernel
theorem dX4_finds_98 : decode cX4_finds 98 = .ok (.aload_n 0, 1) := by decide +kernel
theorem dX4_finds_99 : decode cX4_finds 99 = .ok (.getfield 13, 3) := by decide +kernel
theorem dX4_finds_102 : decode cX4_finds 102 = .ok (.aload_n 0, 1) := by decide +kernel
theorem dX4_finds_103 : decode cX4_finds 103 = .ok (.getfield 16, 3) := by decide +kernel
theorem dX4_finds_106 : decode cX4_finds 106 = .ok (.iadd, 1) := by decide +kernel
theorem dX4_finds_107 : decode cX4_finds 107 = .ok (.i2l, 1) := by decide +kernel
theorem dX4_finds_108 : decode cX4_finds 108 = .ok (.lmul, 1) := by decide +kernel
theorem dX4_finds_109 : decode cX4_finds 109 = .ok (.putfield 100, 3) := by decide +kernel
theorem dX4_finds_112 : decode cX4_finds 112 = .ok (.iconst 0, 1) := by decide +kernel
theorem dX4_finds_113 : decode cX4_finds 113 = .ok (.istore 5, 2) := by decide +kernel
theorem dX4_finds_115 : decode cX4_finds 115 = .ok (.iload 5, 2) := by decide +kernel
theorem dX4_finds_117 : decode cX4_finds 117 = .ok (.iload 4, 2) := by decide +kernel
theorem dX4_finds_119 : decode cX4_finds 119 = .ok (.if_icmp .gt 101, 3) := by decide +kernel
theorem dX4_finds_122 : decode cX4_finds 122 = .ok (.aload_n 0, 1) := by decide +kernel
theorem dX4_finds_123 : decode cX4_finds 123 = .ok (.getfield 16, 3) := by decide +kernel
theorem dX4_finds_126 : decode cX4_finds 126 = .ok (.i2l, 1) := by decide +kernel
theorem dX4_finds_127 : decode cX4_finds 127 = .ok (.aload_n 0, 1) := by decide +kernel
theorem dX4_finds_128 : decode cX4_finds 128 = .ok (.getfield 70, 3) := by decide +kernel
theorem dX4_finds_131 : decode cX4_finds 131 = .ok (.iload 5, 2) := by decide +kernel
theorem dX4_finds_133 : decode cX4_finds 133 = .ok (.iconst 1, 1) := by decide +kernel
theorem dX4_finds_134 : decode cX4_finds 134 = .ok (.iadd, 1) := by decide +kernel
theorem dX4_finds_135 : decode cX4_finds 135 = .ok (.laload, 1) := by decide +kernel
theorem dX4_finds_136 : decode cX4_finds 136 = .ok (.lmul, 1) := by decide +kernel
theorem dX4_finds_137 : decode cX4_finds 137 = .ok (.aload_n 0, 1) := by decide +kernel
theorem dX4_finds_138 : decode cX4_finds 138 = .ok (.getfield 13, 3) := by decide +kernel
theorem dX4_finds_141 : decode cX4_finds 141 = .ok (.i2l, 1) := by decide +kernel
theorem dX4_finds_142 : decode cX4_finds 142 = .ok (.aload_n 0, 1) := by decide +kernel
theorem dX4_finds_143 : decode cX4_finds 143 = .ok (.getfield 70, 3) := by decide +kernel
theorem dX4_finds_146 : decode cX4_finds 146 = .ok (.iload 5, 2) := by decide +kernel
theorem dX4_finds_148 : decode cX4_finds 148 = .ok (.laload, 1) := by decide +kernel
theorem dX4_finds_149 : decode cX4_finds 149 = .ok (.lmul, 1) := by decide +kernel
theorem dX4_finds_150 : decode cX4_finds 150 = .ok (.ladd, 1) := by decide +kernel
theorem dX4_finds_151 : decode cX4_finds 151 = .ok (.lstore 6, 2) := by decide +kernel
theorem dX4_finds_153 : decode cX4_finds 153 = .ok (.aload_n 0, 1) := by decide +kernel
theorem dX4_finds_154 : decode cX4_finds 154 = .ok (.getfield 32, 3) := by decide +kernel
theorem dX4_finds_157 : decode cX4_finds 157 = .ok (.iload_n 1, 1) := by decide +kernel
theorem dX4_finds_158 : decode cX4_finds 158 = .ok (.baload, 1) := by decide +kernel
theorem dX4_finds_159 : decode cX4_finds 159 = .ok (.ifCond .eq 30, 3) := by decide +kernel
theorem dX4_finds_162 : decode cX4_finds 162 = .ok (.aload_n 0, 1) := by decide +kernel
theorem dX4_finds_163 : decode cX4_finds 163 = .ok (.iload_n 1, 1) := by decide +kernel
theorem dX4_finds_164 : decode cX4_finds 164 = .ok (.aload_n 0, 1) := by decide +kernel
theorem dX4_finds_165 : decode cX4_finds 165 = .ok (.iload_n 2, 1) := by decide +kernel
theorem dX4_finds_166 : decode cX4_finds 166 = .ok (.aload_n 0, 1) := by decide +kernel
theorem dX4_finds_167 : decode cX4_finds 167 = .ok (.getfield 89, 3) := by decide +kernel
theorem dX4_finds_170 : decode cX4_finds 170 = .ok (.iload 4, 2) := by decide +kernel
theorem dX4_finds_172 : decode cX4_finds 172 = .ok (.iadd, 1) := by decide +kernel
theorem dX4_finds_173 : decode cX4_finds 173 = .ok (.iload 5, 2) := by decide +kernel
theorem dX4_finds_175 : decode cX4_finds 175 = .ok (.invokevirtual 92, 3) := by decide +kernel
theorem dX4_finds_178 : decode cX4_finds 178 = .ok (.invokevirtual 96, 3) := by decide +kernel
theorem dX4_finds_181 : decode cX4_finds 181 = .ok (.aload_n 0, 1) := by decide +kernel
theorem dX4_finds_182 : decode cX4_finds 182 = .ok (.getfield 100, 3) := by decide +kernel
theorem dX4_finds_185 : decode cX4_finds 185 = .ok (.lmul, 1) := by decide +kernel
theorem dX4_finds_186 : decode cX4_finds 186 = .ok (.goto 4, 3) := by decide +kernel
theorem dX4_finds_189 : decode cX4_finds 189 = .ok (.lconst 0, 1) := by decide +kernel
theorem dX4_finds_190 : decode cX4_finds 190 = .ok (.lstore 8, 2) := by decide +kernel
theorem dX4_finds_192 : decode cX4_finds 192 = .ok (.aload_n 0, 1) := by decide +kernel
theorem dX4_finds_193 : decode cX4_finds 193 = .ok (.getfield 70, 3) := by decide +kernel
theorem dX4_finds_196 : decode cX4_finds 196 = .ok (.iload 5, 2) := by decide +kernel
theorem dX4_finds_198 : decode cX4_finds 198 = .ok (.lload 6, 2) := by decide +kernel
theorem dX4_finds_200 : decode cX4_finds 200 = .ok (.lload 8, 2) := by decide +kernel
theorem dX4_finds_202 : decode cX4_finds 202 = .ok (.lcmp, 1) := by decide +kernel
theorem dX4_finds_203 : decode cX4_finds 203 = .ok (.ifCond .le 8, 3) := by decide +kernel
theorem dX4_finds_206 : decode cX4_finds 206 = .ok (.lload 6, 2) := by decide +kernel
theorem dX4_finds_208 : decode cX4_finds 208 = .ok (.goto 5, 3) := by decide +kernel
theorem dX4_finds_211 : decode cX4_finds 211 = .ok (.lload 8, 2) := by decide +kernel
theorem dX4_finds_213 : decode cX4_finds 213 = .ok (.lastore, 1) := by decide +kernel
theorem dX4_finds_214 : decode cX4_finds 214 = .ok (.iinc 5 1, 3) := by decide +kernel
theorem dX4_finds_217 : decode cX4_finds 217 = .ok (.goto (-102), 3) := by decide +kernel
theorem dX4_finds_220 : decode cX4_finds 220 = .ok (.iinc 4 (-1), 3) := by decide +kernel
theorem dX4_finds_223 : decode cX4_finds 223 = .ok (.goto (-135), 3) := by decide +kernel
theorem dX4_finds_226 : decode cX4_finds 226 = .ok (.return_, 1) := by decide +kernel
theorem dX4_markAt_0 : decode cX4_markAt 0 = .ok (.aload_n 0, 1) := by decide +kernel
theorem dX4_markAt_1 : decode cX4_markAt 1 = .ok (.iload_n 1, 1) := by decide +kernel
theorem dX4_markAt_2 : decode cX4_markAt 2 = .ok (.iload_n 2, 1) := by decide +kernel
theorem dX4_markAt_3 : decode cX4_markAt 3 = .ok (.invokevirtual 104, 3) := by decide +kernel
theorem dX4_markAt_6 : decode cX4_markAt 6 = .ok (.aload_n 0, 1) := by decide +kernel
theorem dX4_markAt_7 : decode cX4_markAt 7 = .ok (.getfield 70, 3) := by decide +kernel
theorem dX4_markAt_10 : decode cX4_markAt 10 = .ok (.iconst 0, 1) := by decide +kernel
theorem dX4_markAt_11 : decode cX4_markAt 11 = .ok (.laload, 1) := by decide +kernel
theorem dX4_markAt_12 : decode cX4_markAt 12 = .ok (.aload_n 0, 1) := by decide +kernel
theorem dX4_markAt_13 : decode cX4_markAt 13 = .ok (.getfield 100, 3) := by decide +kernel
theorem dX4_markAt_16 : decode cX4_markAt 16 = .ok (.ldiv, 1) := by decide +kernel
theorem dX4_markAt_17 : decode cX4_markAt 17 = .ok (.ldc2_w 108, 3) := by decide +kernel
theorem dX4_markAt_20 : decode cX4_markAt 20 = .ok (.lmul, 1) := by decide +kernel
theorem dX4_markAt_21 : decode cX4_markAt 21 = .ok (.aload_n 0, 1) := by decide +kernel
theorem dX4_markAt_22 : decode cX4_markAt 22 = .ok (.getfield 70, 3) := by decide +kernel
theorem dX4_markAt_25 : decode cX4_markAt 25 = .ok (.iconst 0, 1) := by decide +kernel
theorem dX4_markAt_26 : decode cX4_markAt 26 = .ok (.laload, 1) := by decide +kernel
end
section
theorem dX4_markAt_27 : decode cX4_markAt 27 = .ok (.aload_n 0, 1) := by decide +kernel
theorem dX4_markAt_28 : decode cX4_markAt 28 = .ok (.getfield 100, 3) := by decide +kernel
theorem dX4_markAt_31 : decode cX4_markAt 31 = .ok (.lrem, 1) := by decide +kernel
theorem dX4_markAt_32 : decode cX4_markAt 32 = .ok (.ldc2_w 108, 3) := by decide +kernel
theorem dX4_markAt_35 : decode cX4_markAt 35 = .ok (.lmul, 1) := by decide +kernel
theorem dX4_markAt_36 : decode cX4_markAt 36 = .ok (.aload_n 0, 1) := by decide +kernel
theorem dX4_markAt_37 : decode cX4_markAt 37 = .ok (.getfield 100, 3) := by decide +kernel
theorem dX4_markAt_40 : decode cX4_markAt 40 = .ok (.ldiv, 1) := by decide +kernel
theorem dX4_markAt_41 : decode cX4_markAt 41 = .ok (.ladd, 1) := by decide +kernel
theorem dX4_markAt_42 : decode cX4_markAt 42 = .ok (.lreturn, 1) := by decide +kernel
theorem dX4_worthAt_0 : decode cX4_worthAt 0 = .ok (.aload_n 0, 1) := by decide +kernel
theorem dX4_worthAt_1 : decode cX4_worthAt 1 = .ok (.getfield 57, 3) := by decide +kernel
theorem dX4_worthAt_4 : decode cX4_worthAt 4 = .ok (.bipush 6, 2) := by decide +kernel
theorem dX4_worthAt_6 : decode cX4_worthAt 6 = .ok (.laload, 1) := by decide +kernel
theorem dX4_worthAt_7 : decode cX4_worthAt 7 = .ok (.ldc2_w 108, 3) := by decide +kernel
theorem dX4_worthAt_10 : decode cX4_worthAt 10 = .ok (.iload_n 1, 1) := by decide +kernel
theorem dX4_worthAt_11 : decode cX4_worthAt 11 = .ok (.i2l, 1) := by decide +kernel
theorem dX4_worthAt_12 : decode cX4_worthAt 12 = .ok (.lmul, 1) := by decide +kernel
theorem dX4_worthAt_13 : decode cX4_worthAt 13 = .ok (.aload_n 0, 1) := by decide +kernel
theorem dX4_worthAt_14 : decode cX4_worthAt 14 = .ok (.getfield 110, 3) := by decide +kernel
theorem dX4_worthAt_17 : decode cX4_worthAt 17 = .ok (.i2l, 1) := by decide +kernel
theorem dX4_worthAt_18 : decode cX4_worthAt 18 = .ok (.lmul, 1) := by decide +kernel
theorem dX4_worthAt_19 : decode cX4_worthAt 19 = .ok (.ladd, 1) := by decide +kernel
theorem dX4_worthAt_20 : decode cX4_worthAt 20 = .ok (.lstore_n 2, 1) := by decide +kernel
theorem dX4_worthAt_21 : decode cX4_worthAt 21 = .ok (.iconst 0, 1) := by decide +kernel
theorem dX4_worthAt_22 : decode cX4_worthAt 22 = .ok (.istore 4, 2) := by decide +kernel
theorem dX4_worthAt_24 : decode cX4_worthAt 24 = .ok (.iload 4, 2) := by decide +kernel
theorem dX4_worthAt_26 : decode cX4_worthAt 26 = .ok (.aload_n 0, 1) := by decide +kernel
theorem dX4_worthAt_27 : decode cX4_worthAt 27 = .ok (.getfield 76, 3) := by decide +kernel
theorem dX4_worthAt_30 : decode cX4_worthAt 30 = .ok (.if_icmp .ge 45, 3) := by decide +kernel
theorem dX4_worthAt_33 : decode cX4_worthAt 33 = .ok (.aload_n 0, 1) := by decide +kernel
theorem dX4_worthAt_34 : decode cX4_worthAt 34 = .ok (.getfield 51, 3) := by decide +kernel
theorem dX4_worthAt_37 : decode cX4_worthAt 37 = .ok (.iconst (-1), 1) := by decide +kernel
theorem dX4_worthAt_38 : decode cX4_worthAt 38 = .ok (.iload 4, 2) := by decide +kernel
theorem dX4_worthAt_40 : decode cX4_worthAt 40 = .ok (.invokestatic 113, 3) := by decide +kernel
theorem dX4_worthAt_43 : decode cX4_worthAt 43 = .ok (.iaload, 1) := by decide +kernel
theorem dX4_worthAt_44 : decode cX4_worthAt 44 = .ok (.istore 5, 2) := by decide +kernel
theorem dX4_worthAt_46 : decode cX4_worthAt 46 = .ok (.lload_n 2, 1) := by decide +kernel
theorem dX4_worthAt_47 : decode cX4_worthAt 47 = .ok (.iload 5, 2) := by decide +kernel
theorem dX4_worthAt_49 : decode cX4_worthAt 49 = .ok (.ifCond .ne 7, 3) := by decide +kernel
theorem dX4_worthAt_52 : decode cX4_worthAt 52 = .ok (.lconst 0, 1) := by decide +kernel
theorem dX4_worthAt_53 : decode cX4_worthAt 53 = .ok (.goto 14, 3) := by decide +kernel
theorem dX4_worthAt_56 : decode cX4_worthAt 56 = .ok (.iload 5, 2) := by decide +kernel
theorem dX4_worthAt_58 : decode cX4_worthAt 58 = .ok (.i2l, 1) := by decide +kernel
theorem dX4_worthAt_59 : decode cX4_worthAt 59 = .ok (.aload_n 0, 1) := by decide +kernel
theorem dX4_worthAt_60 : decode cX4_worthAt 60 = .ok (.iload 4, 2) := by decide +kernel
theorem dX4_worthAt_62 : decode cX4_worthAt 62 = .ok (.iload_n 1, 1) := by decide +kernel
theorem dX4_worthAt_63 : decode cX4_worthAt 63 = .ok (.invokevirtual 117, 3) := by decide +kernel
theorem dX4_worthAt_66 : decode cX4_worthAt 66 = .ok (.lmul, 1) := by decide +kernel
theorem dX4_worthAt_67 : decode cX4_worthAt 67 = .ok (.ladd, 1) := by decide +kernel
theorem dX4_worthAt_68 : decode cX4_worthAt 68 = .ok (.lstore_n 2, 1) := by decide +kernel
theorem dX4_worthAt_69 : decode cX4_worthAt 69 = .ok (.iinc 4 1, 3) := by decide +kernel
theorem dX4_worthAt_72 : decode cX4_worthAt 72 = .ok (.goto (-48), 3) := by decide +kernel
theorem dX4_worthAt_75 : decode cX4_worthAt 75 = .ok (.lload_n 2, 1) := by decide +kernel
theorem dX4_worthAt_76 : decode cX4_worthAt 76 = .ok (.lreturn, 1) := by decide +kernel
theorem dX4_steps_0 : decode cX4_steps 0 = .ok (.aload_n 0, 1) := by decide +kernel
theorem dX4_steps_1 : decode cX4_steps 1 = .ok (.iload_n 1, 1) := by decide +kernel
theorem dX4_steps_2 : decode cX4_steps 2 = .ok (.i2l, 1) := by decide +kernel
theorem dX4_steps_3 : decode cX4_steps 3 = .ok (.lconst 1, 1) := by decide +kernel
theorem dX4_steps_4 : decode cX4_steps 4 = .ok (.ldc2_w 87, 3) := by decide +kernel
theorem dX4_steps_7 : decode cX4_steps 7 = .ok (.invokestatic 79, 3) := by decide +kernel
theorem dX4_steps_10 : decode cX4_steps 10 = .ok (.ifCond .eq 19, 3) := by decide +kernel
theorem dX4_steps_13 : decode cX4_steps 13 = .ok (.iload_n 2, 1) := by decide +kernel
theorem dX4_steps_14 : decode cX4_steps 14 = .ok (.i2l, 1) := by decide +kernel
theorem dX4_steps_15 : decode cX4_steps 15 = .ok (.lconst 1, 1) := by decide +kernel
theorem dX4_steps_16 : decode cX4_steps 16 = .ok (.ldc2_w 87, 3) := by decide +kernel
theorem dX4_steps_19 : decode cX4_steps 19 = .ok (.invokestatic 79, 3) := by decide +kernel
theorem dX4_steps_22 : decode cX4_steps 22 = .ok (.ifCond .eq 7, 3) := by decide +kernel
theorem dX4_steps_25 : decode cX4_steps 25 = .ok (.iconst 0, 1) := by decide +kernel
theorem dX4_steps_26 : decode cX4_steps 26 = .ok (.goto 4, 3) := by decide +kernel
theorem dX4_steps_29 : decode cX4_steps 29 = .ok (.iconst 1, 1) := by decide +kernel
theorem dX4_steps_30 : decode cX4_steps 30 = .ok (.putfield 73, 3) := by decide +kernel
theorem dX4_steps_33 : decode cX4_steps 33 = .ok (.aload_n 0, 1) := by decide +kernel
theorem dX4_steps_34 : decode cX4_steps 34 = .ok (.getfield 73, 3) := by decide +kernel
theorem dX4_steps_37 : decode cX4_steps 37 = .ok (.ifCond .ne 41, 3) := by decide +kernel
theorem dX4_steps_40 : decode cX4_steps 40 = .ok (.aload_n 0, 1) := by decide +kernel
theorem dX4_steps_41 : decode cX4_steps 41 = .ok (.aload_n 0, 1) := by decide +kernel
theorem dX4_steps_42 : decode cX4_steps 42 = .ok (.getfield 7, 3) := by decide +kernel
theorem dX4_steps_45 : decode cX4_steps 45 = .ok (.invokevirtual 121, 3) := by decide +kernel
theorem dX4_steps_48 : decode cX4_steps 48 = .ok (.lstore_n 3, 1) := by decide +kernel
theorem dX4_steps_49 : decode cX4_steps 49 = .ok (.aload_n 0, 1) := by decide +kernel
theorem dX4_steps_50 : decode cX4_steps 50 = .ok (.iload_n 1, 1) := by decide +kernel
theorem dX4_steps_51 : decode cX4_steps 51 = .ok (.putfield 13, 3) := by decide +kernel
theorem dX4_steps_54 : decode cX4_steps 54 = .ok (.aload_n 0, 1) := by decide +kernel
theorem dX4_steps_55 : decode cX4_steps 55 = .ok (.iload_n 2, 1) := by decide +kernel
theorem dX4_steps_56 : decode cX4_steps 56 = .ok (.putfield 16, 3) := by decide +kernel
theorem dX4_steps_59 : decode cX4_steps 59 = .ok (.aload_n 0, 1) := by decide +kernel
theorem dX4_steps_60 : decode cX4_steps 60 = .ok (.getfield 67, 3) := by decide +kernel
theorem dX4_steps_63 : decode cX4_steps 63 = .ok (.iconst 5, 1) := by decide +kernel
theorem dX4_steps_64 : decode cX4_steps 64 = .ok (.dup2, 1) := by decide +kernel
theorem dX4_steps_65 : decode cX4_steps 65 = .ok (.laload, 1) := by decide +kernel
theorem dX4_steps_66 : decode cX4_steps 66 = .ok (.aload_n 0, 1) := by decide +kernel
theorem dX4_steps_67 : decode cX4_steps 67 = .ok (.aload_n 0, 1) := by decide +kernel
theorem dX4_steps_68 : decode cX4_steps 68 = .ok (.getfield 7, 3) := by decide +kernel
theorem dX4_steps_71 : decode cX4_steps 71 = .ok (.invokevirtual 121, 3) := by decide +kernel
theorem dX4_steps_74 : decode cX4_steps 74 = .ok (.lload_n 3, 1) := by decide +kernel
theorem dX4_steps_75 : decode cX4_steps 75 = .ok (.lsub, 1) := by decide +kernel
theorem dX4_steps_76 : decode cX4_steps 76 = .ok (.ladd, 1) := by decide +kernel
theorem dX4_steps_77 : decode cX4_steps 77 = .ok (.lastore, 1) := by decide +kernel
theorem dX4_steps_78 : decode cX4_steps 78 = .ok (.return_, 1) := by decide +kernel
theorem dX4_move_0 : decode cX4_move 0 = .ok (.aload_n 0, 1) := by decide +kernel
theorem dX4_move_1 : decode cX4_move 1 = .ok (.iload_n 1, 1) := by decide +kernel
theorem dX4_move_2 : decode cX4_move 2 = .ok (.i2l, 1) := by decide +kernel
theorem dX4_move_3 : decode cX4_move 3 = .ok (.lconst 0, 1) := by decide +kernel
theorem dX4_move_4 : decode cX4_move 4 = .ok (.ldc2_w 125, 3) := by decide +kernel
theorem dX4_move_7 : decode cX4_move 7 = .ok (.invokestatic 79, 3) := by decide +kernel
theorem dX4_move_10 : decode cX4_move 10 = .ok (.ifCond .eq 7, 3) := by decide +kernel
theorem dX4_move_13 : decode cX4_move 13 = .ok (.iconst 0, 1) := by decide +kernel
theorem dX4_move_14 : decode cX4_move 14 = .ok (.goto 4, 3) := by decide +kernel
theorem dX4_move_17 : decode cX4_move 17 = .ok (.iconst 1, 1) := by decide +kernel
theorem dX4_move_18 : decode cX4_move 18 = .ok (.putfield 73, 3) := by decide +kernel
theorem dX4_move_21 : decode cX4_move 21 = .ok (.aload_n 0, 1) := by decide +kernel
theorem dX4_move_22 : decode cX4_move 22 = .ok (.getfield 73, 3) := by decide +kernel
theorem dX4_move_25 : decode cX4_move 25 = .ok (.ifCond .le 5, 3) := by decide +kernel
theorem dX4_move_28 : decode cX4_move 28 = .ok (.lconst 0, 1) := by decide +kernel
theorem dX4_move_29 : decode cX4_move 29 = .ok (.lreturn, 1) := by decide +kernel
theorem dX4_move_30 : decode cX4_move 30 = .ok (.aload_n 0, 1) := by decide +kernel
theorem dX4_move_31 : decode cX4_move 31 = .ok (.iload_n 1, 1) := by decide +kernel
theorem dX4_move_32 : decode cX4_move 32 = .ok (.invokevirtual 121, 3) := by decide +kernel
theorem dX4_move_35 : decode cX4_move 35 = .ok (.aload_n 0, 1) := by decide +kernel
theorem dX4_move_36 : decode cX4_move 36 = .ok (.aload_n 0, 1) := by decide +kernel
theorem dX4_move_37 : decode cX4_move 37 = .ok (.getfield 7, 3) := by decide +kernel
theorem dX4_move_40 : decode cX4_move 40 = .ok (.invokevirtual 121, 3) := by decide +kernel
theorem dX4_move_43 : decode cX4_move 43 = .ok (.lsub, 1) := by decide +kernel
theorem dX4_move_44 : decode cX4_move 44 = .ok (.lstore_n 2, 1) := by decide +kernel
theorem dX4_move_45 : decode cX4_move 45 = .ok (.aload_n 0, 1) := by decide +kernel
theorem dX4_move_46 : decode cX4_move 46 = .ok (.iload_n 1, 1) := by decide +kernel
theorem dX4_move_47 : decode cX4_move 47 = .ok (.putfield 7, 3) := by decide +kernel
theorem dX4_move_50 : decode cX4_move 50 = .ok (.aload_n 0, 1) := by decide +kernel
theorem dX4_move_51 : decode cX4_move 51 = .ok (.getfield 67, 3) := by decide +kernel
theorem dX4_move_54 : decode cX4_move 54 = .ok (.iconst 1, 1) := by decide +kernel
theorem dX4_move_55 : decode cX4_move 55 = .ok (.dup2, 1) := by decide +kernel
theorem dX4_move_56 : decode cX4_move 56 = .ok (.laload, 1) := by decide +kernel
theorem dX4_move_57 : decode cX4_move 57 = .ok (.lload_n 2, 1) := by decide +kernel
theorem dX4_move_58 : decode cX4_move 58 = .ok (.ladd, 1) := by decide +kernel
theorem dX4_move_59 : decode cX4_move 59 = .ok (.lastore, 1) := by decide +kernel
theorem dX4_move_60 : decode cX4_move 60 = .ok (.lload_n 2, 1) := by decide +kernel
theorem dX4_move_61 : decode cX4_move 61 = .ok (.lreturn, 1) := by decide +kernel
theorem dX4_dividend_0 : decode cX4_dividend 0 = .ok (.aload_n 0, 1) := by decide +kernel
theorem dX4_dividend_1 : decode cX4_dividend 1 = .ok (.iload_n 1, 1) := by decide +kernel
theorem dX4_dividend_2 : decode cX4_dividend 2 = .ok (.i2l, 1) := by decide +kernel
theorem dX4_dividend_3 : decode cX4_dividend 3 = .ok (.aload_n 0, 1) := by decide +kernel
theorem dX4_dividend_4 : decode cX4_dividend 4 = .ok (.getfield 89, 3) := by decide +kernel
theorem dX4_dividend_7 : decode cX4_dividend 7 = .ok (.iconst 1, 1) := by decide +kernel
theorem dX4_dividend_8 : decode cX4_dividend 8 = .ok (.iadd, 1) := by decide +kernel
theorem dX4_dividend_9 : decode cX4_dividend 9 = .ok (.i2l, 1) := by decide +kernel
theorem dX4_dividend_10 : decode cX4_dividend 10 = .ok (.ldc2_w 127, 3) := by decide +kernel
theorem dX4_dividend_13 : decode cX4_dividend 13 = .ok (.invokestatic 79, 3) := by decide +kernel
theorem dX4_dividend_16 : decode cX4_dividend 16 = .ok (.ifCond .eq 19, 3) := by decide +kernel
theorem dX4_dividend_19 : decode cX4_dividend 19 = .ok (.iload_n 2, 1) := by decide +kernel
theorem dX4_dividend_20 : decode cX4_dividend 20 = .ok (.i2l, 1) := by decide +kernel
theorem dX4_dividend_21 : decode cX4_dividend 21 = .ok (.lconst 0, 1) := by decide +kernel
theorem dX4_dividend_22 : decode cX4_dividend 22 = .ok (.ldc2_w 108, 3) := by decide +kernel
theorem dX4_dividend_25 : decode cX4_dividend 25 = .ok (.invokestatic 79, 3) := by decide +kernel
theorem dX4_dividend_28 : decode cX4_dividend 28 = .ok (.ifCond .eq 7, 3) := by decide +kernel
theorem dX4_dividend_31 : decode cX4_dividend 31 = .ok (.iconst 0, 1) := by decide +kernel
theorem dX4_dividend_32 : decode cX4_dividend 32 = .ok (.goto 4, 3) := by decide +kernel
theorem dX4_dividend_35 : decode cX4_dividend 35 = .ok (.iconst 1, 1) := by decide +kernel
theorem dX4_dividend_36 : decode cX4_dividend 36 = .ok (.putfield 73, 3) := by decide +kernel
theorem dX4_dividend_39 : decode cX4_dividend 39 = .ok (.aload_n 0, 1) := by decide +kernel
theorem dX4_dividend_40 : decode cX4_dividend 40 = .ok (.getfield 73, 3) := by decide +kernel
theorem dX4_dividend_43 : decode cX4_dividend 43 = .ok (.ifCond .le 5, 3) := by decide +kernel
theorem dX4_dividend_46 : decode cX4_dividend 46 = .ok (.iconst 0, 1) := by decide +kernel
theorem dX4_dividend_47 : decode cX4_dividend 47 = .ok (.ireturn, 1) := by decide +kernel
theorem dX4_dividend_48 : decode cX4_dividend 48 = .ok (.aload_n 0, 1) := by decide +kernel
theorem dX4_dividend_49 : decode cX4_dividend 49 = .ok (.aload_n 0, 1) := by decide +kernel
theorem dX4_dividend_50 : decode cX4_dividend 50 = .ok (.getfield 7, 3) := by decide +kernel
theorem dX4_dividend_53 : decode cX4_dividend 53 = .ok (.invokevirtual 121, 3) := by decide +kernel
theorem dX4_dividend_56 : decode cX4_dividend 56 = .ok (.lstore_n 3, 1) := by decide +kernel
theorem dX4_dividend_57 : decode cX4_dividend 57 = .ok (.aload_n 0, 1) := by decide +kernel
theorem dX4_dividend_58 : decode cX4_dividend 58 = .ok (.getfield 19, 3) := by decide +kernel
theorem dX4_dividend_61 : decode cX4_dividend 61 = .ok (.iload_n 1, 1) := by decide +kernel
theorem dX4_dividend_62 : decode cX4_dividend 62 = .ok (.iaload, 1) := by decide +kernel
theorem dX4_dividend_63 : decode cX4_dividend 63 = .ok (.istore 5, 2) := by decide +kernel
theorem dX4_dividend_65 : decode cX4_dividend 65 = .ok (.aload_n 0, 1) := by decide +kernel
theorem dX4_dividend_66 : decode cX4_dividend 66 = .ok (.getfield 19, 3) := by decide +kernel
theorem dX4_dividend_69 : decode cX4_dividend 69 = .ok (.iload_n 1, 1) := by decide +kernel
theorem dX4_dividend_70 : decode cX4_dividend 70 = .ok (.iload_n 2, 1) := by decide +kernel
theorem dX4_dividend_71 : decode cX4_dividend 71 = .ok (.iastore, 1) := by decide +kernel
theorem dX4_dividend_72 : decode cX4_dividend 72 = .ok (.aload_n 0, 1) := by decide +kernel
theorem dX4_dividend_73 : decode cX4_dividend 73 = .ok (.getfield 67, 3) := by decide +kernel
theorem dX4_dividend_76 : decode cX4_dividend 76 = .ok (.iconst 5, 1) := by decide +kernel
theorem dX4_dividend_77 : decode cX4_dividend 77 = .ok (.dup2, 1) := by decide +kernel
theorem dX4_dividend_78 : decode cX4_dividend 78 = .ok (.laload, 1) := by decide +kernel
theorem dX4_dividend_79 : decode cX4_dividend 79 = .ok (.aload_n 0, 1) := by decide +kernel
theorem dX4_dividend_80 : decode cX4_dividend 80 = .ok (.aload_n 0, 1) := by decide +kernel
theorem dX4_dividend_81 : decode cX4_dividend 81 = .ok (.getfield 7, 3) := by decide +kernel
theorem dX4_dividend_84 : decode cX4_dividend 84 = .ok (.invokevirtual 121, 3) := by decide +kernel
theorem dX4_dividend_87 : decode cX4_dividend 87 = .ok (.lload_n 3, 1) := by decide +kernel
theorem dX4_dividend_88 : decode cX4_dividend 88 = .ok (.lsub, 1) := by decide +kernel
theorem dX4_dividend_89 : decode cX4_dividend 89 = .ok (.ladd, 1) := by decide +kernel
theorem dX4_dividend_90 : decode cX4_dividend 90 = .ok (.lastore, 1) := by decide +kernel
theorem dX4_dividend_91 : decode cX4_dividend 91 = .ok (.iload 5, 2) := by decide +kernel
theorem dX4_dividend_93 : decode cX4_dividend 93 = .ok (.ireturn, 1) := by decide +kernel
theorem dX4_contract_0 : decode cX4_contract 0 = .ok (.iload_n 1, 1) := by decide +kernel
theorem dX4_contract_1 : decode cX4_contract 1 = .ok (.i2l, 1) := by decide +kernel
theorem dX4_contract_2 : decode cX4_contract 2 = .ok (.lconst 0, 1) := by decide +kernel
theorem dX4_contract_3 : decode cX4_contract 3 = .ok (.lconst 1, 1) := by decide +kernel
theorem dX4_contract_4 : decode cX4_contract 4 = .ok (.invokestatic 79, 3) := by decide +kernel
theorem dX4_contract_7 : decode cX4_contract 7 = .ok (.ifCond .eq 47, 3) := by decide +kernel
theorem dX4_contract_10 : decode cX4_contract 10 = .ok (.iload_n 2, 1) := by decide +kernel
theorem dX4_contract_11 : decode cX4_contract 11 = .ok (.i2l, 1) := by decide +kernel
theorem dX4_contract_12 : decode cX4_contract 12 = .ok (.lconst 0, 1) := by decide +kernel
theorem dX4_contract_13 : decode cX4_contract 13 = .ok (.ldc2_w 125, 3) := by decide +kernel
theorem dX4_contract_16 : decode cX4_contract 16 = .ok (.invokestatic 79, 3) := by decide +kernel
theorem dX4_contract_19 : decode cX4_contract 19 = .ok (.ifCond .eq 35, 3) := by decide +kernel
theorem dX4_contract_22 : decode cX4_contract 22 = .ok (.iload_n 3, 1) := by decide +kernel
theorem dX4_contract_23 : decode cX4_contract 23 = .ok (.i2l, 1) := by decide +kernel
theorem dX4_contract_24 : decode cX4_contract 24 = .ok (.aload_n 0, 1) := by decide +kernel
theorem dX4_contract_25 : decode cX4_contract 25 = .ok (.getfield 89, 3) := by decide +kernel
theorem dX4_contract_28 : decode cX4_contract 28 = .ok (.i2l, 1) := by decide +kernel
theorem dX4_contract_29 : decode cX4_contract 29 = .ok (.aload_n 0, 1) := by decide +kernel
theorem dX4_contract_30 : decode cX4_contract 30 = .ok (.getfield 89, 3) := by decide +kernel
theorem dX4_contract_33 : decode cX4_contract 33 = .ok (.bipush 10, 2) := by decide +kernel
theorem dX4_contract_35 : decode cX4_contract 35 = .ok (.iadd, 1) := by decide +kernel
theorem dX4_contract_36 : decode cX4_contract 36 = .ok (.i2l, 1) := by decide +kernel
theorem dX4_contract_37 : decode cX4_contract 37 = .ok (.invokestatic 79, 3) := by decide +kernel
theorem dX4_contract_40 : decode cX4_contract 40 = .ok (.ifCond .eq 14, 3) := by decide +kernel
theorem dX4_contract_43 : decode cX4_contract 43 = .ok (.iload_n 3, 1) := by decide +kernel
theorem dX4_contract_44 : decode cX4_contract 44 = .ok (.sipush 200, 3) := by decide +kernel
theorem dX4_contract_47 : decode cX4_contract 47 = .ok (.if_icmp .gt 7, 3) := by decide +kernel
theorem dX4_contract_50 : decode cX4_contract 50 = .ok (.iconst 1, 1) := by decide +kernel
theorem dX4_contract_51 : decode cX4_contract 51 = .ok (.goto 4, 3) := by decide +kernel
theorem dX4_contract_54 : decode cX4_contract 54 = .ok (.iconst 0, 1) := by decide +kernel
theorem dX4_contract_55 : decode cX4_contract 55 = .ok (.istore 5, 2) := by decide +kernel
theorem dX4_contract_57 : decode cX4_contract 57 = .ok (.aload_n 0, 1) := by decide +kernel
theorem dX4_contract_58 : decode cX4_contract 58 = .ok (.iload 5, 2) := by decide +kernel
theorem dX4_contract_60 : decode cX4_contract 60 = .ok (.ifCond .ne 7, 3) := by decide +kernel
theorem dX4_contract_63 : decode cX4_contract 63 = .ok (.iconst 1, 1) := by decide +kernel
theorem dX4_contract_64 : decode cX4_contract 64 = .ok (.goto 17, 3) := by decide +kernel
theorem dX4_contract_67 : decode cX4_contract 67 = .ok (.aload_n 0, 1) := by decide +kernel
theorem dX4_contract_68 : decode cX4_contract 68 = .ok (.getfield 76, 3) := by decide +kernel
theorem dX4_contract_71 : decode cX4_contract 71 = .ok (.bipush 12, 2) := by decide +kernel
theorem dX4_contract_73 : decode cX4_contract 73 = .ok (.if_icmp .ne 7, 3) := by decide +kernel
theorem dX4_contract_76 : decode cX4_contract 76 = .ok (.iconst 2, 1) := by decide +kernel
theorem dX4_contract_77 : decode cX4_contract 77 = .ok (.goto 4, 3) := by decide +kernel
theorem dX4_contract_80 : decode cX4_contract 80 = .ok (.iconst 0, 1) := by decide +kernel
theorem dX4_contract_81 : decode cX4_contract 81 = .ok (.putfield 73, 3) := by decide +kernel
theorem dX4_contract_84 : decode cX4_contract 84 = .ok (.aload_n 0, 1) := by decide +kernel
theorem dX4_contract_85 : decode cX4_contract 85 = .ok (.getfield 73, 3) := by decide +kernel
theorem dX4_contract_88 : decode cX4_contract 88 = .ok (.ifCond .le 5, 3) := by decide +kernel
theorem dX4_contract_91 : decode cX4_contract 91 = .ok (.iconst 0, 1) := by decide +kernel
theorem dX4_contract_92 : decode cX4_contract 92 = .ok (.ireturn, 1) := by decide +kernel
theorem dX4_contract_93 : decode cX4_contract 93 = .ok (.aload_n 0, 1) := by decide +kernel
theorem dX4_contract_94 : decode cX4_contract 94 = .ok (.getfield 23, 3) := by decide +kernel
theorem dX4_contract_97 : decode cX4_contract 97 = .ok (.aload_n 0, 1) := by decide +kernel
theorem dX4_contract_98 : decode cX4_contract 98 = .ok (.getfield 76, 3) := by decide +kernel
theorem dX4_contract_101 : decode cX4_contract 101 = .ok (.iload_n 1, 1) := by decide +kernel
theorem dX4_contract_102 : decode cX4_contract 102 = .ok (.iastore, 1) := by decide +kernel
theorem dX4_contract_103 : decode cX4_contract 103 = .ok (.aload_n 0, 1) := by decide +kernel
theorem dX4_contract_104 : decode cX4_contract 104 = .ok (.getfield 26, 3) := by decide +kernel
theorem dX4_contract_107 : decode cX4_contract 107 = .ok (.aload_n 0, 1) := by decide +kernel
theorem dX4_contract_108 : decode cX4_contract 108 = .ok (.getfield 76, 3) := by decide +kernel
theorem dX4_contract_111 : decode cX4_contract 111 = .ok (.iload_n 2, 1) := by decide +kernel
theorem dX4_contract_112 : decode cX4_contract 112 = .ok (.iastore, 1) := by decide +kernel
theorem dX4_contract_113 : decode cX4_contract 113 = .ok (.aload_n 0, 1) := by decide +kernel
theorem dX4_contract_114 : decode cX4_contract 114 = .ok (.getfield 29, 3) := by decide +kernel
theorem dX4_contract_117 : decode cX4_contract 117 = .ok (.aload_n 0, 1) := by decide +kernel
theorem dX4_contract_118 : decode cX4_contract 118 = .ok (.getfield 76, 3) := by decide +kernel
theorem dX4_contract_121 : decode cX4_contract 121 = .ok (.iload_n 3, 1) := by decide +kernel
theorem dX4_contract_122 : decode cX4_contract 122 = .ok (.iastore, 1) := by decide +kernel
theorem dX4_contract_123 : decode cX4_contract 123 = .ok (.aload_n 0, 1) := by decide +kernel
theorem dX4_contract_124 : decode cX4_contract 124 = .ok (.getfield 32, 3) := by decide +kernel
theorem dX4_contract_127 : decode cX4_contract 127 = .ok (.aload_n 0, 1) := by decide +kernel
theorem dX4_contract_128 : decode cX4_contract 128 = .ok (.getfield 76, 3) := by decide +kernel
theorem dX4_contract_131 : decode cX4_contract 131 = .ok (.iload 4, 2) := by decide +kernel
theorem dX4_contract_133 : decode cX4_contract 133 = .ok (.bastore, 1) := by decide +kernel
theorem dX4_contract_134 : decode cX4_contract 134 = .ok (.aload_n 0, 1) := by decide +kernel
theorem dX4_contract_135 : decode cX4_contract 135 = .ok (.dup, 1) := by decide +kernel
theorem dX4_contract_136 : decode cX4_contract 136 = .ok (.getfield 76, 3) := by decide +kernel
theorem dX4_contract_139 : decode cX4_contract 139 = .ok (.iconst 1, 1) := by decide +kernel
theorem dX4_contract_140 : decode cX4_contract 140 = .ok (.iadd, 1) := by decide +kernel
theorem dX4_contract_141 : decode cX4_contract 141 = .ok (.putfield 76, 3) := by decide +kernel
theorem dX4_contract_144 : decode cX4_contract 144 = .ok (.aload_n 0, 1) := by decide +kernel
theorem dX4_contract_145 : decode cX4_contract 145 = .ok (.getfield 76, 3) := by decide +kernel
theorem dX4_contract_148 : decode cX4_contract 148 = .ok (.iconst 1, 1) := by decide +kernel
theorem dX4_contract_149 : decode cX4_contract 149 = .ok (.isub, 1) := by decide +kernel
theorem dX4_contract_150 : decode cX4_contract 150 = .ok (.ireturn, 1) := by decide +kernel
theorem dX4_isAlike_0 : decode cX4_isAlike 0 = .ok (.aload_n 0, 1) := by decide +kernel
theorem dX4_isAlike_1 : decode cX4_isAlike 1 = .ok (.getfield 23, 3) := by decide +kernel
theorem dX4_isAlike_4 : decode cX4_isAlike 4 = .ok (.iload_n 1, 1) := by decide +kernel
theorem dX4_isAlike_5 : decode cX4_isAlike 5 = .ok (.iaload, 1) := by decide +kernel
theorem dX4_isAlike_6 : decode cX4_isAlike 6 = .ok (.aload_n 0, 1) := by decide +kernel
theorem dX4_isAlike_7 : decode cX4_isAlike 7 = .ok (.getfield 23, 3) := by decide +kernel
theorem dX4_isAlike_10 : decode cX4_isAlike 10 = .ok (.iload_n 2, 1) := by decide +kernel
theorem dX4_isAlike_11 : decode cX4_isAlike 11 = .ok (.iaload, 1) := by decide +kernel
theorem dX4_isAlike_12 : decode cX4_isAlike 12 = .ok (.if_icmp .ne 22, 3) := by decide +kernel
theorem dX4_isAlike_15 : decode cX4_isAlike 15 = .ok (.aload_n 0, 1) := by decide +kernel
theorem dX4_isAlike_16 : decode cX4_isAlike 16 = .ok (.getfield 32, 3) := by decide +kernel
theorem dX4_isAlike_19 : decode cX4_isAlike 19 = .ok (.iload_n 1, 1) := by decide +kernel
theorem dX4_isAlike_20 : decode cX4_isAlike 20 = .ok (.baload, 1) := by decide +kernel
theorem dX4_isAlike_21 : decode cX4_isAlike 21 = .ok (.aload_n 0, 1) := by decide +kernel
theorem dX4_isAlike_22 : decode cX4_isAlike 22 = .ok (.getfield 32, 3) := by decide +kernel
theorem dX4_isAlike_25 : decode cX4_isAlike 25 = .ok (.iload_n 2, 1) := by decide +kernel
theorem dX4_isAlike_26 : decode cX4_isAlike 26 = .ok (.baload, 1) := by decide +kernel
theorem dX4_isAlike_27 : decode cX4_isAlike 27 = .ok (.if_icmp .ne 7, 3) := by decide +kernel
theorem dX4_isAlike_30 : decode cX4_isAlike 30 = .ok (.iconst 1, 1) := by decide +kernel
theorem dX4_isAlike_31 : decode cX4_isAlike 31 = .ok (.goto 4, 3) := by decide +kernel
theorem dX4_isAlike_34 : decode cX4_isAlike 34 = .ok (.iconst 0, 1) := by decide +kernel
theorem dX4_isAlike_35 : decode cX4_isAlike 35 = .ok (.istore 4, 2) := by decide +kernel
theorem dX4_isAlike_37 : decode cX4_isAlike 37 = .ok (.iload 4, 2) := by decide +kernel
theorem dX4_isAlike_39 : decode cX4_isAlike 39 = .ok (.ifCond .eq 74, 3) := by decide +kernel
theorem dX4_isAlike_42 : decode cX4_isAlike 42 = .ok (.iload_n 3, 1) := by decide +kernel
theorem dX4_isAlike_43 : decode cX4_isAlike 43 = .ok (.ifCond .eq 36, 3) := by decide +kernel
theorem dX4_isAlike_46 : decode cX4_isAlike 46 = .ok (.aload_n 0, 1) := by decide +kernel
theorem dX4_isAlike_47 : decode cX4_isAlike 47 = .ok (.getfield 29, 3) := by decide +kernel
theorem dX4_isAlike_50 : decode cX4_isAlike 50 = .ok (.iload_n 1, 1) := by decide +kernel
theorem dX4_isAlike_51 : decode cX4_isAlike 51 = .ok (.iaload, 1) := by decide +kernel
theorem dX4_isAlike_52 : decode cX4_isAlike 52 = .ok (.aload_n 0, 1) := by decide +kernel
theorem dX4_isAlike_53 : decode cX4_isAlike 53 = .ok (.getfield 29, 3) := by decide +kernel
theorem dX4_isAlike_56 : decode cX4_isAlike 56 = .ok (.iload_n 2, 1) := by decide +kernel
theorem dX4_isAlike_57 : decode cX4_isAlike 57 = .ok (.iaload, 1) := by decide +kernel
theorem dX4_isAlike_58 : decode cX4_isAlike 58 = .ok (.if_icmp .ne 55, 3) := by decide +kernel
theorem dX4_isAlike_61 : decode cX4_isAlike 61 = .ok (.aload_n 0, 1) := by decide +kernel
theorem dX4_isAlike_62 : decode cX4_isAlike 62 = .ok (.getfield 26, 3) := by decide +kernel
theorem dX4_isAlike_65 : decode cX4_isAlike 65 = .ok (.iload_n 1, 1) := by decide +kernel
theorem dX4_isAlike_66 : decode cX4_isAlike 66 = .ok (.iaload, 1) := by decide +kernel
theorem dX4_isAlike_67 : decode cX4_isAlike 67 = .ok (.aload_n 0, 1) := by decide +kernel
theorem dX4_isAlike_68 : decode cX4_isAlike 68 = .ok (.getfield 26, 3) := by decide +kernel
theorem dX4_isAlike_71 : decode cX4_isAlike 71 = .ok (.iload_n 2, 1) := by decide +kernel
theorem dX4_isAlike_72 : decode cX4_isAlike 72 = .ok (.iaload, 1) := by decide +kernel
theorem dX4_isAlike_73 : decode cX4_isAlike 73 = .ok (.if_icmp .eq 40, 3) := by decide +kernel
theorem dX4_isAlike_76 : decode cX4_isAlike 76 = .ok (.goto 33, 3) := by decide +kernel
theorem dX4_isAlike_79 : decode cX4_isAlike 79 = .ok (.aload_n 0, 1) := by decide +kernel
theorem dX4_isAlike_80 : decode cX4_isAlike 80 = .ok (.getfield 26, 3) := by decide +kernel
theorem dX4_isAlike_83 : decode cX4_isAlike 83 = .ok (.iload_n 1, 1) := by decide +kernel
theorem dX4_isAlike_84 : decode cX4_isAlike 84 = .ok (.iaload, 1) := by decide +kernel
theorem dX4_isAlike_85 : decode cX4_isAlike 85 = .ok (.aload_n 0, 1) := by decide +kernel
theorem dX4_isAlike_86 : decode cX4_isAlike 86 = .ok (.getfield 26, 3) := by decide +kernel
theorem dX4_isAlike_89 : decode cX4_isAlike 89 = .ok (.iload_n 2, 1) := by decide +kernel
theorem dX4_isAlike_90 : decode cX4_isAlike 90 = .ok (.iaload, 1) := by decide +kernel
theorem dX4_isAlike_91 : decode cX4_isAlike 91 = .ok (.if_icmp .ne 22, 3) := by decide +kernel
theorem dX4_isAlike_94 : decode cX4_isAlike 94 = .ok (.aload_n 0, 1) := by decide +kernel
theorem dX4_isAlike_95 : decode cX4_isAlike 95 = .ok (.getfield 29, 3) := by decide +kernel
theorem dX4_isAlike_98 : decode cX4_isAlike 98 = .ok (.iload_n 1, 1) := by decide +kernel
theorem dX4_isAlike_99 : decode cX4_isAlike 99 = .ok (.iaload, 1) := by decide +kernel
theorem dX4_isAlike_100 : decode cX4_isAlike 100 = .ok (.aload_n 0, 1) := by decide +kernel
theorem dX4_isAlike_101 : decode cX4_isAlike 101 = .ok (.getfield 29, 3) := by decide +kernel
theorem dX4_isAlike_104 : decode cX4_isAlike 104 = .ok (.iload_n 2, 1) := by decide +kernel
theorem dX4_isAlike_105 : decode cX4_isAlike 105 = .ok (.iaload, 1) := by decide +kernel
theorem dX4_isAlike_106 : decode cX4_isAlike 106 = .ok (.if_icmp .eq 7, 3) := by decide +kernel
theorem dX4_isAlike_109 : decode cX4_isAlike 109 = .ok (.iconst 1, 1) := by decide +kernel
theorem dX4_isAlike_110 : decode cX4_isAlike 110 = .ok (.goto 4, 3) := by decide +kernel
theorem dX4_isAlike_113 : decode cX4_isAlike 113 = .ok (.iconst 0, 1) := by decide +kernel
theorem dX4_isAlike_114 : decode cX4_isAlike 114 = .ok (.ireturn, 1) := by decide +kernel
theorem dX4_hasBoth_0 : decode cX4_hasBoth 0 = .ok (.aload_n 0, 1) := by decide +kernel
theorem dX4_hasBoth_1 : decode cX4_hasBoth 1 = .ok (.getfield 36, 3) := by decide +kernel
theorem dX4_hasBoth_4 : decode cX4_hasBoth 4 = .ok (.iload_n 1, 1) := by decide +kernel
theorem dX4_hasBoth_5 : decode cX4_hasBoth 5 = .ok (.baload, 1) := by decide +kernel
theorem dX4_hasBoth_6 : decode cX4_hasBoth 6 = .ok (.ifCond .ne 25, 3) := by decide +kernel
theorem dX4_hasBoth_9 : decode cX4_hasBoth 9 = .ok (.aload_n 0, 1) := by decide +kernel
theorem dX4_hasBoth_10 : decode cX4_hasBoth 10 = .ok (.getfield 45, 3) := by decide +kernel
theorem dX4_hasBoth_13 : decode cX4_hasBoth 13 = .ok (.iload_n 1, 1) := by decide +kernel
theorem dX4_hasBoth_14 : decode cX4_hasBoth 14 = .ok (.iaload, 1) := by decide +kernel
theorem dX4_hasBoth_15 : decode cX4_hasBoth 15 = .ok (.ifCond .le 16, 3) := by decide +kernel
theorem dX4_hasBoth_18 : decode cX4_hasBoth 18 = .ok (.aload_n 0, 1) := by decide +kernel
theorem dX4_hasBoth_19 : decode cX4_hasBoth 19 = .ok (.getfield 48, 3) := by decide +kernel
theorem dX4_hasBoth_22 : decode cX4_hasBoth 22 = .ok (.iload_n 1, 1) := by decide +kernel
theorem dX4_hasBoth_23 : decode cX4_hasBoth 23 = .ok (.iaload, 1) := by decide +kernel
theorem dX4_hasBoth_24 : decode cX4_hasBoth 24 = .ok (.ifCond .le 7, 3) := by decide +kernel
theorem dX4_hasBoth_27 : decode cX4_hasBoth 27 = .ok (.iconst 1, 1) := by decide +kernel
theorem dX4_hasBoth_28 : decode cX4_hasBoth 28 = .ok (.goto 4, 3) := by decide +kernel
theorem dX4_hasBoth_31 : decode cX4_hasBoth 31 = .ok (.iconst 0, 1) := by decide +kernel
theorem dX4_hasBoth_32 : decode cX4_hasBoth 32 = .ok (.ireturn, 1) := by decide +kernel
theorem dX4_faultOf_0 : decode cX4_faultOf 0 = .ok (.iload_n 1, 1) := by decide +kernel
theorem dX4_faultOf_1 : decode cX4_faultOf 1 = .ok (.iload_n 2, 1) := by decide +kernel
theorem dX4_faultOf_2 : decode cX4_faultOf 2 = .ok (.if_icmp .ne 25, 3) := by decide +kernel
theorem dX4_faultOf_5 : decode cX4_faultOf 5 = .ok (.aload_n 0, 1) := by decide +kernel
theorem dX4_faultOf_6 : decode cX4_faultOf 6 = .ok (.getfield 39, 3) := by decide +kernel
theorem dX4_faultOf_9 : decode cX4_faultOf 9 = .ok (.iload_n 1, 1) := by decide +kernel
theorem dX4_faultOf_10 : decode cX4_faultOf 10 = .ok (.iaload, 1) := by decide +kernel
theorem dX4_faultOf_11 : decode cX4_faultOf 11 = .ok (.aload_n 0, 1) := by decide +kernel
theorem dX4_faultOf_12 : decode cX4_faultOf 12 = .ok (.getfield 42, 3) := by decide +kernel
theorem dX4_faultOf_15 : decode cX4_faultOf 15 = .ok (.iload_n 1, 1) := by decide +kernel
theorem dX4_faultOf_16 : decode cX4_faultOf 16 = .ok (.iaload, 1) := by decide +kernel
theorem dX4_faultOf_17 : decode cX4_faultOf 17 = .ok (.if_icmp .lt 7, 3) := by decide +kernel
theorem dX4_faultOf_20 : decode cX4_faultOf 20 = .ok (.iconst 1, 1) := by decide +kernel
theorem dX4_faultOf_21 : decode cX4_faultOf 21 = .ok (.goto 5, 3) := by decide +kernel
theorem dX4_faultOf_24 : decode cX4_faultOf 24 = .ok (.bipush 9, 2) := by decide +kernel
theorem dX4_faultOf_26 : decode cX4_faultOf 26 = .ok (.ireturn, 1) := by decide +kernel
theorem dX4_faultOf_27 : decode cX4_faultOf 27 = .ok (.aload_n 0, 1) := by decide +kernel
theorem dX4_faultOf_28 : decode cX4_faultOf 28 = .ok (.getfield 23, 3) := by decide +kernel
theorem dX4_faultOf_31 : decode cX4_faultOf 31 = .ok (.iload_n 1, 1) := by decide +kernel
theorem dX4_faultOf_32 : decode cX4_faultOf 32 = .ok (.iaload, 1) := by decide +kernel
theorem dX4_faultOf_33 : decode cX4_faultOf 33 = .ok (.ifCond .ne 26, 3) := by decide +kernel
theorem dX4_faultOf_36 : decode cX4_faultOf 36 = .ok (.aload_n 0, 1) := by decide +kernel
theorem dX4_faultOf_37 : decode cX4_faultOf 37 = .ok (.getfield 26, 3) := by decide +kernel
theorem dX4_faultOf_40 : decode cX4_faultOf 40 = .ok (.iload_n 1, 1) := by decide +kernel
theorem dX4_faultOf_41 : decode cX4_faultOf 41 = .ok (.iaload, 1) := by decide +kernel
theorem dX4_faultOf_42 : decode cX4_faultOf 42 = .ok (.aload_n 0, 1) := by decide +kernel
theorem dX4_faultOf_43 : decode cX4_faultOf 43 = .ok (.getfield 26, 3) := by decide +kernel
theorem dX4_faultOf_46 : decode cX4_faultOf 46 = .ok (.iload_n 2, 1) := by decide +kernel
theorem dX4_faultOf_47 : decode cX4_faultOf 47 = .ok (.iaload, 1) := by decide +kernel
theorem dX4_faultOf_48 : decode cX4_faultOf 48 = .ok (.if_icmp .le 7, 3) := by decide +kernel
theorem dX4_faultOf_51 : decode cX4_faultOf 51 = .ok (.iconst 1, 1) := by decide +kernel
theorem dX4_faultOf_52 : decode cX4_faultOf 52 = .ok (.goto 27, 3) := by decide +kernel
theorem dX4_faultOf_55 : decode cX4_faultOf 55 = .ok (.iconst 0, 1) := by decide +kernel
theorem dX4_faultOf_56 : decode cX4_faultOf 56 = .ok (.goto 23, 3) := by decide +kernel
theorem dX4_faultOf_59 : decode cX4_faultOf 59 = .ok (.aload_n 0, 1) := by decide +kernel
theorem dX4_faultOf_60 : decode cX4_faultOf 60 = .ok (.getfield 26, 3) := by decide +kernel
theorem dX4_faultOf_63 : decode cX4_faultOf 63 = .ok (.iload_n 1, 1) := by decide +kernel
theorem dX4_faultOf_64 : decode cX4_faultOf 64 = .ok (.iaload, 1) := by decide +kernel
theorem dX4_faultOf_65 : decode cX4_faultOf 65 = .ok (.aload_n 0, 1) := by decide +kernel
theorem dX4_faultOf_66 : decode cX4_faultOf 66 = .ok (.getfield 26, 3) := by decide +kernel
theorem dX4_faultOf_69 : decode cX4_faultOf 69 = .ok (.iload_n 2, 1) := by decide +kernel
theorem dX4_faultOf_70 : decode cX4_faultOf 70 = .ok (.iaload, 1) := by decide +kernel
theorem dX4_faultOf_71 : decode cX4_faultOf 71 = .ok (.if_icmp .ge 7, 3) := by decide +kernel
theorem dX4_faultOf_74 : decode cX4_faultOf 74 = .ok (.iconst 1, 1) := by decide +kernel
theorem dX4_faultOf_75 : decode cX4_faultOf 75 = .ok (.goto 4, 3) := by decide +kernel
theorem dX4_faultOf_78 : decode cX4_faultOf 78 = .ok (.iconst 0, 1) := by decide +kernel
theorem dX4_faultOf_79 : decode cX4_faultOf 79 = .ok (.istore_n 3, 1) := by decide +kernel
theorem dX4_faultOf_80 : decode cX4_faultOf 80 = .ok (.aload_n 0, 1) := by decide +kernel
theorem dX4_faultOf_81 : decode cX4_faultOf 81 = .ok (.iload_n 1, 1) := by decide +kernel
theorem dX4_faultOf_82 : decode cX4_faultOf 82 = .ok (.iload_n 2, 1) := by decide +kernel
theorem dX4_faultOf_83 : decode cX4_faultOf 83 = .ok (.iconst 1, 1) := by decide +kernel
theorem dX4_faultOf_84 : decode cX4_faultOf 84 = .ok (.invokevirtual 129, 3) := by decide +kernel
theorem dX4_faultOf_87 : decode cX4_faultOf 87 = .ok (.ifCond .eq 24, 3) := by decide +kernel
theorem dX4_faultOf_90 : decode cX4_faultOf 90 = .ok (.iload_n 3, 1) := by decide +kernel
theorem dX4_faultOf_91 : decode cX4_faultOf 91 = .ok (.ifCond .eq 20, 3) := by decide +kernel
theorem dX4_faultOf_94 : decode cX4_faultOf 94 = .ok (.aload_n 0, 1) := by decide +kernel
theorem dX4_faultOf_95 : decode cX4_faultOf 95 = .ok (.getfield 39, 3) := by decide +kernel
theorem dX4_faultOf_98 : decode cX4_faultOf 98 = .ok (.iload_n 1, 1) := by decide +kernel
theorem dX4_faultOf_99 : decode cX4_faultOf 99 = .ok (.iaload, 1) := by decide +kernel
theorem dX4_faultOf_100 : decode cX4_faultOf 100 = .ok (.aload_n 0, 1) := by decide +kernel
theorem dX4_faultOf_101 : decode cX4_faultOf 101 = .ok (.getfield 42, 3) := by decide +kernel
theorem dX4_faultOf_104 : decode cX4_faultOf 104 = .ok (.iload_n 2, 1) := by decide +kernel
theorem dX4_faultOf_105 : decode cX4_faultOf 105 = .ok (.iaload, 1) := by decide +kernel
theorem dX4_faultOf_106 : decode cX4_faultOf 106 = .ok (.if_icmp .le 5, 3) := by decide +kernel
theorem dX4_faultOf_109 : decode cX4_faultOf 109 = .ok (.iconst 2, 1) := by decide +kernel
theorem dX4_faultOf_110 : decode cX4_faultOf 110 = .ok (.ireturn, 1) := by decide +kernel
theorem dX4_faultOf_111 : decode cX4_faultOf 111 = .ok (.aload_n 0, 1) := by decide +kernel
theorem dX4_faultOf_112 : decode cX4_faultOf 112 = .ok (.getfield 32, 3) := by decide +kernel
theorem dX4_faultOf_115 : decode cX4_faultOf 115 = .ok (.iload_n 1, 1) := by decide +kernel
theorem dX4_faultOf_116 : decode cX4_faultOf 116 = .ok (.baload, 1) := by decide +kernel
theorem dX4_faultOf_117 : decode cX4_faultOf 117 = .ok (.ifCond .eq 47, 3) := by decide +kernel
theorem dX4_faultOf_120 : decode cX4_faultOf 120 = .ok (.aload_n 0, 1) := by decide +kernel
theorem dX4_faultOf_121 : decode cX4_faultOf 121 = .ok (.iload_n 1, 1) := by decide +kernel
theorem dX4_faultOf_122 : decode cX4_faultOf 122 = .ok (.iload_n 2, 1) := by decide +kernel
theorem dX4_faultOf_123 : decode cX4_faultOf 123 = .ok (.iconst 0, 1) := by decide +kernel
theorem dX4_faultOf_124 : decode cX4_faultOf 124 = .ok (.invokevirtual 129, 3) := by decide +kernel
theorem dX4_faultOf_127 : decode cX4_faultOf 127 = .ok (.ifCond .eq 37, 3) := by decide +kernel
theorem dX4_faultOf_130 : decode cX4_faultOf 130 = .ok (.aload_n 0, 1) := by decide +kernel
theorem dX4_faultOf_131 : decode cX4_faultOf 131 = .ok (.getfield 29, 3) := by decide +kernel
theorem dX4_faultOf_134 : decode cX4_faultOf 134 = .ok (.iload_n 1, 1) := by decide +kernel
theorem dX4_faultOf_135 : decode cX4_faultOf 135 = .ok (.iaload, 1) := by decide +kernel
theorem dX4_faultOf_136 : decode cX4_faultOf 136 = .ok (.aload_n 0, 1) := by decide +kernel
theorem dX4_faultOf_137 : decode cX4_faultOf 137 = .ok (.getfield 29, 3) := by decide +kernel
theorem dX4_faultOf_140 : decode cX4_faultOf 140 = .ok (.iload_n 2, 1) := by decide +kernel
theorem dX4_faultOf_141 : decode cX4_faultOf 141 = .ok (.iaload, 1) := by decide +kernel
theorem dX4_faultOf_142 : decode cX4_faultOf 142 = .ok (.if_icmp .ge 22, 3) := by decide +kernel
theorem dX4_faultOf_145 : decode cX4_faultOf 145 = .ok (.aload_n 0, 1) := by decide +kernel
theorem dX4_faultOf_146 : decode cX4_faultOf 146 = .ok (.getfield 39, 3) := by decide +kernel
theorem dX4_faultOf_149 : decode cX4_faultOf 149 = .ok (.iload_n 1, 1) := by decide +kernel
theorem dX4_faultOf_150 : decode cX4_faultOf 150 = .ok (.iaload, 1) := by decide +kernel
theorem dX4_faultOf_151 : decode cX4_faultOf 151 = .ok (.aload_n 0, 1) := by decide +kernel
theorem dX4_faultOf_152 : decode cX4_faultOf 152 = .ok (.getfield 42, 3) := by decide +kernel
theorem dX4_faultOf_155 : decode cX4_faultOf 155 = .ok (.iload_n 2, 1) := by decide +kernel
theorem dX4_faultOf_156 : decode cX4_faultOf 156 = .ok (.iaload, 1) := by decide +kernel
theorem dX4_faultOf_157 : decode cX4_faultOf 157 = .ok (.if_icmp .le 7, 3) := by decide +kernel
theorem dX4_faultOf_160 : decode cX4_faultOf 160 = .ok (.iconst 4, 1) := by decide +kernel
theorem dX4_faultOf_161 : decode cX4_faultOf 161 = .ok (.goto 5, 3) := by decide +kernel
theorem dX4_faultOf_164 : decode cX4_faultOf 164 = .ok (.bipush 9, 2) := by decide +kernel
theorem dX4_faultOf_166 : decode cX4_faultOf 166 = .ok (.ireturn, 1) := by decide +kernel
theorem dX4_isMiddle_0 : decode cX4_isMiddle 0 = .ok (.iconst 0, 1) := by decide +kernel
theorem dX4_isMiddle_1 : decode cX4_isMiddle 1 = .ok (.istore_n 3, 1) := by decide +kernel
theorem dX4_isMiddle_2 : decode cX4_isMiddle 2 = .ok (.iconst 0, 1) := by decide +kernel
theorem dX4_isMiddle_3 : decode cX4_isMiddle 3 = .ok (.istore 4, 2) := by decide +kernel
theorem dX4_isMiddle_5 : decode cX4_isMiddle 5 = .ok (.iload 4, 2) := by decide +kernel
theorem dX4_isMiddle_7 : decode cX4_isMiddle 7 = .ok (.aload_n 0, 1) := by decide +kernel
theorem dX4_isMiddle_8 : decode cX4_isMiddle 8 = .ok (.getfield 76, 3) := by decide +kernel
theorem dX4_isMiddle_11 : decode cX4_isMiddle 11 = .ok (.if_icmp .ge 127, 3) := by decide +kernel
theorem dX4_isMiddle_14 : decode cX4_isMiddle 14 = .ok (.aload_n 0, 1) := by decide +kernel
theorem dX4_isMiddle_15 : decode cX4_isMiddle 15 = .ok (.iload 4, 2) := by decide +kernel
theorem dX4_isMiddle_17 : decode cX4_isMiddle 17 = .ok (.invokevirtual 133, 3) := by decide +kernel
theorem dX4_isMiddle_20 : decode cX4_isMiddle 20 = .ok (.ifCond .eq 69, 3) := by decide +kernel
theorem dX4_isMiddle_23 : decode cX4_isMiddle 23 = .ok (.aload_n 0, 1) := by decide +kernel
theorem dX4_isMiddle_24 : decode cX4_isMiddle 24 = .ok (.iload_n 1, 1) := by decide +kernel
theorem dX4_isMiddle_25 : decode cX4_isMiddle 25 = .ok (.iload_n 2, 1) := by decide +kernel
theorem dX4_isMiddle_26 : decode cX4_isMiddle 26 = .ok (.iconst 1, 1) := by decide +kernel
theorem dX4_isMiddle_27 : decode cX4_isMiddle 27 = .ok (.invokevirtual 129, 3) := by decide +kernel
theorem dX4_isMiddle_30 : decode cX4_isMiddle 30 = .ok (.ifCond .eq 59, 3) := by decide +kernel
theorem dX4_isMiddle_33 : decode cX4_isMiddle 33 = .ok (.aload_n 0, 1) := by decide +kernel
theorem dX4_isMiddle_34 : decode cX4_isMiddle 34 = .ok (.iload_n 1, 1) := by decide +kernel
theorem dX4_isMiddle_35 : decode cX4_isMiddle 35 = .ok (.iload 4, 2) := by decide +kernel
theorem dX4_isMiddle_37 : decode cX4_isMiddle 37 = .ok (.iconst 1, 1) := by decide +kernel
theorem dX4_isMiddle_38 : decode cX4_isMiddle 38 = .ok (.invokevirtual 129, 3) := by decide +kernel
theorem dX4_isMiddle_41 : decode cX4_isMiddle 41 = .ok (.ifCond .eq 48, 3) := by decide +kernel
theorem dX4_isMiddle_44 : decode cX4_isMiddle 44 = .ok (.aload_n 0, 1) := by decide +kernel
theorem dX4_isMiddle_45 : decode cX4_isMiddle 45 = .ok (.getfield 26, 3) := by decide +kernel
theorem dX4_isMiddle_48 : decode cX4_isMiddle 48 = .ok (.iload_n 2, 1) := by decide +kernel
theorem dX4_isMiddle_49 : decode cX4_isMiddle 49 = .ok (.iaload, 1) := by decide +kernel
theorem dX4_isMiddle_50 : decode cX4_isMiddle 50 = .ok (.aload_n 0, 1) := by decide +kernel
theorem dX4_isMiddle_51 : decode cX4_isMiddle 51 = .ok (.getfield 26, 3) := by decide +kernel
theorem dX4_isMiddle_54 : decode cX4_isMiddle 54 = .ok (.iload 4, 2) := by decide +kernel
theorem dX4_isMiddle_56 : decode cX4_isMiddle 56 = .ok (.iaload, 1) := by decide +kernel
theorem dX4_isMiddle_57 : decode cX4_isMiddle 57 = .ok (.if_icmp .ge 32, 3) := by decide +kernel
theorem dX4_isMiddle_60 : decode cX4_isMiddle 60 = .ok (.aload_n 0, 1) := by decide +kernel
theorem dX4_isMiddle_61 : decode cX4_isMiddle 61 = .ok (.getfield 26, 3) := by decide +kernel
theorem dX4_isMiddle_64 : decode cX4_isMiddle 64 = .ok (.iload_n 2, 1) := by decide +kernel
theorem dX4_isMiddle_65 : decode cX4_isMiddle 65 = .ok (.iaload, 1) := by decide +kernel
theorem dX4_isMiddle_66 : decode cX4_isMiddle 66 = .ok (.aload_n 0, 1) := by decide +kernel
theorem dX4_isMiddle_67 : decode cX4_isMiddle 67 = .ok (.getfield 26, 3) := by decide +kernel
theorem dX4_isMiddle_70 : decode cX4_isMiddle 70 = .ok (.iload 4, 2) := by decide +kernel
theorem dX4_isMiddle_72 : decode cX4_isMiddle 72 = .ok (.iaload, 1) := by decide +kernel
theorem dX4_isMiddle_73 : decode cX4_isMiddle 73 = .ok (.iadd, 1) := by decide +kernel
theorem dX4_isMiddle_74 : decode cX4_isMiddle 74 = .ok (.iconst 2, 1) := by decide +kernel
theorem dX4_isMiddle_75 : decode cX4_isMiddle 75 = .ok (.aload_n 0, 1) := by decide +kernel
theorem dX4_isMiddle_76 : decode cX4_isMiddle 76 = .ok (.getfield 26, 3) := by decide +kernel
theorem dX4_isMiddle_79 : decode cX4_isMiddle 79 = .ok (.iload_n 1, 1) := by decide +kernel
theorem dX4_isMiddle_80 : decode cX4_isMiddle 80 = .ok (.iaload, 1) := by decide +kernel
theorem dX4_isMiddle_81 : decode cX4_isMiddle 81 = .ok (.imul, 1) := by decide +kernel
theorem dX4_isMiddle_82 : decode cX4_isMiddle 82 = .ok (.if_icmp .ne 7, 3) := by decide +kernel
theorem dX4_isMiddle_85 : decode cX4_isMiddle 85 = .ok (.iconst 1, 1) := by decide +kernel
theorem dX4_isMiddle_86 : decode cX4_isMiddle 86 = .ok (.goto 4, 3) := by decide +kernel
theorem dX4_isMiddle_89 : decode cX4_isMiddle 89 = .ok (.iconst 0, 1) := by decide +kernel
theorem dX4_isMiddle_90 : decode cX4_isMiddle 90 = .ok (.istore 5, 2) := by decide +kernel
theorem dX4_isMiddle_92 : decode cX4_isMiddle 92 = .ok (.iload_n 3, 1) := by decide +kernel
theorem dX4_isMiddle_93 : decode cX4_isMiddle 93 = .ok (.ifCond .ne 33, 3) := by decide +kernel
theorem dX4_isMiddle_96 : decode cX4_isMiddle 96 = .ok (.iload 5, 2) := by decide +kernel
theorem dX4_isMiddle_98 : decode cX4_isMiddle 98 = .ok (.ifCond .eq 32, 3) := by decide +kernel
theorem dX4_isMiddle_101 : decode cX4_isMiddle 101 = .ok (.iconst 2, 1) := by decide +kernel
theorem dX4_isMiddle_102 : decode cX4_isMiddle 102 = .ok (.aload_n 0, 1) := by decide +kernel
theorem dX4_isMiddle_103 : decode cX4_isMiddle 103 = .ok (.getfield 39, 3) := by decide +kernel
theorem dX4_isMiddle_106 : decode cX4_isMiddle 106 = .ok (.iload_n 1, 1) := by decide +kernel
theorem dX4_isMiddle_107 : decode cX4_isMiddle 107 = .ok (.iaload, 1) := by decide +kernel
theorem dX4_isMiddle_108 : decode cX4_isMiddle 108 = .ok (.imul, 1) := by decide +kernel
theorem dX4_isMiddle_109 : decode cX4_isMiddle 109 = .ok (.aload_n 0, 1) := by decide +kernel
theorem dX4_isMiddle_110 : decode cX4_isMiddle 110 = .ok (.getfield 42, 3) := by decide +kernel
theorem dX4_isMiddle_113 : decode cX4_isMiddle 113 = .ok (.iload_n 2, 1) := by decide +kernel
theorem dX4_isMiddle_114 : decode cX4_isMiddle 114 = .ok (.iaload, 1) := by decide +kernel
theorem dX4_isMiddle_115 : decode cX4_isMiddle 115 = .ok (.aload_n 0, 1) := by decide +kernel
theorem dX4_isMiddle_116 : decode cX4_isMiddle 116 = .ok (.getfield 42, 3) := by decide +kernel
theorem dX4_isMiddle_119 : decode cX4_isMiddle 119 = .ok (.iload 4, 2) := by decide +kernel
theorem dX4_isMiddle_121 : decode cX4_isMiddle 121 = .ok (.iaload, 1) := by decide +kernel
theorem dX4_isMiddle_122 : decode cX4_isMiddle 122 = .ok (.iadd, 1) := by decide +kernel
theorem dX4_isMiddle_123 : decode cX4_isMiddle 123 = .ok (.if_icmp .le 7, 3) := by decide +kernel
theorem dX4_isMiddle_126 : decode cX4_isMiddle 126 = .ok (.iconst 1, 1) := by decide +kernel
theorem dX4_isMiddle_127 : decode cX4_isMiddle 127 = .ok (.goto 4, 3) := by decide +kernel
theorem dX4_isMiddle_130 : decode cX4_isMiddle 130 = .ok (.iconst 0, 1) := by decide +kernel
theorem dX4_isMiddle_131 : decode cX4_isMiddle 131 = .ok (.istore_n 3, 1) := by decide +kernel
theorem dX4_isMiddle_132 : decode cX4_isMiddle 132 = .ok (.iinc 4 1, 3) := by decide +kernel
theorem dX4_isMiddle_135 : decode cX4_isMiddle 135 = .ok (.goto (-130), 3) := by decide +kernel
theorem dX4_isMiddle_138 : decode cX4_isMiddle 138 = .ok (.iload_n 3, 1) := by decide +kernel
theorem dX4_isMiddle_139 : decode cX4_isMiddle 139 = .ok (.ireturn, 1) := by decide +kernel
theorem dX4_firstFault_0 : decode cX4_firstFault 0 = .ok (.bipush 9, 2) := by decide +kernel
theorem dX4_firstFault_2 : decode cX4_firstFault 2 = .ok (.istore_n 1, 1) := by decide +kernel
theorem dX4_firstFault_3 : decode cX4_firstFault 3 = .ok (.iconst 0, 1) := by decide +kernel
theorem dX4_firstFault_4 : decode cX4_firstFault 4 = .ok (.istore_n 2, 1) := by decide +kernel
theorem dX4_firstFault_5 : decode cX4_firstFault 5 = .ok (.iload_n 2, 1) := by decide +kernel
theorem dX4_firstFault_6 : decode cX4_firstFault 6 = .ok (.aload_n 0, 1) := by decide +kernel
theorem dX4_firstFault_7 : decode cX4_firstFault 7 = .ok (.getfield 76, 3) := by decide +kernel
theorem dX4_firstFault_10 : decode cX4_firstFault 10 = .ok (.if_icmp .ge 85, 3) := by decide +kernel
theorem dX4_firstFault_13 : decode cX4_firstFault 13 = .ok (.iconst 0, 1) := by decide +kernel
theorem dX4_firstFault_14 : decode cX4_firstFault 14 = .ok (.istore_n 3, 1) := by decide +kernel
theorem dX4_firstFault_15 : decode cX4_firstFault 15 = .ok (.iload_n 3, 1) := by decide +kernel
theorem dX4_firstFault_16 : decode cX4_firstFault 16 = .ok (.aload_n 0, 1) := by decide +kernel
theorem dX4_firstFault_17 : decode cX4_firstFault 17 = .ok (.getfield 76, 3) := by decide +kernel
theorem dX4_firstFault_20 : decode cX4_firstFault 20 = .ok (.if_icmp .ge 69, 3) := by decide +kernel
theorem dX4_firstFault_23 : decode cX4_firstFault 23 = .ok (.aload_n 0, 1) := by decide +kernel
theorem dX4_firstFault_24 : decode cX4_firstFault 24 = .ok (.iload_n 2, 1) := by decide +kernel
theorem dX4_firstFault_25 : decode cX4_firstFault 25 = .ok (.invokevirtual 133, 3) := by decide +kernel
theorem dX4_firstFault_28 : decode cX4_firstFault 28 = .ok (.ifCond .eq 55, 3) := by decide +kernel
theorem dX4_firstFault_31 : decode cX4_firstFault 31 = .ok (.aload_n 0, 1) := by decide +kernel
theorem dX4_firstFault_32 : decode cX4_firstFault 32 = .ok (.iload_n 3, 1) := by decide +kernel
theorem dX4_firstFault_33 : decode cX4_firstFault 33 = .ok (.invokevirtual 133, 3) := by decide +kernel
theorem dX4_firstFault_36 : decode cX4_firstFault 36 = .ok (.ifCond .eq 47, 3) := by decide +kernel
theorem dX4_firstFault_39 : decode cX4_firstFault 39 = .ok (.aload_n 0, 1) := by decide +kernel
theorem dX4_firstFault_40 : decode cX4_firstFault 40 = .ok (.iload_n 2, 1) := by decide +kernel
theorem dX4_firstFault_41 : decode cX4_firstFault 41 = .ok (.iload_n 3, 1) := by decide +kernel
theorem dX4_firstFault_42 : decode cX4_firstFault 42 = .ok (.invokevirtual 137, 3) := by decide +kernel
theorem dX4_firstFault_45 : decode cX4_firstFault 45 = .ok (.istore 4, 2) := by decide +kernel
theorem dX4_firstFault_47 : decode cX4_firstFault 47 = .ok (.iload 4, 2) := by decide +kernel
theorem dX4_firstFault_49 : decode cX4_firstFault 49 = .ok (.iconst 3, 1) := by decide +kernel
theorem dX4_firstFault_50 : decode cX4_firstFault 50 = .ok (.if_icmp .le 16, 3) := by decide +kernel
theorem dX4_firstFault_53 : decode cX4_firstFault 53 = .ok (.aload_n 0, 1) := by decide +kernel
theorem dX4_firstFault_54 : decode cX4_firstFault 54 = .ok (.iload_n 2, 1) := by decide +kernel
theorem dX4_firstFault_55 : decode cX4_firstFault 55 = .ok (.iload_n 3, 1) := by decide +kernel
theorem dX4_firstFault_56 : decode cX4_firstFault 56 = .ok (.invokevirtual 140, 3) := by decide +kernel
theorem dX4_firstFault_59 : decode cX4_firstFault 59 = .ok (.ifCond .eq 7, 3) := by decide +kernel
theorem dX4_firstFault_62 : decode cX4_firstFault 62 = .ok (.iconst 3, 1) := by decide +kernel
theorem dX4_firstFault_63 : decode cX4_firstFault 63 = .ok (.goto 5, 3) := by decide +kernel
theorem dX4_firstFault_66 : decode cX4_firstFault 66 = .ok (.iload 4, 2) := by decide +kernel
theorem dX4_firstFault_68 : decode cX4_firstFault 68 = .ok (.istore 4, 2) := by decide +kernel
theorem dX4_firstFault_70 : decode cX4_firstFault 70 = .ok (.iload 4, 2) := by decide +kernel
theorem dX4_firstFault_72 : decode cX4_firstFault 72 = .ok (.iload_n 1, 1) := by decide +kernel
theorem dX4_firstFault_73 : decode cX4_firstFault 73 = .ok (.if_icmp .ge 8, 3) := by decide +kernel
theorem dX4_firstFault_76 : decode cX4_firstFault 76 = .ok (.iload 4, 2) := by decide +kernel
theorem dX4_firstFault_78 : decode cX4_firstFault 78 = .ok (.goto 4, 3) := by decide +kernel
theorem dX4_firstFault_81 : decode cX4_firstFault 81 = .ok (.iload_n 1, 1) := by decide +kernel
theorem dX4_firstFault_82 : decode cX4_firstFault 82 = .ok (.istore_n 1, 1) := by decide +kernel
theorem dX4_firstFault_83 : decode cX4_firstFault 83 = .ok (.iinc 3 1, 3) := by decide +kernel
theorem dX4_firstFault_86 : decode cX4_firstFault 86 = .ok (.goto (-71), 3) := by decide +kernel
theorem dX4_firstFault_89 : decode cX4_firstFault 89 = .ok (.iinc 2 1, 3) := by decide +kernel
theorem dX4_firstFault_92 : decode cX4_firstFault 92 = .ok (.goto (-87), 3) := by decide +kernel
theorem dX4_firstFault_95 : decode cX4_firstFault 95 = .ok (.iload_n 1, 1) := by decide +kernel
theorem dX4_firstFault_96 : decode cX4_firstFault 96 = .ok (.bipush 9, 2) := by decide +kernel
theorem dX4_firstFault_98 : decode cX4_firstFault 98 = .ok (.if_icmp .ne 7, 3) := by decide +kernel
theorem dX4_firstFault_101 : decode cX4_firstFault 101 = .ok (.iconst 0, 1) := by decide +kernel
theorem dX4_firstFault_102 : decode cX4_firstFault 102 = .ok (.goto 4, 3) := by decide +kernel
theorem dX4_firstFault_105 : decode cX4_firstFault 105 = .ok (.iload_n 1, 1) := by decide +kernel
theorem dX4_firstFault_106 : decode cX4_firstFault 106 = .ok (.ireturn, 1) := by decide +kernel
theorem dX4_quote_0 : decode cX4_quote 0 = .ok (.iload_n 2, 1) := by decide +kernel
theorem dX4_quote_1 : decode cX4_quote 1 = .ok (.i2l, 1) := by decide +kernel
theorem dX4_quote_2 : decode cX4_quote 2 = .ok (.lconst 0, 1) := by decide +kernel
theorem dX4_quote_3 : decode cX4_quote 3 = .ok (.ldc2_w 125, 3) := by decide +kernel
theorem dX4_quote_6 : decode cX4_quote 6 = .ok (.invokestatic 79, 3) := by decide +kernel
theorem dX4_quote_9 : decode cX4_quote 9 = .ok (.ifCond .eq 32, 3) := by decide +kernel
theorem dX4_quote_12 : decode cX4_quote 12 = .ok (.iload_n 3, 1) := by decide +kernel
theorem dX4_quote_13 : decode cX4_quote 13 = .ok (.i2l, 1) := by decide +kernel
theorem dX4_quote_14 : decode cX4_quote 14 = .ok (.lconst 0, 1) := by decide +kernel
theorem dX4_quote_15 : decode cX4_quote 15 = .ok (.ldc2_w 125, 3) := by decide +kernel
theorem dX4_quote_18 : decode cX4_quote 18 = .ok (.invokestatic 79, 3) := by decide +kernel
theorem dX4_quote_21 : decode cX4_quote 21 = .ok (.ifCond .eq 20, 3) := by decide +kernel
theorem dX4_quote_24 : decode cX4_quote 24 = .ok (.iload 4, 2) := by decide +kernel
theorem dX4_quote_26 : decode cX4_quote 26 = .ok (.i2l, 1) := by decide +kernel
theorem dX4_quote_27 : decode cX4_quote 27 = .ok (.lconst 0, 1) := by decide +kernel
theorem dX4_quote_28 : decode cX4_quote 28 = .ok (.ldc2_w 144, 3) := by decide +kernel
theorem dX4_quote_31 : decode cX4_quote 31 = .ok (.invokestatic 79, 3) := by decide +kernel
theorem dX4_quote_34 : decode cX4_quote 34 = .ok (.ifCond .eq 7, 3) := by decide +kernel
theorem dX4_quote_37 : decode cX4_quote 37 = .ok (.iconst 1, 1) := by decide +kernel
theorem dX4_quote_38 : decode cX4_quote 38 = .ok (.goto 4, 3) := by decide +kernel
theorem dX4_quote_41 : decode cX4_quote 41 = .ok (.iconst 0, 1) := by decide +kernel
theorem dX4_quote_42 : decode cX4_quote 42 = .ok (.istore 5, 2) := by decide +kernel
theorem dX4_quote_44 : decode cX4_quote 44 = .ok (.aload_n 0, 1) := by decide +kernel
theorem dX4_quote_45 : decode cX4_quote 45 = .ok (.aload_n 0, 1) := by decide +kernel
theorem dX4_quote_46 : decode cX4_quote 46 = .ok (.iload_n 1, 1) := by decide +kernel
theorem dX4_quote_47 : decode cX4_quote 47 = .ok (.invokevirtual 146, 3) := by decide +kernel
theorem dX4_quote_50 : decode cX4_quote 50 = .ok (.ifCond .ne 7, 3) := by decide +kernel
theorem dX4_quote_53 : decode cX4_quote 53 = .ok (.iconst 1, 1) := by decide +kernel
theorem dX4_quote_54 : decode cX4_quote 54 = .ok (.goto 26, 3) := by decide +kernel
theorem dX4_quote_57 : decode cX4_quote 57 = .ok (.iload 5, 2) := by decide +kernel
theorem dX4_quote_59 : decode cX4_quote 59 = .ok (.ifCond .ne 7, 3) := by decide +kernel
theorem dX4_quote_62 : decode cX4_quote 62 = .ok (.iconst 2, 1) := by decide +kernel
theorem dX4_quote_63 : decode cX4_quote 63 = .ok (.goto 17, 3) := by decide +kernel
theorem dX4_quote_66 : decode cX4_quote 66 = .ok (.aload_n 0, 1) := by decide +kernel
theorem dX4_quote_67 : decode cX4_quote 67 = .ok (.getfield 36, 3) := by decide +kernel
theorem dX4_quote_70 : decode cX4_quote 70 = .ok (.iload_n 1, 1) := by decide +kernel
theorem dX4_quote_71 : decode cX4_quote 71 = .ok (.baload, 1) := by decide +kernel
theorem dX4_quote_72 : decode cX4_quote 72 = .ok (.ifCond .eq 7, 3) := by decide +kernel
theorem dX4_quote_75 : decode cX4_quote 75 = .ok (.iconst 3, 1) := by decide +kernel
theorem dX4_quote_76 : decode cX4_quote 76 = .ok (.goto 4, 3) := by decide +kernel
theorem dX4_quote_79 : decode cX4_quote 79 = .ok (.iconst 0, 1) := by decide +kernel
theorem dX4_quote_80 : decode cX4_quote 80 = .ok (.putfield 73, 3) := by decide +kernel
theorem dX4_quote_83 : decode cX4_quote 83 = .ok (.aload_n 0, 1) := by decide +kernel
theorem dX4_quote_84 : decode cX4_quote 84 = .ok (.getfield 73, 3) := by decide +kernel
theorem dX4_quote_87 : decode cX4_quote 87 = .ok (.ifCond .le 5, 3) := by decide +kernel
theorem dX4_quote_90 : decode cX4_quote 90 = .ok (.iconst 0, 1) := by decide +kernel
theorem dX4_quote_91 : decode cX4_quote 91 = .ok (.ireturn, 1) := by decide +kernel
theorem dX4_quote_92 : decode cX4_quote 92 = .ok (.aload_n 0, 1) := by decide +kernel
theorem dX4_quote_93 : decode cX4_quote 93 = .ok (.getfield 39, 3) := by decide +kernel
theorem dX4_quote_96 : decode cX4_quote 96 = .ok (.iload_n 1, 1) := by decide +kernel
theorem dX4_quote_97 : decode cX4_quote 97 = .ok (.iload_n 2, 1) := by decide +kernel
theorem dX4_quote_98 : decode cX4_quote 98 = .ok (.iastore, 1) := by decide +kernel
theorem dX4_quote_99 : decode cX4_quote 99 = .ok (.aload_n 0, 1) := by decide +kernel
theorem dX4_quote_100 : decode cX4_quote 100 = .ok (.getfield 42, 3) := by decide +kernel
theorem dX4_quote_103 : decode cX4_quote 103 = .ok (.iload_n 1, 1) := by decide +kernel
theorem dX4_quote_104 : decode cX4_quote 104 = .ok (.iload_n 3, 1) := by decide +kernel
theorem dX4_quote_105 : decode cX4_quote 105 = .ok (.iastore, 1) := by decide +kernel
theorem dX4_quote_106 : decode cX4_quote 106 = .ok (.aload_n 0, 1) := by decide +kernel
theorem dX4_quote_107 : decode cX4_quote 107 = .ok (.getfield 45, 3) := by decide +kernel
theorem dX4_quote_110 : decode cX4_quote 110 = .ok (.iload_n 1, 1) := by decide +kernel
theorem dX4_quote_111 : decode cX4_quote 111 = .ok (.iload 4, 2) := by decide +kernel
theorem dX4_quote_113 : decode cX4_quote 113 = .ok (.iastore, 1) := by decide +kernel
theorem dX4_quote_114 : decode cX4_quote 114 = .ok (.aload_n 0, 1) := by decide +kernel
theorem dX4_quote_115 : decode cX4_quote 115 = .ok (.getfield 48, 3) := by decide +kernel
theorem dX4_quote_118 : decode cX4_quote 118 = .ok (.iload_n 1, 1) := by decide +kernel
theorem dX4_quote_119 : decode cX4_quote 119 = .ok (.iload 4, 2) := by decide +kernel
theorem dX4_quote_121 : decode cX4_quote 121 = .ok (.iastore, 1) := by decide +kernel
theorem dX4_quote_122 : decode cX4_quote 122 = .ok (.aload_n 0, 1) := by decide +kernel
theorem dX4_quote_123 : decode cX4_quote 123 = .ok (.invokevirtual 149, 3) := by decide +kernel
theorem dX4_quote_126 : decode cX4_quote 126 = .ok (.ireturn, 1) := by decide +kernel
theorem dX4_hasQuote_0 : decode cX4_hasQuote 0 = .ok (.aload_n 0, 1) := by decide +kernel
theorem dX4_hasQuote_1 : decode cX4_hasQuote 1 = .ok (.getfield 45, 3) := by decide +kernel
theorem dX4_hasQuote_4 : decode cX4_hasQuote 4 = .ok (.iload_n 1, 1) := by decide +kernel
theorem dX4_hasQuote_5 : decode cX4_hasQuote 5 = .ok (.iaload, 1) := by decide +kernel
theorem dX4_hasQuote_6 : decode cX4_hasQuote 6 = .ok (.aload_n 0, 1) := by decide +kernel
theorem dX4_hasQuote_7 : decode cX4_hasQuote 7 = .ok (.getfield 48, 3) := by decide +kernel
theorem dX4_hasQuote_10 : decode cX4_hasQuote 10 = .ok (.iload_n 1, 1) := by decide +kernel
theorem dX4_hasQuote_11 : decode cX4_hasQuote 11 = .ok (.iaload, 1) := by decide +kernel
theorem dX4_hasQuote_12 : decode cX4_hasQuote 12 = .ok (.iadd, 1) := by decide +kernel
theorem dX4_hasQuote_13 : decode cX4_hasQuote 13 = .ok (.ifCond .le 7, 3) := by decide +kernel
theorem dX4_hasQuote_16 : decode cX4_hasQuote 16 = .ok (.iconst 1, 1) := by decide +kernel
theorem dX4_hasQuote_17 : decode cX4_hasQuote 17 = .ok (.goto 4, 3) := by decide +kernel
theorem dX4_hasQuote_20 : decode cX4_hasQuote 20 = .ok (.iconst 0, 1) := by decide +kernel
theorem dX4_hasQuote_21 : decode cX4_hasQuote 21 = .ok (.ireturn, 1) := by decide +kernel
theorem dX4_kill_0 : decode cX4_kill 0 = .ok (.aload_n 0, 1) := by decide +kernel
theorem dX4_kill_1 : decode cX4_kill 1 = .ok (.iconst 0, 1) := by decide +kernel
theorem dX4_kill_2 : decode cX4_kill 2 = .ok (.putfield 73, 3) := by decide +kernel
theorem dX4_kill_5 : decode cX4_kill 5 = .ok (.iconst 0, 1) := by decide +kernel
theorem dX4_kill_6 : decode cX4_kill 6 = .ok (.istore_n 1, 1) := by decide +kernel
theorem dX4_kill_7 : decode cX4_kill 7 = .ok (.iconst 0, 1) := by decide +kernel
theorem dX4_kill_8 : decode cX4_kill 8 = .ok (.istore_n 2, 1) := by decide +kernel
theorem dX4_kill_9 : decode cX4_kill 9 = .ok (.iload_n 2, 1) := by decide +kernel
theorem dX4_kill_10 : decode cX4_kill 10 = .ok (.aload_n 0, 1) := by decide +kernel
theorem dX4_kill_11 : decode cX4_kill 11 = .ok (.getfield 76, 3) := by decide +kernel
theorem dX4_kill_14 : decode cX4_kill 14 = .ok (.if_icmp .ge 39, 3) := by decide +kernel
theorem dX4_kill_17 : decode cX4_kill 17 = .ok (.iload_n 1, 1) := by decide +kernel
theorem dX4_kill_18 : decode cX4_kill 18 = .ok (.aload_n 0, 1) := by decide +kernel
theorem dX4_kill_19 : decode cX4_kill 19 = .ok (.iload_n 2, 1) := by decide +kernel
theorem dX4_kill_20 : decode cX4_kill 20 = .ok (.invokevirtual 153, 3) := by decide +kernel
theorem dX4_kill_23 : decode cX4_kill 23 = .ok (.ifCond .eq 7, 3) := by decide +kernel
theorem dX4_kill_26 : decode cX4_kill 26 = .ok (.iconst 1, 1) := by decide +kernel
theorem dX4_kill_27 : decode cX4_kill 27 = .ok (.goto 4, 3) := by decide +kernel
theorem dX4_kill_30 : decode cX4_kill 30 = .ok (.iconst 0, 1) := by decide +kernel
theorem dX4_kill_31 : decode cX4_kill 31 = .ok (.iadd, 1) := by decide +kernel
theorem dX4_kill_32 : decode cX4_kill 32 = .ok (.istore_n 1, 1) := by decide +kernel
theorem dX4_kill_33 : decode cX4_kill 33 = .ok (.aload_n 0, 1) := by decide +kernel
theorem dX4_kill_34 : decode cX4_kill 34 = .ok (.getfield 45, 3) := by decide +kernel
theorem dX4_kill_37 : decode cX4_kill 37 = .ok (.iload_n 2, 1) := by decide +kernel
theorem dX4_kill_38 : decode cX4_kill 38 = .ok (.iconst 0, 1) := by decide +kernel
theorem dX4_kill_39 : decode cX4_kill 39 = .ok (.iastore, 1) := by decide +kernel
theorem dX4_kill_40 : decode cX4_kill 40 = .ok (.aload_n 0, 1) := by decide +kernel
theorem dX4_kill_41 : decode cX4_kill 41 = .ok (.getfield 48, 3) := by decide +kernel
theorem dX4_kill_44 : decode cX4_kill 44 = .ok (.iload_n 2, 1) := by decide +kernel
theorem dX4_kill_45 : decode cX4_kill 45 = .ok (.iconst 0, 1) := by decide +kernel
theorem dX4_kill_46 : decode cX4_kill 46 = .ok (.iastore, 1) := by decide +kernel
theorem dX4_kill_47 : decode cX4_kill 47 = .ok (.iinc 2 1, 3) := by decide +kernel
theorem dX4_kill_50 : decode cX4_kill 50 = .ok (.goto (-41), 3) := by decide +kernel
theorem dX4_kill_53 : decode cX4_kill 53 = .ok (.iload_n 1, 1) := by decide +kernel
theorem dX4_kill_54 : decode cX4_kill 54 = .ok (.ireturn, 1) := by decide +kernel
theorem dX4_limit_0 : decode cX4_limit 0 = .ok (.aload_n 0, 1) := by decide +kernel
theorem dX4_limit_1 : decode cX4_limit 1 = .ok (.iload_n 1, 1) := by decide +kernel
theorem dX4_limit_2 : decode cX4_limit 2 = .ok (.i2l, 1) := by decide +kernel
theorem dX4_limit_3 : decode cX4_limit 3 = .ok (.lconst 0, 1) := by decide +kernel
theorem dX4_limit_4 : decode cX4_limit 4 = .ok (.ldc2_w 108, 3) := by decide +kernel
theorem dX4_limit_7 : decode cX4_limit 7 = .ok (.invokestatic 79, 3) := by decide +kernel
theorem dX4_limit_10 : decode cX4_limit 10 = .ok (.ifCond .eq 7, 3) := by decide +kernel
theorem dX4_limit_13 : decode cX4_limit 13 = .ok (.iconst 0, 1) := by decide +kernel
theorem dX4_limit_14 : decode cX4_limit 14 = .ok (.goto 4, 3) := by decide +kernel
theorem dX4_limit_17 : decode cX4_limit 17 = .ok (.iconst 1, 1) := by decide +kernel
theorem dX4_limit_18 : decode cX4_limit 18 = .ok (.putfield 73, 3) := by decide +kernel
theorem dX4_limit_21 : decode cX4_limit 21 = .ok (.aload_n 0, 1) := by decide +kernel
theorem dX4_limit_22 : decode cX4_limit 22 = .ok (.getfield 73, 3) := by decide +kernel
theorem dX4_limit_25 : decode cX4_limit 25 = .ok (.ifCond .le 5, 3) := by decide +kernel
theorem dX4_limit_28 : decode cX4_limit 28 = .ok (.iconst 0, 1) := by decide +kernel
theorem dX4_limit_29 : decode cX4_limit 29 = .ok (.ireturn, 1) := by decide +kernel
theorem dX4_limit_30 : decode cX4_limit 30 = .ok (.aload_n 0, 1) := by decide +kernel
theorem dX4_limit_31 : decode cX4_limit 31 = .ok (.getfield 61, 3) := by decide +kernel
theorem dX4_limit_34 : decode cX4_limit 34 = .ok (.istore_n 2, 1) := by decide +kernel
theorem dX4_limit_35 : decode cX4_limit 35 = .ok (.aload_n 0, 1) := by decide +kernel
theorem dX4_limit_36 : decode cX4_limit 36 = .ok (.iload_n 1, 1) := by decide +kernel
theorem dX4_limit_37 : decode cX4_limit 37 = .ok (.putfield 61, 3) := by decide +kernel
theorem dX4_limit_40 : decode cX4_limit 40 = .ok (.iload_n 2, 1) := by decide +kernel
theorem dX4_limit_41 : decode cX4_limit 41 = .ok (.ireturn, 1) := by decide +kernel
theorem dX4_least_0 : decode cX4_least 0 = .ok (.iload_n 0, 1) := by decide +kernel
theorem dX4_least_1 : decode cX4_least 1 = .ok (.iload_n 1, 1) := by decide +kernel
theorem dX4_least_2 : decode cX4_least 2 = .ok (.if_icmp .ge 7, 3) := by decide +kernel
theorem dX4_least_5 : decode cX4_least 5 = .ok (.iload_n 0, 1) := by decide +kernel
theorem dX4_least_6 : decode cX4_least 6 = .ok (.goto 4, 3) := by decide +kernel
theorem dX4_least_9 : decode cX4_least 9 = .ok (.iload_n 1, 1) := by decide +kernel
theorem dX4_least_10 : decode cX4_least 10 = .ok (.ireturn, 1) := by decide +kernel
theorem dX4_deals_0 : decode cX4_deals 0 = .ok (.aload_n 0, 1) := by decide +kernel
theorem dX4_deals_1 : decode cX4_deals 1 = .ok (.getfield 51, 3) := by decide +kernel
theorem dX4_deals_4 : decode cX4_deals 4 = .ok (.iload_n 1, 1) := by decide +kernel
theorem dX4_deals_5 : decode cX4_deals 5 = .ok (.iload_n 2, 1) := by decide +kernel
theorem dX4_deals_6 : decode cX4_deals 6 = .ok (.invokestatic 113, 3) := by decide +kernel
theorem dX4_deals_9 : decode cX4_deals 9 = .ok (.dup2, 1) := by decide +kernel
theorem dX4_deals_10 : decode cX4_deals 10 = .ok (.iaload, 1) := by decide +kernel
theorem dX4_deals_11 : decode cX4_deals 11 = .ok (.iload_n 3, 1) := by decide +kernel
theorem dX4_deals_12 : decode cX4_deals 12 = .ok (.iadd, 1) := by decide +kernel
theorem dX4_deals_13 : decode cX4_deals 13 = .ok (.iastore, 1) := by decide +kernel
theorem dX4_deals_14 : decode cX4_deals 14 = .ok (.aload_n 0, 1) := by decide +kernel
theorem dX4_deals_15 : decode cX4_deals 15 = .ok (.getfield 51, 3) := by decide +kernel
theorem dX4_deals_18 : decode cX4_deals 18 = .ok (.iconst (-1), 1) := by decide +kernel
theorem dX4_deals_19 : decode cX4_deals 19 = .ok (.iload_n 2, 1) := by decide +kernel
theorem dX4_deals_20 : decode cX4_deals 20 = .ok (.invokestatic 113, 3) := by decide +kernel
theorem dX4_deals_23 : decode cX4_deals 23 = .ok (.dup2, 1) := by decide +kernel
theorem dX4_deals_24 : decode cX4_deals 24 = .ok (.iaload, 1) := by decide +kernel
theorem dX4_deals_25 : decode cX4_deals 25 = .ok (.iload_n 3, 1) := by decide +kernel
theorem dX4_deals_26 : decode cX4_deals 26 = .ok (.isub, 1) := by decide +kernel
theorem dX4_deals_27 : decode cX4_deals 27 = .ok (.iastore, 1) := by decide +kernel
theorem dX4_deals_28 : decode cX4_deals 28 = .ok (.aload_n 0, 1) := by decide +kernel
theorem dX4_deals_29 : decode cX4_deals 29 = .ok (.getfield 57, 3) := by decide +kernel
theorem dX4_deals_32 : decode cX4_deals 32 = .ok (.iload_n 1, 1) := by decide +kernel
theorem dX4_deals_33 : decode cX4_deals 33 = .ok (.dup2, 1) := by decide +kernel
theorem dX4_deals_34 : decode cX4_deals 34 = .ok (.laload, 1) := by decide +kernel
theorem dX4_deals_35 : decode cX4_deals 35 = .ok (.ldc2_w 108, 3) := by decide +kernel
theorem dX4_deals_38 : decode cX4_deals 38 = .ok (.iload 4, 2) := by decide +kernel
theorem dX4_deals_40 : decode cX4_deals 40 = .ok (.i2l, 1) := by decide +kernel
theorem dX4_deals_41 : decode cX4_deals 41 = .ok (.lmul, 1) := by decide +kernel
theorem dX4_deals_42 : decode cX4_deals 42 = .ok (.iload_n 3, 1) := by decide +kernel
theorem dX4_deals_43 : decode cX4_deals 43 = .ok (.i2l, 1) := by decide +kernel
theorem dX4_deals_44 : decode cX4_deals 44 = .ok (.lmul, 1) := by decide +kernel
theorem dX4_deals_45 : decode cX4_deals 45 = .ok (.lsub, 1) := by decide +kernel
theorem dX4_deals_46 : decode cX4_deals 46 = .ok (.lastore, 1) := by decide +kernel
theorem dX4_deals_47 : decode cX4_deals 47 = .ok (.aload_n 0, 1) := by decide +kernel
theorem dX4_deals_48 : decode cX4_deals 48 = .ok (.getfield 57, 3) := by decide +kernel
theorem dX4_deals_51 : decode cX4_deals 51 = .ok (.bipush 6, 2) := by decide +kernel
theorem dX4_deals_53 : decode cX4_deals 53 = .ok (.dup2, 1) := by decide +kernel
theorem dX4_deals_54 : decode cX4_deals 54 = .ok (.laload, 1) := by decide +kernel
theorem dX4_deals_55 : decode cX4_deals 55 = .ok (.ldc2_w 108, 3) := by decide +kernel
theorem dX4_deals_58 : decode cX4_deals 58 = .ok (.iload 4, 2) := by decide +kernel
theorem dX4_deals_60 : decode cX4_deals 60 = .ok (.i2l, 1) := by decide +kernel
theorem dX4_deals_61 : decode cX4_deals 61 = .ok (.lmul, 1) := by decide +kernel
theorem dX4_deals_62 : decode cX4_deals 62 = .ok (.iload_n 3, 1) := by decide +kernel
theorem dX4_deals_63 : decode cX4_deals 63 = .ok (.i2l, 1) := by decide +kernel
theorem dX4_deals_64 : decode cX4_deals 64 = .ok (.lmul, 1) := by decide +kernel
theorem dX4_deals_65 : decode cX4_deals 65 = .ok (.ladd, 1) := by decide +kernel
theorem dX4_deals_66 : decode cX4_deals 66 = .ok (.lastore, 1) := by decide +kernel
theorem dX4_deals_67 : decode cX4_deals 67 = .ok (.return_, 1) := by decide +kernel
theorem dX4_order_0 : decode cX4_order 0 = .ok (.iload_n 1, 1) := by decide +kernel
theorem dX4_order_1 : decode cX4_order 1 = .ok (.i2l, 1) := by decide +kernel
theorem dX4_order_2 : decode cX4_order 2 = .ok (.lconst 0, 1) := by decide +kernel
theorem dX4_order_3 : decode cX4_order 3 = .ok (.ldc2_w 85, 3) := by decide +kernel
theorem dX4_order_6 : decode cX4_order 6 = .ok (.invokestatic 79, 3) := by decide +kernel
theorem dX4_order_9 : decode cX4_order 9 = .ok (.ifCond .eq 15, 3) := by decide +kernel
theorem dX4_order_12 : decode cX4_order 12 = .ok (.aload_n 0, 1) := by decide +kernel
theorem dX4_order_13 : decode cX4_order 13 = .ok (.iload_n 2, 1) := by decide +kernel
theorem dX4_order_14 : decode cX4_order 14 = .ok (.invokevirtual 146, 3) := by decide +kernel
theorem dX4_order_17 : decode cX4_order 17 = .ok (.ifCond .eq 7, 3) := by decide +kernel
theorem dX4_order_20 : decode cX4_order 20 = .ok (.iconst 1, 1) := by decide +kernel
theorem dX4_order_21 : decode cX4_order 21 = .ok (.goto 4, 3) := by decide +kernel
theorem dX4_order_24 : decode cX4_order 24 = .ok (.iconst 0, 1) := by decide +kernel
theorem dX4_order_25 : decode cX4_order 25 = .ok (.istore 5, 2) := by decide +kernel
theorem dX4_order_27 : decode cX4_order 27 = .ok (.iload_n 3, 1) := by decide +kernel
theorem dX4_order_28 : decode cX4_order 28 = .ok (.i2l, 1) := by decide +kernel
theorem dX4_order_29 : decode cX4_order 29 = .ok (.ldc2_w 156, 3) := by decide +kernel
theorem dX4_order_32 : decode cX4_order 32 = .ok (.ldc2_w 144, 3) := by decide +kernel
theorem dX4_order_35 : decode cX4_order 35 = .ok (.invokestatic 79, 3) := by decide +kernel
theorem dX4_order_38 : decode cX4_order 38 = .ok (.ifCond .eq 24, 3) := by decide +kernel
theorem dX4_order_41 : decode cX4_order 41 = .ok (.iload_n 3, 1) := by decide +kernel
theorem dX4_order_42 : decode cX4_order 42 = .ok (.ifCond .eq 20, 3) := by decide +kernel
theorem dX4_order_45 : decode cX4_order 45 = .ok (.iload 4, 2) := by decide +kernel
theorem dX4_order_47 : decode cX4_order 47 = .ok (.i2l, 1) := by decide +kernel
theorem dX4_order_48 : decode cX4_order 48 = .ok (.lconst 0, 1) := by decide +kernel
theorem dX4_order_49 : decode cX4_order 49 = .ok (.ldc2_w 125, 3) := by decide +kernel
theorem dX4_order_52 : decode cX4_order 52 = .ok (.invokestatic 79, 3) := by decide +kernel
theorem dX4_order_55 : decode cX4_order 55 = .ok (.ifCond .eq 7, 3) := by decide +kernel
theorem dX4_order_58 : decode cX4_order 58 = .ok (.iconst 1, 1) := by decide +kernel
theorem dX4_order_59 : decode cX4_order 59 = .ok (.goto 4, 3) := by decide +kernel
theorem dX4_order_62 : decode cX4_order 62 = .ok (.iconst 0, 1) := by decide +kernel
theorem dX4_order_63 : decode cX4_order 63 = .ok (.istore 6, 2) := by decide +kernel
theorem dX4_order_65 : decode cX4_order 65 = .ok (.aload_n 0, 1) := by decide +kernel
theorem dX4_order_66 : decode cX4_order 66 = .ok (.iload 5, 2) := by decide +kernel
theorem dX4_order_68 : decode cX4_order 68 = .ok (.ifCond .ne 7, 3) := by decide +kernel
theorem dX4_order_71 : decode cX4_order 71 = .ok (.iconst 1, 1) := by decide +kernel
theorem dX4_order_72 : decode cX4_order 72 = .ok (.goto 26, 3) := by decide +kernel
theorem dX4_order_75 : decode cX4_order 75 = .ok (.iload 6, 2) := by decide +kernel
theorem dX4_order_77 : decode cX4_order 77 = .ok (.ifCond .ne 7, 3) := by decide +kernel
theorem dX4_order_80 : decode cX4_order 80 = .ok (.iconst 2, 1) := by decide +kernel
theorem dX4_order_81 : decode cX4_order 81 = .ok (.goto 17, 3) := by decide +kernel
theorem dX4_order_84 : decode cX4_order 84 = .ok (.aload_n 0, 1) := by decide +kernel
theorem dX4_order_85 : decode cX4_order 85 = .ok (.getfield 36, 3) := by decide +kernel
theorem dX4_order_88 : decode cX4_order 88 = .ok (.iload_n 2, 1) := by decide +kernel
theorem dX4_order_89 : decode cX4_order 89 = .ok (.baload, 1) := by decide +kernel
theorem dX4_order_90 : decode cX4_order 90 = .ok (.ifCond .eq 7, 3) := by decide +kernel
theorem dX4_order_93 : decode cX4_order 93 = .ok (.iconst 3, 1) := by decide +kernel
theorem dX4_order_94 : decode cX4_order 94 = .ok (.goto 4, 3) := by decide +kernel
theorem dX4_order_97 : decode cX4_order 97 = .ok (.iconst 0, 1) := by decide +kernel
theorem dX4_order_98 : decode cX4_order 98 = .ok (.putfield 73, 3) := by decide +kernel
theorem dX4_order_101 : decode cX4_order 101 = .ok (.aload_n 0, 1) := by decide +kernel
theorem dX4_order_102 : decode cX4_order 102 = .ok (.getfield 73, 3) := by decide +kernel
theorem dX4_order_105 : decode cX4_order 105 = .ok (.ifCond .le 5, 3) := by decide +kernel
theorem dX4_order_108 : decode cX4_order 108 = .ok (.iconst 0, 1) := by decide +kernel
theorem dX4_order_109 : decode cX4_order 109 = .ok (.ireturn, 1) := by decide +kernel
theorem dX4_order_110 : decode cX4_order 110 = .ok (.aload_n 0, 1) := by decide +kernel
theorem dX4_order_111 : decode cX4_order 111 = .ok (.aload_n 0, 1) := by decide +kernel
theorem dX4_order_112 : decode cX4_order 112 = .ok (.getfield 7, 3) := by decide +kernel
theorem dX4_order_115 : decode cX4_order 115 = .ok (.invokevirtual 121, 3) := by decide +kernel
theorem dX4_order_118 : decode cX4_order 118 = .ok (.lstore 7, 2) := by decide +kernel
theorem dX4_order_120 : decode cX4_order 120 = .ok (.aload_n 0, 1) := by decide +kernel
theorem dX4_order_121 : decode cX4_order 121 = .ok (.getfield 51, 3) := by decide +kernel
theorem dX4_order_124 : decode cX4_order 124 = .ok (.iconst (-1), 1) := by decide +kernel
theorem dX4_order_125 : decode cX4_order 125 = .ok (.iload_n 2, 1) := by decide +kernel
theorem dX4_order_126 : decode cX4_order 126 = .ok (.invokestatic 113, 3) := by decide +kernel
theorem dX4_order_129 : decode cX4_order 129 = .ok (.iaload, 1) := by decide +kernel
theorem dX4_order_130 : decode cX4_order 130 = .ok (.istore 9, 2) := by decide +kernel
theorem dX4_order_132 : decode cX4_order 132 = .ok (.iconst 0, 1) := by decide +kernel
theorem dX4_order_133 : decode cX4_order 133 = .ok (.istore 10, 2) := by decide +kernel
theorem dX4_order_135 : decode cX4_order 135 = .ok (.iload_n 3, 1) := by decide +kernel
theorem dX4_order_136 : decode cX4_order 136 = .ok (.ifCond .le 77, 3) := by decide +kernel
theorem dX4_order_139 : decode cX4_order 139 = .ok (.iload 4, 2) := by decide +kernel
theorem dX4_order_141 : decode cX4_order 141 = .ok (.aload_n 0, 1) := by decide +kernel
theorem dX4_order_142 : decode cX4_order 142 = .ok (.getfield 42, 3) := by decide +kernel
theorem dX4_order_145 : decode cX4_order 145 = .ok (.iload_n 2, 1) := by decide +kernel
theorem dX4_order_146 : decode cX4_order 146 = .ok (.iaload, 1) := by decide +kernel
theorem dX4_order_147 : decode cX4_order 147 = .ok (.if_icmp .lt 66, 3) := by decide +kernel
theorem dX4_order_150 : decode cX4_order 150 = .ok (.iload_n 3, 1) := by decide +kernel
theorem dX4_order_151 : decode cX4_order 151 = .ok (.aload_n 0, 1) := by decide +kernel
theorem dX4_order_152 : decode cX4_order 152 = .ok (.getfield 48, 3) := by decide +kernel
theorem dX4_order_155 : decode cX4_order 155 = .ok (.iload_n 2, 1) := by decide +kernel
theorem dX4_order_156 : decode cX4_order 156 = .ok (.iaload, 1) := by decide +kernel
theorem dX4_order_157 : decode cX4_order 157 = .ok (.invokestatic 158, 3) := by decide +kernel
theorem dX4_order_160 : decode cX4_order 160 = .ok (.iload 9, 2) := by decide +kernel
theorem dX4_order_162 : decode cX4_order 162 = .ok (.aload_n 0, 1) := by decide +kernel
theorem dX4_order_163 : decode cX4_order 163 = .ok (.getfield 61, 3) := by decide +kernel
theorem dX4_order_166 : decode cX4_order 166 = .ok (.iadd, 1) := by decide +kernel
theorem dX4_order_167 : decode cX4_order 167 = .ok (.invokestatic 158, 3) := by decide +kernel
theorem dX4_order_170 : decode cX4_order 170 = .ok (.istore 10, 2) := by decide +kernel
theorem dX4_order_172 : decode cX4_order 172 = .ok (.iload 10, 2) := by decide +kernel
theorem dX4_order_174 : decode cX4_order 174 = .ok (.ifCond .ge 7, 3) := by decide +kernel
theorem dX4_order_177 : decode cX4_order 177 = .ok (.iconst 0, 1) := by decide +kernel
theorem dX4_order_178 : decode cX4_order 178 = .ok (.goto 5, 3) := by decide +kernel
theorem dX4_order_181 : decode cX4_order 181 = .ok (.iload 10, 2) := by decide +kernel
theorem dX4_order_183 : decode cX4_order 183 = .ok (.istore 10, 2) := by decide +kernel
theorem dX4_order_185 : decode cX4_order 185 = .ok (.aload_n 0, 1) := by decide +kernel
theorem dX4_order_186 : decode cX4_order 186 = .ok (.getfield 48, 3) := by decide +kernel
theorem dX4_order_189 : decode cX4_order 189 = .ok (.iload_n 2, 1) := by decide +kernel
theorem dX4_order_190 : decode cX4_order 190 = .ok (.dup2, 1) := by decide +kernel
theorem dX4_order_191 : decode cX4_order 191 = .ok (.iaload, 1) := by decide +kernel
theorem dX4_order_192 : decode cX4_order 192 = .ok (.iload 10, 2) := by decide +kernel
theorem dX4_order_194 : decode cX4_order 194 = .ok (.isub, 1) := by decide +kernel
theorem dX4_order_195 : decode cX4_order 195 = .ok (.iastore, 1) := by decide +kernel
theorem dX4_order_196 : decode cX4_order 196 = .ok (.aload_n 0, 1) := by decide +kernel
theorem dX4_order_197 : decode cX4_order 197 = .ok (.iload_n 1, 1) := by decide +kernel
theorem dX4_order_198 : decode cX4_order 198 = .ok (.iload_n 2, 1) := by decide +kernel
theorem dX4_order_199 : decode cX4_order 199 = .ok (.iload 10, 2) := by decide +kernel
theorem dX4_order_201 : decode cX4_order 201 = .ok (.aload_n 0, 1) := by decide +kernel
theorem dX4_order_202 : decode cX4_order 202 = .ok (.getfield 42, 3) := by decide +kernel
theorem dX4_order_205 : decode cX4_order 205 = .ok (.iload_n 2, 1) := by decide +kernel
theorem dX4_order_206 : decode cX4_order 206 = .ok (.iaload, 1) := by decide +kernel
theorem dX4_order_207 : decode cX4_order 207 = .ok (.invokevirtual 161, 3) := by decide +kernel
theorem dX4_order_210 : decode cX4_order 210 = .ok (.goto 80, 3) := by decide +kernel
theorem dX4_order_213 : decode cX4_order 213 = .ok (.iload_n 3, 1) := by decide +kernel
theorem dX4_order_214 : decode cX4_order 214 = .ok (.ifCond .ge 76, 3) := by decide +kernel
theorem dX4_order_217 : decode cX4_order 217 = .ok (.iload 4, 2) := by decide +kernel
theorem dX4_order_219 : decode cX4_order 219 = .ok (.aload_n 0, 1) := by decide +kernel
theorem dX4_order_220 : decode cX4_order 220 = .ok (.getfield 39, 3) := by decide +kernel
theorem dX4_order_223 : decode cX4_order 223 = .ok (.iload_n 2, 1) := by decide +kernel
theorem dX4_order_224 : decode cX4_order 224 = .ok (.iaload, 1) := by decide +kernel
theorem dX4_order_225 : decode cX4_order 225 = .ok (.if_icmp .gt 65, 3) := by decide +kernel
theorem dX4_order_228 : decode cX4_order 228 = .ok (.iload_n 3, 1) := by decide +kernel
theorem dX4_order_229 : decode cX4_order 229 = .ok (.ineg, 1) := by decide +kernel
theorem dX4_order_230 : decode cX4_order 230 = .ok (.aload_n 0, 1) := by decide +kernel
theorem dX4_order_231 : decode cX4_order 231 = .ok (.getfield 45, 3) := by decide +kernel
theorem dX4_order_234 : decode cX4_order 234 = .ok (.iload_n 2, 1) := by decide +kernel
theorem dX4_order_235 : decode cX4_order 235 = .ok (.iaload, 1) := by decide +kernel
theorem dX4_order_236 : decode cX4_order 236 = .ok (.invokestatic 158, 3) := by decide +kernel
theorem dX4_order_239 : decode cX4_order 239 = .ok (.aload_n 0, 1) := by decide +kernel
theorem dX4_order_240 : decode cX4_order 240 = .ok (.getfield 61, 3) := by decide +kernel
theorem dX4_order_243 : decode cX4_order 243 = .ok (.iload 9, 2) := by decide +kernel
theorem dX4_order_245 : decode cX4_order 245 = .ok (.isub, 1) := by decide +kernel
theorem dX4_order_246 : decode cX4_order 246 = .ok (.invokestatic 158, 3) := by decide +kernel
theorem dX4_order_249 : decode cX4_order 249 = .ok (.istore 10, 2) := by decide +kernel
theorem dX4_order_251 : decode cX4_order 251 = .ok (.iload 10, 2) := by decide +kernel
theorem dX4_order_253 : decode cX4_order 253 = .ok (.ifCond .ge 7, 3) := by decide +kernel
theorem dX4_order_256 : decode cX4_order 256 = .ok (.iconst 0, 1) := by decide +kernel
theorem dX4_order_257 : decode cX4_order 257 = .ok (.goto 5, 3) := by decide +kernel
theorem dX4_order_260 : decode cX4_order 260 = .ok (.iload 10, 2) := by decide +kernel
theorem dX4_order_262 : decode cX4_order 262 = .ok (.istore 10, 2) := by decide +kernel
theorem dX4_order_264 : decode cX4_order 264 = .ok (.aload_n 0, 1) := by decide +kernel
theorem dX4_order_265 : decode cX4_order 265 = .ok (.getfield 45, 3) := by decide +kernel
theorem dX4_order_268 : decode cX4_order 268 = .ok (.iload_n 2, 1) := by decide +kernel
theorem dX4_order_269 : decode cX4_order 269 = .ok (.dup2, 1) := by decide +kernel
theorem dX4_order_270 : decode cX4_order 270 = .ok (.iaload, 1) := by decide +kernel
theorem dX4_order_271 : decode cX4_order 271 = .ok (.iload 10, 2) := by decide +kernel
theorem dX4_order_273 : decode cX4_order 273 = .ok (.isub, 1) := by decide +kernel
theorem dX4_order_274 : decode cX4_order 274 = .ok (.iastore, 1) := by decide +kernel
theorem dX4_order_275 : decode cX4_order 275 = .ok (.aload_n 0, 1) := by decide +kernel
theorem dX4_order_276 : decode cX4_order 276 = .ok (.iload_n 1, 1) := by decide +kernel
theorem dX4_order_277 : decode cX4_order 277 = .ok (.iload_n 2, 1) := by decide +kernel
theorem dX4_order_278 : decode cX4_order 278 = .ok (.iload 10, 2) := by decide +kernel
theorem dX4_order_280 : decode cX4_order 280 = .ok (.ineg, 1) := by decide +kernel
theorem dX4_order_281 : decode cX4_order 281 = .ok (.aload_n 0, 1) := by decide +kernel
theorem dX4_order_282 : decode cX4_order 282 = .ok (.getfield 39, 3) := by decide +kernel
theorem dX4_order_285 : decode cX4_order 285 = .ok (.iload_n 2, 1) := by decide +kernel
theorem dX4_order_286 : decode cX4_order 286 = .ok (.iaload, 1) := by decide +kernel
theorem dX4_order_287 : decode cX4_order 287 = .ok (.invokevirtual 161, 3) := by decide +kernel
theorem dX4_order_290 : decode cX4_order 290 = .ok (.aload_n 0, 1) := by decide +kernel
theorem dX4_order_291 : decode cX4_order 291 = .ok (.getfield 67, 3) := by decide +kernel
theorem dX4_order_294 : decode cX4_order 294 = .ok (.iconst 0, 1) := by decide +kernel
theorem dX4_order_295 : decode cX4_order 295 = .ok (.dup2, 1) := by decide +kernel
theorem dX4_order_296 : decode cX4_order 296 = .ok (.laload, 1) := by decide +kernel
theorem dX4_order_297 : decode cX4_order 297 = .ok (.aload_n 0, 1) := by decide +kernel
theorem dX4_order_298 : decode cX4_order 298 = .ok (.aload_n 0, 1) := by decide +kernel
theorem dX4_order_299 : decode cX4_order 299 = .ok (.getfield 7, 3) := by decide +kernel
theorem dX4_order_302 : decode cX4_order 302 = .ok (.invokevirtual 121, 3) := by decide +kernel
theorem dX4_order_305 : decode cX4_order 305 = .ok (.lload 7, 2) := by decide +kernel
theorem dX4_order_307 : decode cX4_order 307 = .ok (.lsub, 1) := by decide +kernel
theorem dX4_order_308 : decode cX4_order 308 = .ok (.ladd, 1) := by decide +kernel
theorem dX4_order_309 : decode cX4_order 309 = .ok (.lastore, 1) := by decide +kernel
theorem dX4_order_310 : decode cX4_order 310 = .ok (.iload 10, 2) := by decide +kernel
theorem dX4_order_312 : decode cX4_order 312 = .ok (.ireturn, 1) := by decide +kernel
theorem dX4_hedge_0 : decode cX4_hedge 0 = .ok (.iload_n 1, 1) := by decide +kernel
theorem dX4_hedge_1 : decode cX4_hedge 1 = .ok (.i2l, 1) := by decide +kernel
theorem dX4_hedge_2 : decode cX4_hedge 2 = .ok (.ldc2_w 165, 3) := by decide +kernel
theorem dX4_hedge_5 : decode cX4_hedge 5 = .ok (.ldc2_w 167, 3) := by decide +kernel
theorem dX4_hedge_8 : decode cX4_hedge 8 = .ok (.invokestatic 79, 3) := by decide +kernel
theorem dX4_hedge_11 : decode cX4_hedge 11 = .ok (.ifCond .eq 38, 3) := by decide +kernel
theorem dX4_hedge_14 : decode cX4_hedge 14 = .ok (.iload_n 2, 1) := by decide +kernel
theorem dX4_hedge_15 : decode cX4_hedge 15 = .ok (.i2l, 1) := by decide +kernel
theorem dX4_hedge_16 : decode cX4_hedge 16 = .ok (.lconst 0, 1) := by decide +kernel
theorem dX4_hedge_17 : decode cX4_hedge 17 = .ok (.ldc2_w 167, 3) := by decide +kernel
theorem dX4_hedge_20 : decode cX4_hedge 20 = .ok (.invokestatic 79, 3) := by decide +kernel
theorem dX4_hedge_23 : decode cX4_hedge 23 = .ok (.ifCond .eq 26, 3) := by decide +kernel
theorem dX4_hedge_26 : decode cX4_hedge 26 = .ok (.aload_n 0, 1) := by decide +kernel
theorem dX4_hedge_27 : decode cX4_hedge 27 = .ok (.getfield 110, 3) := by decide +kernel
theorem dX4_hedge_30 : decode cX4_hedge 30 = .ok (.iload_n 1, 1) := by decide +kernel
theorem dX4_hedge_31 : decode cX4_hedge 31 = .ok (.iadd, 1) := by decide +kernel
theorem dX4_hedge_32 : decode cX4_hedge 32 = .ok (.i2l, 1) := by decide +kernel
theorem dX4_hedge_33 : decode cX4_hedge 33 = .ok (.ldc2_w 169, 3) := by decide +kernel
theorem dX4_hedge_36 : decode cX4_hedge 36 = .ok (.ldc2_w 171, 3) := by decide +kernel
theorem dX4_hedge_39 : decode cX4_hedge 39 = .ok (.invokestatic 79, 3) := by decide +kernel
theorem dX4_hedge_42 : decode cX4_hedge 42 = .ok (.ifCond .eq 7, 3) := by decide +kernel
theorem dX4_hedge_45 : decode cX4_hedge 45 = .ok (.iconst 1, 1) := by decide +kernel
theorem dX4_hedge_46 : decode cX4_hedge 46 = .ok (.goto 4, 3) := by decide +kernel
theorem dX4_hedge_49 : decode cX4_hedge 49 = .ok (.iconst 0, 1) := by decide +kernel
theorem dX4_hedge_50 : decode cX4_hedge 50 = .ok (.istore_n 3, 1) := by decide +kernel
theorem dX4_hedge_51 : decode cX4_hedge 51 = .ok (.aload_n 0, 1) := by decide +kernel
theorem dX4_hedge_52 : decode cX4_hedge 52 = .ok (.iload_n 3, 1) := by decide +kernel
theorem dX4_hedge_53 : decode cX4_hedge 53 = .ok (.ifCond .eq 7, 3) := by decide +kernel
theorem dX4_hedge_56 : decode cX4_hedge 56 = .ok (.iconst 0, 1) := by decide +kernel
theorem dX4_hedge_57 : decode cX4_hedge 57 = .ok (.goto 4, 3) := by decide +kernel
theorem dX4_hedge_60 : decode cX4_hedge 60 = .ok (.iconst 1, 1) := by decide +kernel
theorem dX4_hedge_61 : decode cX4_hedge 61 = .ok (.putfield 73, 3) := by decide +kernel
theorem dX4_hedge_64 : decode cX4_hedge 64 = .ok (.aload_n 0, 1) := by decide +kernel
theorem dX4_hedge_65 : decode cX4_hedge 65 = .ok (.getfield 73, 3) := by decide +kernel
theorem dX4_hedge_68 : decode cX4_hedge 68 = .ok (.ifCond .le 5, 3) := by decide +kernel
theorem dX4_hedge_71 : decode cX4_hedge 71 = .ok (.iconst 0, 1) := by decide +kernel
theorem dX4_hedge_72 : decode cX4_hedge 72 = .ok (.ireturn, 1) := by decide +kernel
theorem dX4_hedge_73 : decode cX4_hedge 73 = .ok (.aload_n 0, 1) := by decide +kernel
theorem dX4_hedge_74 : decode cX4_hedge 74 = .ok (.aload_n 0, 1) := by decide +kernel
theorem dX4_hedge_75 : decode cX4_hedge 75 = .ok (.getfield 7, 3) := by decide +kernel
theorem dX4_hedge_78 : decode cX4_hedge 78 = .ok (.invokevirtual 121, 3) := by decide +kernel
theorem dX4_hedge_81 : decode cX4_hedge 81 = .ok (.lstore 4, 2) := by decide +kernel
theorem dX4_hedge_83 : decode cX4_hedge 83 = .ok (.aload_n 0, 1) := by decide +kernel
theorem dX4_hedge_84 : decode cX4_hedge 84 = .ok (.iload_n 2, 1) := by decide +kernel
theorem dX4_hedge_85 : decode cX4_hedge 85 = .ok (.putfield 64, 3) := by decide +kernel
theorem dX4_hedge_88 : decode cX4_hedge 88 = .ok (.aload_n 0, 1) := by decide +kernel
theorem dX4_hedge_89 : decode cX4_hedge 89 = .ok (.dup, 1) := by decide +kernel
theorem dX4_hedge_90 : decode cX4_hedge 90 = .ok (.getfield 110, 3) := by decide +kernel
theorem dX4_hedge_93 : decode cX4_hedge 93 = .ok (.iload_n 1, 1) := by decide +kernel
theorem dX4_hedge_94 : decode cX4_hedge 94 = .ok (.iadd, 1) := by decide +kernel
theorem dX4_hedge_95 : decode cX4_hedge 95 = .ok (.putfield 110, 3) := by decide +kernel
theorem dX4_hedge_98 : decode cX4_hedge 98 = .ok (.aload_n 0, 1) := by decide +kernel
theorem dX4_hedge_99 : decode cX4_hedge 99 = .ok (.getfield 57, 3) := by decide +kernel
theorem dX4_hedge_102 : decode cX4_hedge 102 = .ok (.bipush 6, 2) := by decide +kernel
theorem dX4_hedge_104 : decode cX4_hedge 104 = .ok (.dup2, 1) := by decide +kernel
theorem dX4_hedge_105 : decode cX4_hedge 105 = .ok (.laload, 1) := by decide +kernel
theorem dX4_hedge_106 : decode cX4_hedge 106 = .ok (.ldc2_w 108, 3) := by decide +kernel
theorem dX4_hedge_109 : decode cX4_hedge 109 = .ok (.aload_n 0, 1) := by decide +kernel
theorem dX4_hedge_110 : decode cX4_hedge 110 = .ok (.getfield 7, 3) := by decide +kernel
theorem dX4_hedge_113 : decode cX4_hedge 113 = .ok (.i2l, 1) := by decide +kernel
theorem dX4_hedge_114 : decode cX4_hedge 114 = .ok (.lmul, 1) := by decide +kernel
theorem dX4_hedge_115 : decode cX4_hedge 115 = .ok (.iload_n 1, 1) := by decide +kernel
theorem dX4_hedge_116 : decode cX4_hedge 116 = .ok (.i2l, 1) := by decide +kernel
theorem dX4_hedge_117 : decode cX4_hedge 117 = .ok (.lmul, 1) := by decide +kernel
theorem dX4_hedge_118 : decode cX4_hedge 118 = .ok (.aload_n 0, 1) := by decide +kernel
theorem dX4_hedge_119 : decode cX4_hedge 119 = .ok (.getfield 64, 3) := by decide +kernel
theorem dX4_hedge_122 : decode cX4_hedge 122 = .ok (.i2l, 1) := by decide +kernel
theorem dX4_hedge_123 : decode cX4_hedge 123 = .ok (.iload_n 1, 1) := by decide +kernel
theorem dX4_hedge_124 : decode cX4_hedge 124 = .ok (.ifCond .ge 8, 3) := by decide +kernel
theorem dX4_hedge_127 : decode cX4_hedge 127 = .ok (.iload_n 1, 1) := by decide +kernel
theorem dX4_hedge_128 : decode cX4_hedge 128 = .ok (.ineg, 1) := by decide +kernel
theorem dX4_hedge_129 : decode cX4_hedge 129 = .ok (.goto 4, 3) := by decide +kernel
theorem dX4_hedge_132 : decode cX4_hedge 132 = .ok (.iload_n 1, 1) := by decide +kernel
theorem dX4_hedge_133 : decode cX4_hedge 133 = .ok (.i2l, 1) := by decide +kernel
theorem dX4_hedge_134 : decode cX4_hedge 134 = .ok (.lmul, 1) := by decide +kernel
theorem dX4_hedge_135 : decode cX4_hedge 135 = .ok (.ladd, 1) := by decide +kernel
theorem dX4_hedge_136 : decode cX4_hedge 136 = .ok (.lsub, 1) := by decide +kernel
theorem dX4_hedge_137 : decode cX4_hedge 137 = .ok (.lastore, 1) := by decide +kernel
theorem dX4_hedge_138 : decode cX4_hedge 138 = .ok (.aload_n 0, 1) := by decide +kernel
theorem dX4_hedge_139 : decode cX4_hedge 139 = .ok (.getfield 67, 3) := by decide +kernel
theorem dX4_hedge_142 : decode cX4_hedge 142 = .ok (.iconst 3, 1) := by decide +kernel
theorem dX4_hedge_143 : decode cX4_hedge 143 = .ok (.dup2, 1) := by decide +kernel
theorem dX4_hedge_144 : decode cX4_hedge 144 = .ok (.laload, 1) := by decide +kernel
theorem dX4_hedge_145 : decode cX4_hedge 145 = .ok (.aload_n 0, 1) := by decide +kernel
theorem dX4_hedge_146 : decode cX4_hedge 146 = .ok (.aload_n 0, 1) := by decide +kernel
theorem dX4_hedge_147 : decode cX4_hedge 147 = .ok (.getfield 7, 3) := by decide +kernel
theorem dX4_hedge_150 : decode cX4_hedge 150 = .ok (.invokevirtual 121, 3) := by decide +kernel
theorem dX4_hedge_153 : decode cX4_hedge 153 = .ok (.lload 4, 2) := by decide +kernel
theorem dX4_hedge_155 : decode cX4_hedge 155 = .ok (.lsub, 1) := by decide +kernel
theorem dX4_hedge_156 : decode cX4_hedge 156 = .ok (.ladd, 1) := by decide +kernel
theorem dX4_hedge_157 : decode cX4_hedge 157 = .ok (.lastore, 1) := by decide +kernel
theorem dX4_hedge_158 : decode cX4_hedge 158 = .ok (.aload_n 0, 1) := by decide +kernel
theorem dX4_hedge_159 : decode cX4_hedge 159 = .ok (.getfield 110, 3) := by decide +kernel
theorem dX4_hedge_162 : decode cX4_hedge 162 = .ok (.ireturn, 1) := by decide +kernel
theorem dX4_seed_0 : decode cX4_seed 0 = .ok (.aload_n 0, 1) := by decide +kernel
theorem dX4_seed_1 : decode cX4_seed 1 = .ok (.iload_n 1, 1) := by decide +kernel
theorem dX4_seed_2 : decode cX4_seed 2 = .ok (.ifCond .lt 7, 3) := by decide +kernel
theorem dX4_seed_5 : decode cX4_seed 5 = .ok (.iconst 0, 1) := by decide +kernel
theorem dX4_seed_6 : decode cX4_seed 6 = .ok (.goto 4, 3) := by decide +kernel
theorem dX4_seed_9 : decode cX4_seed 9 = .ok (.iconst 1, 1) := by decide +kernel
theorem dX4_seed_10 : decode cX4_seed 10 = .ok (.putfield 73, 3) := by decide +kernel
theorem dX4_seed_13 : decode cX4_seed 13 = .ok (.aload_n 0, 1) := by decide +kernel
theorem dX4_seed_14 : decode cX4_seed 14 = .ok (.getfield 73, 3) := by decide +kernel
theorem dX4_seed_17 : decode cX4_seed 17 = .ok (.ifCond .ne 9, 3) := by decide +kernel
theorem dX4_seed_20 : decode cX4_seed 20 = .ok (.aload_n 0, 1) := by decide +kernel
theorem dX4_seed_21 : decode cX4_seed 21 = .ok (.iload_n 1, 1) := by decide +kernel
theorem dX4_seed_22 : decode cX4_seed 22 = .ok (.i2l, 1) := by decide +kernel
theorem dX4_seed_23 : decode cX4_seed 23 = .ok (.putfield 173, 3) := by decide +kernel
theorem dX4_seed_26 : decode cX4_seed 26 = .ok (.return_, 1) := by decide +kernel
theorem dX4_owed_0 : decode cX4_owed 0 = .ok (.iconst 0, 1) := by decide +kernel
theorem dX4_owed_1 : decode cX4_owed 1 = .ok (.istore_n 2, 1) := by decide +kernel
theorem dX4_owed_2 : decode cX4_owed 2 = .ok (.iconst 0, 1) := by decide +kernel
theorem dX4_owed_3 : decode cX4_owed 3 = .ok (.istore_n 3, 1) := by decide +kernel
theorem dX4_owed_4 : decode cX4_owed 4 = .ok (.iload_n 3, 1) := by decide +kernel
theorem dX4_owed_5 : decode cX4_owed 5 = .ok (.bipush 7, 2) := by decide +kernel
theorem dX4_owed_7 : decode cX4_owed 7 = .ok (.if_icmp .ge 36, 3) := by decide +kernel
theorem dX4_owed_10 : decode cX4_owed 10 = .ok (.aload_n 0, 1) := by decide +kernel
theorem dX4_owed_11 : decode cX4_owed 11 = .ok (.getfield 51, 3) := by decide +kernel
theorem dX4_owed_14 : decode cX4_owed 14 = .ok (.bipush 7, 2) := by decide +kernel
theorem dX4_owed_16 : decode cX4_owed 16 = .ok (.iload_n 1, 1) := by decide +kernel
theorem dX4_owed_17 : decode cX4_owed 17 = .ok (.imul, 1) := by decide +kernel
theorem dX4_owed_18 : decode cX4_owed 18 = .ok (.iload_n 3, 1) := by decide +kernel
theorem dX4_owed_19 : decode cX4_owed 19 = .ok (.iadd, 1) := by decide +kernel
theorem dX4_owed_20 : decode cX4_owed 20 = .ok (.iaload, 1) := by decide +kernel
theorem dX4_owed_21 : decode cX4_owed 21 = .ok (.istore 4, 2) := by decide +kernel
theorem dX4_owed_23 : decode cX4_owed 23 = .ok (.iload_n 2, 1) := by decide +kernel
theorem dX4_owed_24 : decode cX4_owed 24 = .ok (.iload 4, 2) := by decide +kernel
theorem dX4_owed_26 : decode cX4_owed 26 = .ok (.ifCond .ge 8, 3) := by decide +kernel
theorem dX4_owed_29 : decode cX4_owed 29 = .ok (.iload 4, 2) := by decide +kernel
theorem dX4_owed_31 : decode cX4_owed 31 = .ok (.goto 4, 3) := by decide +kernel
theorem dX4_owed_34 : decode cX4_owed 34 = .ok (.iconst 0, 1) := by decide +kernel
theorem dX4_owed_35 : decode cX4_owed 35 = .ok (.isub, 1) := by decide +kernel
theorem dX4_owed_36 : decode cX4_owed 36 = .ok (.istore_n 2, 1) := by decide +kernel
theorem dX4_owed_37 : decode cX4_owed 37 = .ok (.iinc 3 1, 3) := by decide +kernel
theorem dX4_owed_40 : decode cX4_owed 40 = .ok (.goto (-36), 3) := by decide +kernel
theorem dX4_owed_43 : decode cX4_owed 43 = .ok (.iload_n 2, 1) := by decide +kernel
theorem dX4_owed_44 : decode cX4_owed 44 = .ok (.ireturn, 1) := by decide +kernel
theorem dX4_draw_0 : decode cX4_draw 0 = .ok (.aload_n 0, 1) := by decide +kernel
theorem dX4_draw_1 : decode cX4_draw 1 = .ok (.ldc2_w 176, 3) := by decide +kernel
theorem dX4_draw_4 : decode cX4_draw 4 = .ok (.aload_n 0, 1) := by decide +kernel
theorem dX4_draw_5 : decode cX4_draw 5 = .ok (.getfield 173, 3) := by decide +kernel
theorem dX4_draw_8 : decode cX4_draw 8 = .ok (.lmul, 1) := by decide +kernel
theorem dX4_draw_9 : decode cX4_draw 9 = .ok (.ldc2_w 178, 3) := by decide +kernel
theorem dX4_draw_12 : decode cX4_draw 12 = .ok (.ladd, 1) := by decide +kernel
theorem dX4_draw_13 : decode cX4_draw 13 = .ok (.ldc2_w 180, 3) := by decide +kernel
theorem dX4_draw_16 : decode cX4_draw 16 = .ok (.lrem, 1) := by decide +kernel
theorem dX4_draw_17 : decode cX4_draw 17 = .ok (.putfield 173, 3) := by decide +kernel
theorem dX4_draw_20 : decode cX4_draw 20 = .ok (.aload_n 0, 1) := by decide +kernel
theorem dX4_draw_21 : decode cX4_draw 21 = .ok (.getfield 173, 3) := by decide +kernel
theorem dX4_draw_24 : decode cX4_draw 24 = .ok (.ldc2_w 182, 3) := by decide +kernel
theorem dX4_draw_27 : decode cX4_draw 27 = .ok (.ldiv, 1) := by decide +kernel
theorem dX4_draw_28 : decode cX4_draw 28 = .ok (.iload_n 1, 1) := by decide +kernel
theorem dX4_draw_29 : decode cX4_draw 29 = .ok (.i2l, 1) := by decide +kernel
theorem dX4_draw_30 : decode cX4_draw 30 = .ok (.lrem, 1) := by decide +kernel
theorem dX4_draw_31 : decode cX4_draw 31 = .ok (.l2i, 1) := by decide +kernel
theorem dX4_draw_32 : decode cX4_draw 32 = .ok (.ireturn, 1) := by decide +kernel
theorem dX4_exercisesOne_0 : decode cX4_exercisesOne 0 = .ok (.aload_n 0, 1) := by decide +kernel
theorem dX4_exercisesOne_1 : decode cX4_exercisesOne 1 = .ok (.aload_n 0, 1) := by decide +kernel
theorem dX4_exercisesOne_2 : decode cX4_exercisesOne 2 = .ok (.iload_n 2, 1) := by decide +kernel
theorem dX4_exercisesOne_3 : decode cX4_exercisesOne 3 = .ok (.invokevirtual 184, 3) := by decide +kernel
theorem dX4_exercisesOne_6 : decode cX4_exercisesOne 6 = .ok (.invokevirtual 188, 3) := by decide +kernel
theorem dX4_exercisesOne_9 : decode cX4_exercisesOne 9 = .ok (.istore 5, 2) := by decide +kernel
theorem dX4_exercisesOne_11 : decode cX4_exercisesOne 11 = .ok (.iconst 0, 1) := by decide +kernel
theorem dX4_exercisesOne_12 : decode cX4_exercisesOne 12 = .ok (.istore 6, 2) := by decide +kernel
theorem dX4_exercisesOne_14 : decode cX4_exercisesOne 14 = .ok (.aload_n 0, 1) := by decide +kernel
theorem dX4_exercisesOne_15 : decode cX4_exercisesOne 15 = .ok (.getfield 51, 3) := by decide +kernel
theorem dX4_exercisesOne_18 : decode cX4_exercisesOne 18 = .ok (.bipush 7, 2) := by decide +kernel
theorem dX4_exercisesOne_20 : decode cX4_exercisesOne 20 = .ok (.iload_n 2, 1) := by decide +kernel
theorem dX4_exercisesOne_21 : decode cX4_exercisesOne 21 = .ok (.imul, 1) := by decide +kernel
theorem dX4_exercisesOne_22 : decode cX4_exercisesOne 22 = .ok (.iload 6, 2) := by decide +kernel
theorem dX4_exercisesOne_24 : decode cX4_exercisesOne 24 = .ok (.iadd, 1) := by decide +kernel
theorem dX4_exercisesOne_25 : decode cX4_exercisesOne 25 = .ok (.iaload, 1) := by decide +kernel
theorem dX4_exercisesOne_26 : decode cX4_exercisesOne 26 = .ok (.ifCond .ge 21, 3) := by decide +kernel
theorem dX4_exercisesOne_29 : decode cX4_exercisesOne 29 = .ok (.iload 5, 2) := by decide +kernel
theorem dX4_exercisesOne_31 : decode cX4_exercisesOne 31 = .ok (.aload_n 0, 1) := by decide +kernel
theorem dX4_exercisesOne_32 : decode cX4_exercisesOne 32 = .ok (.getfield 51, 3) := by decide +kernel
theorem dX4_exercisesOne_35 : decode cX4_exercisesOne 35 = .ok (.bipush 7, 2) := by decide +kernel
theorem dX4_exercisesOne_37 : decode cX4_exercisesOne 37 = .ok (.iload_n 2, 1) := by decide +kernel
theorem dX4_exercisesOne_38 : decode cX4_exercisesOne 38 = .ok (.imul, 1) := by decide +kernel
theorem dX4_exercisesOne_39 : decode cX4_exercisesOne 39 = .ok (.iload 6, 2) := by decide +kernel
theorem dX4_exercisesOne_41 : decode cX4_exercisesOne 41 = .ok (.iadd, 1) := by decide +kernel
theorem dX4_exercisesOne_42 : decode cX4_exercisesOne 42 = .ok (.iaload, 1) := by decide +kernel
theorem dX4_exercisesOne_43 : decode cX4_exercisesOne 43 = .ok (.ineg, 1) := by decide +kernel
theorem dX4_exercisesOne_44 : decode cX4_exercisesOne 44 = .ok (.if_icmp .lt 45, 3) := by decide +kernel
theorem dX4_exercisesOne_47 : decode cX4_exercisesOne 47 = .ok (.iload 5, 2) := by decide +kernel
theorem dX4_exercisesOne_49 : decode cX4_exercisesOne 49 = .ok (.aload_n 0, 1) := by decide +kernel
theorem dX4_exercisesOne_50 : decode cX4_exercisesOne 50 = .ok (.getfield 51, 3) := by decide +kernel
theorem dX4_exercisesOne_53 : decode cX4_exercisesOne 53 = .ok (.bipush 7, 2) := by decide +kernel
theorem dX4_exercisesOne_55 : decode cX4_exercisesOne 55 = .ok (.iload_n 2, 1) := by decide +kernel
theorem dX4_exercisesOne_56 : decode cX4_exercisesOne 56 = .ok (.imul, 1) := by decide +kernel
theorem dX4_exercisesOne_57 : decode cX4_exercisesOne 57 = .ok (.iload 6, 2) := by decide +kernel
theorem dX4_exercisesOne_59 : decode cX4_exercisesOne 59 = .ok (.iadd, 1) := by decide +kernel
theorem dX4_exercisesOne_60 : decode cX4_exercisesOne 60 = .ok (.iaload, 1) := by decide +kernel
theorem dX4_exercisesOne_61 : decode cX4_exercisesOne 61 = .ok (.ifCond .ge 18, 3) := by decide +kernel
theorem dX4_exercisesOne_64 : decode cX4_exercisesOne 64 = .ok (.aload_n 0, 1) := by decide +kernel
theorem dX4_exercisesOne_65 : decode cX4_exercisesOne 65 = .ok (.getfield 51, 3) := by decide +kernel
theorem dX4_exercisesOne_68 : decode cX4_exercisesOne 68 = .ok (.bipush 7, 2) := by decide +kernel
theorem dX4_exercisesOne_70 : decode cX4_exercisesOne 70 = .ok (.iload_n 2, 1) := by decide +kernel
theorem dX4_exercisesOne_71 : decode cX4_exercisesOne 71 = .ok (.imul, 1) := by decide +kernel
theorem dX4_exercisesOne_72 : decode cX4_exercisesOne 72 = .ok (.iload 6, 2) := by decide +kernel
theorem dX4_exercisesOne_74 : decode cX4_exercisesOne 74 = .ok (.iadd, 1) := by decide +kernel
theorem dX4_exercisesOne_75 : decode cX4_exercisesOne 75 = .ok (.iaload, 1) := by decide +kernel
theorem dX4_exercisesOne_76 : decode cX4_exercisesOne 76 = .ok (.goto 4, 3) := by decide +kernel
theorem dX4_exercisesOne_79 : decode cX4_exercisesOne 79 = .ok (.iconst 0, 1) := by decide +kernel
theorem dX4_exercisesOne_80 : decode cX4_exercisesOne 80 = .ok (.iadd, 1) := by decide +kernel
theorem dX4_exercisesOne_81 : decode cX4_exercisesOne 81 = .ok (.istore 5, 2) := by decide +kernel
theorem dX4_exercisesOne_83 : decode cX4_exercisesOne 83 = .ok (.iinc 6 1, 3) := by decide +kernel
theorem dX4_exercisesOne_86 : decode cX4_exercisesOne 86 = .ok (.goto (-72), 3) := by decide +kernel
theorem dX4_exercisesOne_89 : decode cX4_exercisesOne 89 = .ok (.aload_n 0, 1) := by decide +kernel
theorem dX4_exercisesOne_90 : decode cX4_exercisesOne 90 = .ok (.getfield 51, 3) := by decide +kernel
theorem dX4_exercisesOne_93 : decode cX4_exercisesOne 93 = .ok (.bipush 7, 2) := by decide +kernel
theorem dX4_exercisesOne_95 : decode cX4_exercisesOne 95 = .ok (.iload_n 2, 1) := by decide +kernel
theorem dX4_exercisesOne_96 : decode cX4_exercisesOne 96 = .ok (.imul, 1) := by decide +kernel
theorem dX4_exercisesOne_97 : decode cX4_exercisesOne 97 = .ok (.iload 6, 2) := by decide +kernel
theorem dX4_exercisesOne_99 : decode cX4_exercisesOne 99 = .ok (.iadd, 1) := by decide +kernel
theorem dX4_exercisesOne_100 : decode cX4_exercisesOne 100 = .ok (.dup2, 1) := by decide +kernel
theorem dX4_exercisesOne_101 : decode cX4_exercisesOne 101 = .ok (.iaload, 1) := by decide +kernel
theorem dX4_exercisesOne_102 : decode cX4_exercisesOne 102 = .ok (.iconst 1, 1) := by decide +kernel
theorem dX4_exercisesOne_103 : decode cX4_exercisesOne 103 = .ok (.iadd, 1) := by decide +kernel
theorem dX4_exercisesOne_104 : decode cX4_exercisesOne 104 = .ok (.iastore, 1) := by decide +kernel
theorem dX4_exercisesOne_105 : decode cX4_exercisesOne 105 = .ok (.aload_n 0, 1) := by decide +kernel
theorem dX4_exercisesOne_106 : decode cX4_exercisesOne 106 = .ok (.getfield 51, 3) := by decide +kernel
theorem dX4_exercisesOne_109 : decode cX4_exercisesOne 109 = .ok (.bipush 7, 2) := by decide +kernel
theorem dX4_exercisesOne_111 : decode cX4_exercisesOne 111 = .ok (.iload_n 2, 1) := by decide +kernel
theorem dX4_exercisesOne_112 : decode cX4_exercisesOne 112 = .ok (.imul, 1) := by decide +kernel
theorem dX4_exercisesOne_113 : decode cX4_exercisesOne 113 = .ok (.iload_n 1, 1) := by decide +kernel
theorem dX4_exercisesOne_114 : decode cX4_exercisesOne 114 = .ok (.iadd, 1) := by decide +kernel
theorem dX4_exercisesOne_115 : decode cX4_exercisesOne 115 = .ok (.dup2, 1) := by decide +kernel
theorem dX4_exercisesOne_116 : decode cX4_exercisesOne 116 = .ok (.iaload, 1) := by decide +kernel
theorem dX4_exercisesOne_117 : decode cX4_exercisesOne 117 = .ok (.iconst 1, 1) := by decide +kernel
theorem dX4_exercisesOne_118 : decode cX4_exercisesOne 118 = .ok (.isub, 1) := by decide +kernel
theorem dX4_exercisesOne_119 : decode cX4_exercisesOne 119 = .ok (.iastore, 1) := by decide +kernel
theorem dX4_exercisesOne_120 : decode cX4_exercisesOne 120 = .ok (.aload_n 0, 1) := by decide +kernel
theorem dX4_exercisesOne_121 : decode cX4_exercisesOne 121 = .ok (.getfield 57, 3) := by decide +kernel
theorem dX4_exercisesOne_124 : decode cX4_exercisesOne 124 = .ok (.iload 6, 2) := by decide +kernel
theorem dX4_exercisesOne_126 : decode cX4_exercisesOne 126 = .ok (.dup2, 1) := by decide +kernel
theorem dX4_exercisesOne_127 : decode cX4_exercisesOne 127 = .ok (.laload, 1) := by decide +kernel
theorem dX4_exercisesOne_128 : decode cX4_exercisesOne 128 = .ok (.ldc2_w 108, 3) := by decide +kernel
theorem dX4_exercisesOne_131 : decode cX4_exercisesOne 131 = .ok (.lload_n 3, 1) := by decide +kernel
theorem dX4_exercisesOne_132 : decode cX4_exercisesOne 132 = .ok (.lmul, 1) := by decide +kernel
theorem dX4_exercisesOne_133 : decode cX4_exercisesOne 133 = .ok (.lsub, 1) := by decide +kernel
theorem dX4_exercisesOne_134 : decode cX4_exercisesOne 134 = .ok (.lastore, 1) := by decide +kernel
theorem dX4_exercisesOne_135 : decode cX4_exercisesOne 135 = .ok (.aload_n 0, 1) := by decide +kernel
theorem dX4_exercisesOne_136 : decode cX4_exercisesOne 136 = .ok (.getfield 57, 3) := by decide +kernel
theorem dX4_exercisesOne_139 : decode cX4_exercisesOne 139 = .ok (.iload_n 1, 1) := by decide +kernel
theorem dX4_exercisesOne_140 : decode cX4_exercisesOne 140 = .ok (.dup2, 1) := by decide +kernel
theorem dX4_exercisesOne_141 : decode cX4_exercisesOne 141 = .ok (.laload, 1) := by decide +kernel
theorem dX4_exercisesOne_142 : decode cX4_exercisesOne 142 = .ok (.ldc2_w 108, 3) := by decide +kernel
theorem dX4_exercisesOne_145 : decode cX4_exercisesOne 145 = .ok (.lload_n 3, 1) := by decide +kernel
theorem dX4_exercisesOne_146 : decode cX4_exercisesOne 146 = .ok (.lmul, 1) := by decide +kernel
theorem dX4_exercisesOne_147 : decode cX4_exercisesOne 147 = .ok (.ladd, 1) := by decide +kernel
theorem dX4_exercisesOne_148 : decode cX4_exercisesOne 148 = .ok (.lastore, 1) := by decide +kernel
theorem dX4_exercisesOne_149 : decode cX4_exercisesOne 149 = .ok (.return_, 1) := by decide +kernel
theorem dX4_exercise_0 : decode cX4_exercise 0 = .ok (.aload_n 0, 1) := by decide +kernel
theorem dX4_exercise_1 : decode cX4_exercise 1 = .ok (.iload_n 1, 1) := by decide +kernel
theorem dX4_exercise_2 : decode cX4_exercise 2 = .ok (.invokestatic 191, 3) := by decide +kernel
theorem dX4_exercise_5 : decode cX4_exercise 5 = .ok (.ifCond .eq 11, 3) := by decide +kernel
theorem dX4_exercise_8 : decode cX4_exercise 8 = .ok (.aload_n 0, 1) := by decide +kernel
theorem dX4_exercise_9 : decode cX4_exercise 9 = .ok (.iload_n 2, 1) := by decide +kernel
theorem dX4_exercise_10 : decode cX4_exercise 10 = .ok (.invokevirtual 146, 3) := by decide +kernel
theorem dX4_exercise_13 : decode cX4_exercise 13 = .ok (.ifCond .ne 7, 3) := by decide +kernel
theorem dX4_exercise_16 : decode cX4_exercise 16 = .ok (.iconst 1, 1) := by decide +kernel
theorem dX4_exercise_17 : decode cX4_exercise 17 = .ok (.goto 20, 3) := by decide +kernel
theorem dX4_exercise_20 : decode cX4_exercise 20 = .ok (.iload_n 3, 1) := by decide +kernel
theorem dX4_exercise_21 : decode cX4_exercise 21 = .ok (.i2l, 1) := by decide +kernel
theorem dX4_exercise_22 : decode cX4_exercise 22 = .ok (.lconst 1, 1) := by decide +kernel
theorem dX4_exercise_23 : decode cX4_exercise 23 = .ok (.ldc2_w 108, 3) := by decide +kernel
theorem dX4_exercise_26 : decode cX4_exercise 26 = .ok (.invokestatic 79, 3) := by decide +kernel
theorem dX4_exercise_29 : decode cX4_exercise 29 = .ok (.ifCond .ne 7, 3) := by decide +kernel
theorem dX4_exercise_32 : decode cX4_exercise 32 = .ok (.iconst 2, 1) := by decide +kernel
theorem dX4_exercise_33 : decode cX4_exercise 33 = .ok (.goto 4, 3) := by decide +kernel
theorem dX4_exercise_36 : decode cX4_exercise 36 = .ok (.iconst 0, 1) := by decide +kernel
theorem dX4_exercise_37 : decode cX4_exercise 37 = .ok (.putfield 73, 3) := by decide +kernel
theorem dX4_exercise_40 : decode cX4_exercise 40 = .ok (.aload_n 0, 1) := by decide +kernel
theorem dX4_exercise_41 : decode cX4_exercise 41 = .ok (.getfield 73, 3) := by decide +kernel
theorem dX4_exercise_44 : decode cX4_exercise 44 = .ok (.ifCond .ne 69, 3) := by decide +kernel
theorem dX4_exercise_47 : decode cX4_exercise 47 = .ok (.aload_n 0, 1) := by decide +kernel
theorem dX4_exercise_48 : decode cX4_exercise 48 = .ok (.getfield 51, 3) := by decide +kernel
theorem dX4_exercise_51 : decode cX4_exercise 51 = .ok (.iload_n 1, 1) := by decide +kernel
theorem dX4_exercise_52 : decode cX4_exercise 52 = .ok (.iload_n 2, 1) := by decide +kernel
theorem dX4_exercise_53 : decode cX4_exercise 53 = .ok (.invokestatic 113, 3) := by decide +kernel
theorem dX4_exercise_56 : decode cX4_exercise 56 = .ok (.iaload, 1) := by decide +kernel
theorem dX4_exercise_57 : decode cX4_exercise 57 = .ok (.iload_n 3, 1) := by decide +kernel
theorem dX4_exercise_58 : decode cX4_exercise 58 = .ok (.if_icmp .lt 38, 3) := by decide +kernel
theorem dX4_exercise_61 : decode cX4_exercise 61 = .ok (.aload_n 0, 1) := by decide +kernel
theorem dX4_exercise_62 : decode cX4_exercise 62 = .ok (.getfield 36, 3) := by decide +kernel
theorem dX4_exercise_65 : decode cX4_exercise 65 = .ok (.iload_n 2, 1) := by decide +kernel
theorem dX4_exercise_66 : decode cX4_exercise 66 = .ok (.baload, 1) := by decide +kernel
theorem dX4_exercise_67 : decode cX4_exercise 67 = .ok (.ifCond .ne 29, 3) := by decide +kernel
theorem dX4_exercise_70 : decode cX4_exercise 70 = .ok (.aload_n 0, 1) := by decide +kernel
theorem dX4_exercise_71 : decode cX4_exercise 71 = .ok (.getfield 32, 3) := by decide +kernel
theorem dX4_exercise_74 : decode cX4_exercise 74 = .ok (.iload_n 2, 1) := by decide +kernel
theorem dX4_exercise_75 : decode cX4_exercise 75 = .ok (.baload, 1) := by decide +kernel
theorem dX4_exercise_76 : decode cX4_exercise 76 = .ok (.ifCond .ne 16, 3) := by decide +kernel
theorem dX4_exercise_79 : decode cX4_exercise 79 = .ok (.aload_n 0, 1) := by decide +kernel
theorem dX4_exercise_80 : decode cX4_exercise 80 = .ok (.getfield 29, 3) := by decide +kernel
theorem dX4_exercise_83 : decode cX4_exercise 83 = .ok (.iload_n 2, 1) := by decide +kernel
theorem dX4_exercise_84 : decode cX4_exercise 84 = .ok (.iaload, 1) := by decide +kernel
theorem dX4_exercise_85 : decode cX4_exercise 85 = .ok (.aload_n 0, 1) := by decide +kernel
theorem dX4_exercise_86 : decode cX4_exercise 86 = .ok (.getfield 89, 3) := by decide +kernel
theorem dX4_exercise_89 : decode cX4_exercise 89 = .ok (.if_icmp .ne 7, 3) := by decide +kernel
theorem dX4_exercise_92 : decode cX4_exercise 92 = .ok (.iconst 1, 1) := by decide +kernel
theorem dX4_exercise_93 : decode cX4_exercise 93 = .ok (.goto 4, 3) := by decide +kernel
theorem dX4_exercise_96 : decode cX4_exercise 96 = .ok (.iconst 0, 1) := by decide +kernel
theorem dX4_exercise_97 : decode cX4_exercise 97 = .ok (.istore 4, 2) := by decide +kernel
theorem dX4_exercise_99 : decode cX4_exercise 99 = .ok (.aload_n 0, 1) := by decide +kernel
theorem dX4_exercise_100 : decode cX4_exercise 100 = .ok (.iload 4, 2) := by decide +kernel
theorem dX4_exercise_102 : decode cX4_exercise 102 = .ok (.ifCond .eq 7, 3) := by decide +kernel
theorem dX4_exercise_105 : decode cX4_exercise 105 = .ok (.iconst 0, 1) := by decide +kernel
theorem dX4_exercise_106 : decode cX4_exercise 106 = .ok (.goto 4, 3) := by decide +kernel
theorem dX4_exercise_109 : decode cX4_exercise 109 = .ok (.iconst 3, 1) := by decide +kernel
theorem dX4_exercise_110 : decode cX4_exercise 110 = .ok (.putfield 73, 3) := by decide +kernel
theorem dX4_exercise_113 : decode cX4_exercise 113 = .ok (.aload_n 0, 1) := by decide +kernel
theorem dX4_exercise_114 : decode cX4_exercise 114 = .ok (.getfield 73, 3) := by decide +kernel
theorem dX4_exercise_117 : decode cX4_exercise 117 = .ok (.ifCond .le 5, 3) := by decide +kernel
theorem dX4_exercise_120 : decode cX4_exercise 120 = .ok (.iconst 0, 1) := by decide +kernel
theorem dX4_exercise_121 : decode cX4_exercise 121 = .ok (.ireturn, 1) := by decide +kernel
theorem dX4_exercise_122 : decode cX4_exercise 122 = .ok (.aload_n 0, 1) := by decide +kernel
theorem dX4_exercise_123 : decode cX4_exercise 123 = .ok (.aload_n 0, 1) := by decide +kernel
theorem dX4_exercise_124 : decode cX4_exercise 124 = .ok (.getfield 7, 3) := by decide +kernel
theorem dX4_exercise_127 : decode cX4_exercise 127 = .ok (.invokevirtual 121, 3) := by decide +kernel
theorem dX4_exercise_130 : decode cX4_exercise 130 = .ok (.lstore 4, 2) := by decide +kernel
theorem dX4_exercise_132 : decode cX4_exercise 132 = .ok (.aload_n 0, 1) := by decide +kernel
theorem dX4_exercise_133 : decode cX4_exercise 133 = .ok (.iload_n 2, 1) := by decide +kernel
theorem dX4_exercise_134 : decode cX4_exercise 134 = .ok (.aload_n 0, 1) := by decide +kernel
theorem dX4_exercise_135 : decode cX4_exercise 135 = .ok (.getfield 7, 3) := by decide +kernel
theorem dX4_exercise_138 : decode cX4_exercise 138 = .ok (.i2l, 1) := by decide +kernel
theorem dX4_exercise_139 : decode cX4_exercise 139 = .ok (.invokevirtual 96, 3) := by decide +kernel
theorem dX4_exercise_142 : decode cX4_exercise 142 = .ok (.lstore 6, 2) := by decide +kernel
theorem dX4_exercise_144 : decode cX4_exercise 144 = .ok (.iconst 0, 1) := by decide +kernel
theorem dX4_exercise_145 : decode cX4_exercise 145 = .ok (.istore 8, 2) := by decide +kernel
theorem dX4_exercise_147 : decode cX4_exercise 147 = .ok (.iload 8, 2) := by decide +kernel
theorem dX4_exercise_149 : decode cX4_exercise 149 = .ok (.iload_n 3, 1) := by decide +kernel
theorem dX4_exercise_150 : decode cX4_exercise 150 = .ok (.if_icmp .ge 27, 3) := by decide +kernel
theorem dX4_exercise_153 : decode cX4_exercise 153 = .ok (.aload_n 0, 1) := by decide +kernel
theorem dX4_exercise_154 : decode cX4_exercise 154 = .ok (.iload_n 1, 1) := by decide +kernel
theorem dX4_exercise_155 : decode cX4_exercise 155 = .ok (.iconst (-1), 1) := by decide +kernel
theorem dX4_exercise_156 : decode cX4_exercise 156 = .ok (.if_icmp .ne 8, 3) := by decide +kernel
theorem dX4_exercise_159 : decode cX4_exercise 159 = .ok (.bipush 6, 2) := by decide +kernel
theorem dX4_exercise_161 : decode cX4_exercise 161 = .ok (.goto 4, 3) := by decide +kernel
theorem dX4_exercise_164 : decode cX4_exercise 164 = .ok (.iload_n 1, 1) := by decide +kernel
theorem dX4_exercise_165 : decode cX4_exercise 165 = .ok (.iload_n 2, 1) := by decide +kernel
theorem dX4_exercise_166 : decode cX4_exercise 166 = .ok (.lload 6, 2) := by decide +kernel
theorem dX4_exercise_168 : decode cX4_exercise 168 = .ok (.invokevirtual 194, 3) := by decide +kernel
theorem dX4_exercise_171 : decode cX4_exercise 171 = .ok (.iinc 8 1, 3) := by decide +kernel
theorem dX4_exercise_174 : decode cX4_exercise 174 = .ok (.goto (-27), 3) := by decide +kernel
theorem dX4_exercise_177 : decode cX4_exercise 177 = .ok (.aload_n 0, 1) := by decide +kernel
theorem dX4_exercise_178 : decode cX4_exercise 178 = .ok (.getfield 67, 3) := by decide +kernel
theorem dX4_exercise_181 : decode cX4_exercise 181 = .ok (.iconst 4, 1) := by decide +kernel
theorem dX4_exercise_182 : decode cX4_exercise 182 = .ok (.dup2, 1) := by decide +kernel
theorem dX4_exercise_183 : decode cX4_exercise 183 = .ok (.laload, 1) := by decide +kernel
theorem dX4_exercise_184 : decode cX4_exercise 184 = .ok (.aload_n 0, 1) := by decide +kernel
theorem dX4_exercise_185 : decode cX4_exercise 185 = .ok (.aload_n 0, 1) := by decide +kernel
theorem dX4_exercise_186 : decode cX4_exercise 186 = .ok (.getfield 7, 3) := by decide +kernel
theorem dX4_exercise_189 : decode cX4_exercise 189 = .ok (.invokevirtual 121, 3) := by decide +kernel
theorem dX4_exercise_192 : decode cX4_exercise 192 = .ok (.lload 4, 2) := by decide +kernel
theorem dX4_exercise_194 : decode cX4_exercise 194 = .ok (.lsub, 1) := by decide +kernel
theorem dX4_exercise_195 : decode cX4_exercise 195 = .ok (.ladd, 1) := by decide +kernel
theorem dX4_exercise_196 : decode cX4_exercise 196 = .ok (.lastore, 1) := by decide +kernel
theorem dX4_exercise_197 : decode cX4_exercise 197 = .ok (.lload 6, 2) := by decide +kernel
theorem dX4_exercise_199 : decode cX4_exercise 199 = .ok (.l2i, 1) := by decide +kernel
theorem dX4_exercise_200 : decode cX4_exercise 200 = .ok (.ireturn, 1) := by decide +kernel
theorem dX4_contrary_0 : decode cX4_contrary 0 = .ok (.iload_n 1, 1) := by decide +kernel
theorem dX4_contrary_1 : decode cX4_contrary 1 = .ok (.i2l, 1) := by decide +kernel
theorem dX4_contrary_2 : decode cX4_contrary 2 = .ok (.lconst 0, 1) := by decide +kernel
theorem dX4_contrary_3 : decode cX4_contrary 3 = .ok (.ldc2_w 85, 3) := by decide +kernel
theorem dX4_contrary_6 : decode cX4_contrary 6 = .ok (.invokestatic 79, 3) := by decide +kernel
theorem dX4_contrary_9 : decode cX4_contrary 9 = .ok (.ifCond .eq 15, 3) := by decide +kernel
theorem dX4_contrary_12 : decode cX4_contrary 12 = .ok (.aload_n 0, 1) := by decide +kernel
theorem dX4_contrary_13 : decode cX4_contrary 13 = .ok (.iload_n 2, 1) := by decide +kernel
theorem dX4_contrary_14 : decode cX4_contrary 14 = .ok (.invokevirtual 146, 3) := by decide +kernel
theorem dX4_contrary_17 : decode cX4_contrary 17 = .ok (.ifCond .eq 7, 3) := by decide +kernel
theorem dX4_contrary_20 : decode cX4_contrary 20 = .ok (.iconst 1, 1) := by decide +kernel
theorem dX4_contrary_21 : decode cX4_contrary 21 = .ok (.goto 4, 3) := by decide +kernel
theorem dX4_contrary_24 : decode cX4_contrary 24 = .ok (.iconst 0, 1) := by decide +kernel
theorem dX4_contrary_25 : decode cX4_contrary 25 = .ok (.istore 4, 2) := by decide +kernel
theorem dX4_contrary_27 : decode cX4_contrary 27 = .ok (.aload_n 0, 1) := by decide +kernel
theorem dX4_contrary_28 : decode cX4_contrary 28 = .ok (.iload 4, 2) := by decide +kernel
theorem dX4_contrary_30 : decode cX4_contrary 30 = .ok (.ifCond .ne 7, 3) := by decide +kernel
theorem dX4_contrary_33 : decode cX4_contrary 33 = .ok (.iconst 1, 1) := by decide +kernel
end
section
theorem dX4_contrary_34 : decode cX4_contrary 34 = .ok (.goto 17, 3) := by decide +kernel
theorem dX4_contrary_37 : decode cX4_contrary 37 = .ok (.aload_n 0, 1) := by decide +kernel
theorem dX4_contrary_38 : decode cX4_contrary 38 = .ok (.getfield 36, 3) := by decide +kernel
theorem dX4_contrary_41 : decode cX4_contrary 41 = .ok (.iload_n 2, 1) := by decide +kernel
theorem dX4_contrary_42 : decode cX4_contrary 42 = .ok (.baload, 1) := by decide +kernel
theorem dX4_contrary_43 : decode cX4_contrary 43 = .ok (.ifCond .eq 7, 3) := by decide +kernel
theorem dX4_contrary_46 : decode cX4_contrary 46 = .ok (.iconst 2, 1) := by decide +kernel
theorem dX4_contrary_47 : decode cX4_contrary 47 = .ok (.goto 4, 3) := by decide +kernel
theorem dX4_contrary_50 : decode cX4_contrary 50 = .ok (.iconst 0, 1) := by decide +kernel
theorem dX4_contrary_51 : decode cX4_contrary 51 = .ok (.putfield 73, 3) := by decide +kernel
theorem dX4_contrary_54 : decode cX4_contrary 54 = .ok (.aload_n 0, 1) := by decide +kernel
theorem dX4_contrary_55 : decode cX4_contrary 55 = .ok (.getfield 73, 3) := by decide +kernel
theorem dX4_contrary_58 : decode cX4_contrary 58 = .ok (.ifCond .le 5, 3) := by decide +kernel
theorem dX4_contrary_61 : decode cX4_contrary 61 = .ok (.iconst 0, 1) := by decide +kernel
theorem dX4_contrary_62 : decode cX4_contrary 62 = .ok (.ireturn, 1) := by decide +kernel
theorem dX4_contrary_63 : decode cX4_contrary 63 = .ok (.aload_n 0, 1) := by decide +kernel
theorem dX4_contrary_64 : decode cX4_contrary 64 = .ok (.getfield 54, 3) := by decide +kernel
theorem dX4_contrary_67 : decode cX4_contrary 67 = .ok (.iload_n 1, 1) := by decide +kernel
theorem dX4_contrary_68 : decode cX4_contrary 68 = .ok (.iload_n 2, 1) := by decide +kernel
theorem dX4_contrary_69 : decode cX4_contrary 69 = .ok (.invokestatic 113, 3) := by decide +kernel
theorem dX4_contrary_72 : decode cX4_contrary 72 = .ok (.baload, 1) := by decide +kernel
theorem dX4_contrary_73 : decode cX4_contrary 73 = .ok (.istore 5, 2) := by decide +kernel
theorem dX4_contrary_75 : decode cX4_contrary 75 = .ok (.aload_n 0, 1) := by decide +kernel
theorem dX4_contrary_76 : decode cX4_contrary 76 = .ok (.getfield 54, 3) := by decide +kernel
theorem dX4_contrary_79 : decode cX4_contrary 79 = .ok (.iload_n 1, 1) := by decide +kernel
theorem dX4_contrary_80 : decode cX4_contrary 80 = .ok (.iload_n 2, 1) := by decide +kernel
theorem dX4_contrary_81 : decode cX4_contrary 81 = .ok (.invokestatic 113, 3) := by decide +kernel
theorem dX4_contrary_84 : decode cX4_contrary 84 = .ok (.iload_n 3, 1) := by decide +kernel
theorem dX4_contrary_85 : decode cX4_contrary 85 = .ok (.bastore, 1) := by decide +kernel
theorem dX4_contrary_86 : decode cX4_contrary 86 = .ok (.iload 5, 2) := by decide +kernel
theorem dX4_contrary_88 : decode cX4_contrary 88 = .ok (.iload_n 3, 1) := by decide +kernel
theorem dX4_contrary_89 : decode cX4_contrary 89 = .ok (.if_icmp .eq 7, 3) := by decide +kernel
theorem dX4_contrary_92 : decode cX4_contrary 92 = .ok (.iconst 1, 1) := by decide +kernel
theorem dX4_contrary_93 : decode cX4_contrary 93 = .ok (.goto 4, 3) := by decide +kernel
theorem dX4_contrary_96 : decode cX4_contrary 96 = .ok (.iconst 0, 1) := by decide +kernel
theorem dX4_contrary_97 : decode cX4_contrary 97 = .ok (.ireturn, 1) := by decide +kernel
theorem dX4_expires_0 : decode cX4_expires 0 = .ok (.aload_n 0, 1) := by decide +kernel
theorem dX4_expires_1 : decode cX4_expires 1 = .ok (.iload_n 1, 1) := by decide +kernel
theorem dX4_expires_2 : decode cX4_expires 2 = .ok (.aload_n 0, 1) := by decide +kernel
theorem dX4_expires_3 : decode cX4_expires 3 = .ok (.getfield 7, 3) := by decide +kernel
theorem dX4_expires_6 : decode cX4_expires 6 = .ok (.i2l, 1) := by decide +kernel
theorem dX4_expires_7 : decode cX4_expires 7 = .ok (.invokevirtual 96, 3) := by decide +kernel
theorem dX4_expires_10 : decode cX4_expires 10 = .ok (.lstore_n 2, 1) := by decide +kernel
theorem dX4_expires_11 : decode cX4_expires 11 = .ok (.iconst 0, 1) := by decide +kernel
theorem dX4_expires_12 : decode cX4_expires 12 = .ok (.istore 4, 2) := by decide +kernel
theorem dX4_expires_14 : decode cX4_expires 14 = .ok (.iload 4, 2) := by decide +kernel
theorem dX4_expires_16 : decode cX4_expires 16 = .ok (.bipush 7, 2) := by decide +kernel
theorem dX4_expires_18 : decode cX4_expires 18 = .ok (.if_icmp .ge 72, 3) := by decide +kernel
theorem dX4_expires_21 : decode cX4_expires 21 = .ok (.lload_n 2, 1) := by decide +kernel
theorem dX4_expires_22 : decode cX4_expires 22 = .ok (.lconst 0, 1) := by decide +kernel
theorem dX4_expires_23 : decode cX4_expires 23 = .ok (.lcmp, 1) := by decide +kernel
theorem dX4_expires_24 : decode cX4_expires 24 = .ok (.ifCond .le 33, 3) := by decide +kernel
theorem dX4_expires_27 : decode cX4_expires 27 = .ok (.aload_n 0, 1) := by decide +kernel
theorem dX4_expires_28 : decode cX4_expires 28 = .ok (.getfield 54, 3) := by decide +kernel
theorem dX4_expires_31 : decode cX4_expires 31 = .ok (.bipush 7, 2) := by decide +kernel
theorem dX4_expires_33 : decode cX4_expires 33 = .ok (.iload_n 1, 1) := by decide +kernel
theorem dX4_expires_34 : decode cX4_expires 34 = .ok (.imul, 1) := by decide +kernel
theorem dX4_expires_35 : decode cX4_expires 35 = .ok (.iload 4, 2) := by decide +kernel
theorem dX4_expires_37 : decode cX4_expires 37 = .ok (.iadd, 1) := by decide +kernel
theorem dX4_expires_38 : decode cX4_expires 38 = .ok (.baload, 1) := by decide +kernel
theorem dX4_expires_39 : decode cX4_expires 39 = .ok (.ifCond .ne 18, 3) := by decide +kernel
theorem dX4_expires_42 : decode cX4_expires 42 = .ok (.aload_n 0, 1) := by decide +kernel
theorem dX4_expires_43 : decode cX4_expires 43 = .ok (.getfield 51, 3) := by decide +kernel
theorem dX4_expires_46 : decode cX4_expires 46 = .ok (.bipush 7, 2) := by decide +kernel
theorem dX4_expires_48 : decode cX4_expires 48 = .ok (.iload_n 1, 1) := by decide +kernel
theorem dX4_expires_49 : decode cX4_expires 49 = .ok (.imul, 1) := by decide +kernel
theorem dX4_expires_50 : decode cX4_expires 50 = .ok (.iload 4, 2) := by decide +kernel
theorem dX4_expires_52 : decode cX4_expires 52 = .ok (.iadd, 1) := by decide +kernel
theorem dX4_expires_53 : decode cX4_expires 53 = .ok (.iaload, 1) := by decide +kernel
theorem dX4_expires_54 : decode cX4_expires 54 = .ok (.goto 4, 3) := by decide +kernel
theorem dX4_expires_57 : decode cX4_expires 57 = .ok (.iconst 0, 1) := by decide +kernel
theorem dX4_expires_58 : decode cX4_expires 58 = .ok (.istore 5, 2) := by decide +kernel
theorem dX4_expires_60 : decode cX4_expires 60 = .ok (.iconst 0, 1) := by decide +kernel
theorem dX4_expires_61 : decode cX4_expires 61 = .ok (.istore 6, 2) := by decide +kernel
theorem dX4_expires_63 : decode cX4_expires 63 = .ok (.iload 6, 2) := by decide +kernel
theorem dX4_expires_65 : decode cX4_expires 65 = .ok (.iload 5, 2) := by decide +kernel
theorem dX4_expires_67 : decode cX4_expires 67 = .ok (.if_icmp .ge 17, 3) := by decide +kernel
theorem dX4_expires_70 : decode cX4_expires 70 = .ok (.aload_n 0, 1) := by decide +kernel
theorem dX4_expires_71 : decode cX4_expires 71 = .ok (.iload 4, 2) := by decide +kernel
theorem dX4_expires_73 : decode cX4_expires 73 = .ok (.iload_n 1, 1) := by decide +kernel
theorem dX4_expires_74 : decode cX4_expires 74 = .ok (.lload_n 2, 1) := by decide +kernel
theorem dX4_expires_75 : decode cX4_expires 75 = .ok (.invokevirtual 194, 3) := by decide +kernel
theorem dX4_expires_78 : decode cX4_expires 78 = .ok (.iinc 6 1, 3) := by decide +kernel
theorem dX4_expires_81 : decode cX4_expires 81 = .ok (.goto (-18), 3) := by decide +kernel
theorem dX4_expires_84 : decode cX4_expires 84 = .ok (.iinc 4 1, 3) := by decide +kernel
theorem dX4_expires_87 : decode cX4_expires 87 = .ok (.goto (-73), 3) := by decide +kernel
theorem dX4_expires_90 : decode cX4_expires 90 = .ok (.iconst 0, 1) := by decide +kernel
theorem dX4_expires_91 : decode cX4_expires 91 = .ok (.istore 4, 2) := by decide +kernel
theorem dX4_expires_93 : decode cX4_expires 93 = .ok (.iload 4, 2) := by decide +kernel
theorem dX4_expires_95 : decode cX4_expires 95 = .ok (.bipush 7, 2) := by decide +kernel
theorem dX4_expires_97 : decode cX4_expires 97 = .ok (.if_icmp .ge 22, 3) := by decide +kernel
theorem dX4_expires_100 : decode cX4_expires 100 = .ok (.aload_n 0, 1) := by decide +kernel
theorem dX4_expires_101 : decode cX4_expires 101 = .ok (.getfield 51, 3) := by decide +kernel
theorem dX4_expires_104 : decode cX4_expires 104 = .ok (.bipush 7, 2) := by decide +kernel
theorem dX4_expires_106 : decode cX4_expires 106 = .ok (.iload_n 1, 1) := by decide +kernel
theorem dX4_expires_107 : decode cX4_expires 107 = .ok (.imul, 1) := by decide +kernel
theorem dX4_expires_108 : decode cX4_expires 108 = .ok (.iload 4, 2) := by decide +kernel
theorem dX4_expires_110 : decode cX4_expires 110 = .ok (.iadd, 1) := by decide +kernel
theorem dX4_expires_111 : decode cX4_expires 111 = .ok (.iconst 0, 1) := by decide +kernel
theorem dX4_expires_112 : decode cX4_expires 112 = .ok (.iastore, 1) := by decide +kernel
theorem dX4_expires_113 : decode cX4_expires 113 = .ok (.iinc 4 1, 3) := by decide +kernel
theorem dX4_expires_116 : decode cX4_expires 116 = .ok (.goto (-23), 3) := by decide +kernel
theorem dX4_expires_119 : decode cX4_expires 119 = .ok (.aload_n 0, 1) := by decide +kernel
theorem dX4_expires_120 : decode cX4_expires 120 = .ok (.getfield 36, 3) := by decide +kernel
theorem dX4_expires_123 : decode cX4_expires 123 = .ok (.iload_n 1, 1) := by decide +kernel
theorem dX4_expires_124 : decode cX4_expires 124 = .ok (.iconst 1, 1) := by decide +kernel
theorem dX4_expires_125 : decode cX4_expires 125 = .ok (.bastore, 1) := by decide +kernel
theorem dX4_expires_126 : decode cX4_expires 126 = .ok (.aload_n 0, 1) := by decide +kernel
theorem dX4_expires_127 : decode cX4_expires 127 = .ok (.getfield 45, 3) := by decide +kernel
theorem dX4_expires_130 : decode cX4_expires 130 = .ok (.iload_n 1, 1) := by decide +kernel
theorem dX4_expires_131 : decode cX4_expires 131 = .ok (.iconst 0, 1) := by decide +kernel
theorem dX4_expires_132 : decode cX4_expires 132 = .ok (.iastore, 1) := by decide +kernel
theorem dX4_expires_133 : decode cX4_expires 133 = .ok (.aload_n 0, 1) := by decide +kernel
theorem dX4_expires_134 : decode cX4_expires 134 = .ok (.getfield 48, 3) := by decide +kernel
theorem dX4_expires_137 : decode cX4_expires 137 = .ok (.iload_n 1, 1) := by decide +kernel
theorem dX4_expires_138 : decode cX4_expires 138 = .ok (.iconst 0, 1) := by decide +kernel
theorem dX4_expires_139 : decode cX4_expires 139 = .ok (.iastore, 1) := by decide +kernel
theorem dX4_expires_140 : decode cX4_expires 140 = .ok (.return_, 1) := by decide +kernel
theorem dX4_close_0 : decode cX4_close 0 = .ok (.aload_n 0, 1) := by decide +kernel
theorem dX4_close_1 : decode cX4_close 1 = .ok (.aload_n 0, 1) := by decide +kernel
theorem dX4_close_2 : decode cX4_close 2 = .ok (.getfield 89, 3) := by decide +kernel
theorem dX4_close_5 : decode cX4_close 5 = .ok (.sipush 200, 3) := by decide +kernel
theorem dX4_close_8 : decode cX4_close 8 = .ok (.if_icmp .ne 7, 3) := by decide +kernel
theorem dX4_close_11 : decode cX4_close 11 = .ok (.iconst 1, 1) := by decide +kernel
theorem dX4_close_12 : decode cX4_close 12 = .ok (.goto 4, 3) := by decide +kernel
theorem dX4_close_15 : decode cX4_close 15 = .ok (.iconst 0, 1) := by decide +kernel
theorem dX4_close_16 : decode cX4_close 16 = .ok (.putfield 73, 3) := by decide +kernel
theorem dX4_close_19 : decode cX4_close 19 = .ok (.aload_n 0, 1) := by decide +kernel
theorem dX4_close_20 : decode cX4_close 20 = .ok (.getfield 73, 3) := by decide +kernel
theorem dX4_close_23 : decode cX4_close 23 = .ok (.ifCond .le 5, 3) := by decide +kernel
theorem dX4_close_26 : decode cX4_close 26 = .ok (.iconst 0, 1) := by decide +kernel
theorem dX4_close_27 : decode cX4_close 27 = .ok (.ireturn, 1) := by decide +kernel
theorem dX4_close_28 : decode cX4_close 28 = .ok (.aload_n 0, 1) := by decide +kernel
theorem dX4_close_29 : decode cX4_close 29 = .ok (.aload_n 0, 1) := by decide +kernel
theorem dX4_close_30 : decode cX4_close 30 = .ok (.getfield 7, 3) := by decide +kernel
theorem dX4_close_33 : decode cX4_close 33 = .ok (.invokevirtual 121, 3) := by decide +kernel
theorem dX4_close_36 : decode cX4_close 36 = .ok (.lstore_n 1, 1) := by decide +kernel
theorem dX4_close_37 : decode cX4_close 37 = .ok (.iconst 0, 1) := by decide +kernel
theorem dX4_close_38 : decode cX4_close 38 = .ok (.istore_n 3, 1) := by decide +kernel
theorem dX4_close_39 : decode cX4_close 39 = .ok (.iload_n 3, 1) := by decide +kernel
theorem dX4_close_40 : decode cX4_close 40 = .ok (.aload_n 0, 1) := by decide +kernel
theorem dX4_close_41 : decode cX4_close 41 = .ok (.getfield 76, 3) := by decide +kernel
theorem dX4_close_44 : decode cX4_close 44 = .ok (.if_icmp .ge 36, 3) := by decide +kernel
theorem dX4_close_47 : decode cX4_close 47 = .ok (.aload_n 0, 1) := by decide +kernel
theorem dX4_close_48 : decode cX4_close 48 = .ok (.getfield 36, 3) := by decide +kernel
theorem dX4_close_51 : decode cX4_close 51 = .ok (.iload_n 3, 1) := by decide +kernel
theorem dX4_close_52 : decode cX4_close 52 = .ok (.baload, 1) := by decide +kernel
theorem dX4_close_53 : decode cX4_close 53 = .ok (.ifCond .ne 21, 3) := by decide +kernel
theorem dX4_close_56 : decode cX4_close 56 = .ok (.aload_n 0, 1) := by decide +kernel
theorem dX4_close_57 : decode cX4_close 57 = .ok (.getfield 29, 3) := by decide +kernel
theorem dX4_close_60 : decode cX4_close 60 = .ok (.iload_n 3, 1) := by decide +kernel
theorem dX4_close_61 : decode cX4_close 61 = .ok (.iaload, 1) := by decide +kernel
theorem dX4_close_62 : decode cX4_close 62 = .ok (.aload_n 0, 1) := by decide +kernel
theorem dX4_close_63 : decode cX4_close 63 = .ok (.getfield 89, 3) := by decide +kernel
theorem dX4_close_66 : decode cX4_close 66 = .ok (.if_icmp .ne 8, 3) := by decide +kernel
theorem dX4_close_69 : decode cX4_close 69 = .ok (.aload_n 0, 1) := by decide +kernel
theorem dX4_close_70 : decode cX4_close 70 = .ok (.iload_n 3, 1) := by decide +kernel
theorem dX4_close_71 : decode cX4_close 71 = .ok (.invokevirtual 198, 3) := by decide +kernel
theorem dX4_close_74 : decode cX4_close 74 = .ok (.iinc 3 1, 3) := by decide +kernel
theorem dX4_close_77 : decode cX4_close 77 = .ok (.goto (-38), 3) := by decide +kernel
theorem dX4_close_80 : decode cX4_close 80 = .ok (.aload_n 0, 1) := by decide +kernel
theorem dX4_close_81 : decode cX4_close 81 = .ok (.aload_n 0, 1) := by decide +kernel
theorem dX4_close_82 : decode cX4_close 82 = .ok (.getfield 7, 3) := by decide +kernel
theorem dX4_close_85 : decode cX4_close 85 = .ok (.invokevirtual 121, 3) := by decide +kernel
theorem dX4_close_88 : decode cX4_close 88 = .ok (.lstore_n 3, 1) := by decide +kernel
theorem dX4_close_89 : decode cX4_close 89 = .ok (.aload_n 0, 1) := by decide +kernel
theorem dX4_close_90 : decode cX4_close 90 = .ok (.dup, 1) := by decide +kernel
theorem dX4_close_91 : decode cX4_close 91 = .ok (.getfield 89, 3) := by decide +kernel
theorem dX4_close_94 : decode cX4_close 94 = .ok (.iconst 1, 1) := by decide +kernel
theorem dX4_close_95 : decode cX4_close 95 = .ok (.iadd, 1) := by decide +kernel
theorem dX4_close_96 : decode cX4_close 96 = .ok (.putfield 89, 3) := by decide +kernel
theorem dX4_close_99 : decode cX4_close 99 = .ok (.aload_n 0, 1) := by decide +kernel
theorem dX4_close_100 : decode cX4_close 100 = .ok (.getfield 67, 3) := by decide +kernel
theorem dX4_close_103 : decode cX4_close 103 = .ok (.iconst 4, 1) := by decide +kernel
theorem dX4_close_104 : decode cX4_close 104 = .ok (.dup2, 1) := by decide +kernel
theorem dX4_close_105 : decode cX4_close 105 = .ok (.laload, 1) := by decide +kernel
theorem dX4_close_106 : decode cX4_close 106 = .ok (.lload_n 3, 1) := by decide +kernel
theorem dX4_close_107 : decode cX4_close 107 = .ok (.lload_n 1, 1) := by decide +kernel
theorem dX4_close_108 : decode cX4_close 108 = .ok (.lsub, 1) := by decide +kernel
theorem dX4_close_109 : decode cX4_close 109 = .ok (.ladd, 1) := by decide +kernel
theorem dX4_close_110 : decode cX4_close 110 = .ok (.lastore, 1) := by decide +kernel
theorem dX4_close_111 : decode cX4_close 111 = .ok (.aload_n 0, 1) := by decide +kernel
theorem dX4_close_112 : decode cX4_close 112 = .ok (.getfield 67, 3) := by decide +kernel
theorem dX4_close_115 : decode cX4_close 115 = .ok (.iconst 2, 1) := by decide +kernel
theorem dX4_close_116 : decode cX4_close 116 = .ok (.dup2, 1) := by decide +kernel
theorem dX4_close_117 : decode cX4_close 117 = .ok (.laload, 1) := by decide +kernel
theorem dX4_close_118 : decode cX4_close 118 = .ok (.aload_n 0, 1) := by decide +kernel
theorem dX4_close_119 : decode cX4_close 119 = .ok (.aload_n 0, 1) := by decide +kernel
theorem dX4_close_120 : decode cX4_close 120 = .ok (.getfield 7, 3) := by decide +kernel
theorem dX4_close_123 : decode cX4_close 123 = .ok (.invokevirtual 121, 3) := by decide +kernel
theorem dX4_close_126 : decode cX4_close 126 = .ok (.lload_n 3, 1) := by decide +kernel
theorem dX4_close_127 : decode cX4_close 127 = .ok (.lsub, 1) := by decide +kernel
theorem dX4_close_128 : decode cX4_close 128 = .ok (.ladd, 1) := by decide +kernel
theorem dX4_close_129 : decode cX4_close 129 = .ok (.lastore, 1) := by decide +kernel
theorem dX4_close_130 : decode cX4_close 130 = .ok (.aload_n 0, 1) := by decide +kernel
theorem dX4_close_131 : decode cX4_close 131 = .ok (.getfield 89, 3) := by decide +kernel
theorem dX4_close_134 : decode cX4_close 134 = .ok (.ireturn, 1) := by decide +kernel
theorem dX4_common_0 : decode cX4_common 0 = .ok (.lload_n 0, 1) := by decide +kernel
theorem dX4_common_1 : decode cX4_common 1 = .ok (.lstore 4, 2) := by decide +kernel
theorem dX4_common_3 : decode cX4_common 3 = .ok (.lload_n 2, 1) := by decide +kernel
theorem dX4_common_4 : decode cX4_common 4 = .ok (.lstore 6, 2) := by decide +kernel
theorem dX4_common_6 : decode cX4_common 6 = .ok (.lload 6, 2) := by decide +kernel
theorem dX4_common_8 : decode cX4_common 8 = .ok (.lconst 0, 1) := by decide +kernel
theorem dX4_common_9 : decode cX4_common 9 = .ok (.lcmp, 1) := by decide +kernel
theorem dX4_common_10 : decode cX4_common 10 = .ok (.ifCond .le 21, 3) := by decide +kernel
theorem dX4_common_13 : decode cX4_common 13 = .ok (.lload 4, 2) := by decide +kernel
theorem dX4_common_15 : decode cX4_common 15 = .ok (.lload 6, 2) := by decide +kernel
theorem dX4_common_17 : decode cX4_common 17 = .ok (.lrem, 1) := by decide +kernel
theorem dX4_common_18 : decode cX4_common 18 = .ok (.lstore 8, 2) := by decide +kernel
theorem dX4_common_20 : decode cX4_common 20 = .ok (.lload 6, 2) := by decide +kernel
theorem dX4_common_22 : decode cX4_common 22 = .ok (.lstore 4, 2) := by decide +kernel
theorem dX4_common_24 : decode cX4_common 24 = .ok (.lload 8, 2) := by decide +kernel
theorem dX4_common_26 : decode cX4_common 26 = .ok (.lstore 6, 2) := by decide +kernel
theorem dX4_common_28 : decode cX4_common 28 = .ok (.goto (-22), 3) := by decide +kernel
theorem dX4_common_31 : decode cX4_common 31 = .ok (.lload 4, 2) := by decide +kernel
theorem dX4_common_33 : decode cX4_common 33 = .ok (.lreturn, 1) := by decide +kernel
theorem dX4_value_0 : decode cX4_value 0 = .ok (.aload_n 0, 1) := by decide +kernel
theorem dX4_value_1 : decode cX4_value 1 = .ok (.aload_n 0, 1) := by decide +kernel
theorem dX4_value_2 : decode cX4_value 2 = .ok (.iload_n 1, 1) := by decide +kernel
theorem dX4_value_3 : decode cX4_value 3 = .ok (.invokevirtual 146, 3) := by decide +kernel
theorem dX4_value_6 : decode cX4_value 6 = .ok (.ifCond .eq 7, 3) := by decide +kernel
theorem dX4_value_9 : decode cX4_value 9 = .ok (.iconst 0, 1) := by decide +kernel
theorem dX4_value_10 : decode cX4_value 10 = .ok (.goto 4, 3) := by decide +kernel
theorem dX4_value_13 : decode cX4_value 13 = .ok (.iconst 1, 1) := by decide +kernel
theorem dX4_value_14 : decode cX4_value 14 = .ok (.putfield 73, 3) := by decide +kernel
theorem dX4_value_17 : decode cX4_value 17 = .ok (.aload_n 0, 1) := by decide +kernel
theorem dX4_value_18 : decode cX4_value 18 = .ok (.getfield 73, 3) := by decide +kernel
theorem dX4_value_21 : decode cX4_value 21 = .ok (.ifCond .le 5, 3) := by decide +kernel
theorem dX4_value_24 : decode cX4_value 24 = .ok (.lconst 0, 1) := by decide +kernel
theorem dX4_value_25 : decode cX4_value 25 = .ok (.lreturn, 1) := by decide +kernel
theorem dX4_value_26 : decode cX4_value 26 = .ok (.aload_n 0, 1) := by decide +kernel
theorem dX4_value_27 : decode cX4_value 27 = .ok (.iload_n 1, 1) := by decide +kernel
theorem dX4_value_28 : decode cX4_value 28 = .ok (.aload_n 0, 1) := by decide +kernel
theorem dX4_value_29 : decode cX4_value 29 = .ok (.getfield 7, 3) := by decide +kernel
theorem dX4_value_32 : decode cX4_value 32 = .ok (.invokevirtual 104, 3) := by decide +kernel
theorem dX4_value_35 : decode cX4_value 35 = .ok (.aload_n 0, 1) := by decide +kernel
theorem dX4_value_36 : decode cX4_value 36 = .ok (.getfield 100, 3) := by decide +kernel
theorem dX4_value_39 : decode cX4_value 39 = .ok (.aload_n 0, 1) := by decide +kernel
theorem dX4_value_40 : decode cX4_value 40 = .ok (.getfield 70, 3) := by decide +kernel
theorem dX4_value_43 : decode cX4_value 43 = .ok (.iconst 0, 1) := by decide +kernel
theorem dX4_value_44 : decode cX4_value 44 = .ok (.laload, 1) := by decide +kernel
theorem dX4_value_45 : decode cX4_value 45 = .ok (.invokestatic 202, 3) := by decide +kernel
theorem dX4_value_48 : decode cX4_value 48 = .ok (.lstore_n 3, 1) := by decide +kernel
theorem dX4_value_49 : decode cX4_value 49 = .ok (.iload_n 2, 1) := by decide +kernel
theorem dX4_value_50 : decode cX4_value 50 = .ok (.ifCond .eq 12, 3) := by decide +kernel
theorem dX4_value_53 : decode cX4_value 53 = .ok (.aload_n 0, 1) := by decide +kernel
theorem dX4_value_54 : decode cX4_value 54 = .ok (.getfield 100, 3) := by decide +kernel
theorem dX4_value_57 : decode cX4_value 57 = .ok (.lload_n 3, 1) := by decide +kernel
theorem dX4_value_58 : decode cX4_value 58 = .ok (.ldiv, 1) := by decide +kernel
theorem dX4_value_59 : decode cX4_value 59 = .ok (.goto 11, 3) := by decide +kernel
theorem dX4_value_62 : decode cX4_value 62 = .ok (.aload_n 0, 1) := by decide +kernel
theorem dX4_value_63 : decode cX4_value 63 = .ok (.getfield 70, 3) := by decide +kernel
theorem dX4_value_66 : decode cX4_value 66 = .ok (.iconst 0, 1) := by decide +kernel
theorem dX4_value_67 : decode cX4_value 67 = .ok (.laload, 1) := by decide +kernel
theorem dX4_value_68 : decode cX4_value 68 = .ok (.lload_n 3, 1) := by decide +kernel
theorem dX4_value_69 : decode cX4_value 69 = .ok (.ldiv, 1) := by decide +kernel
theorem dX4_value_70 : decode cX4_value 70 = .ok (.lreturn, 1) := by decide +kernel
theorem dX4_mark_0 : decode cX4_mark 0 = .ok (.aload_n 0, 1) := by decide +kernel
theorem dX4_mark_1 : decode cX4_mark 1 = .ok (.aload_n 0, 1) := by decide +kernel
theorem dX4_mark_2 : decode cX4_mark 2 = .ok (.iload_n 1, 1) := by decide +kernel
theorem dX4_mark_3 : decode cX4_mark 3 = .ok (.invokevirtual 146, 3) := by decide +kernel
theorem dX4_mark_6 : decode cX4_mark 6 = .ok (.ifCond .eq 7, 3) := by decide +kernel
theorem dX4_mark_9 : decode cX4_mark 9 = .ok (.iconst 0, 1) := by decide +kernel
theorem dX4_mark_10 : decode cX4_mark 10 = .ok (.goto 4, 3) := by decide +kernel
theorem dX4_mark_13 : decode cX4_mark 13 = .ok (.iconst 1, 1) := by decide +kernel
theorem dX4_mark_14 : decode cX4_mark 14 = .ok (.putfield 73, 3) := by decide +kernel
theorem dX4_mark_17 : decode cX4_mark 17 = .ok (.aload_n 0, 1) := by decide +kernel
theorem dX4_mark_18 : decode cX4_mark 18 = .ok (.getfield 73, 3) := by decide +kernel
theorem dX4_mark_21 : decode cX4_mark 21 = .ok (.ifCond .le 7, 3) := by decide +kernel
theorem dX4_mark_24 : decode cX4_mark 24 = .ok (.iconst 0, 1) := by decide +kernel
theorem dX4_mark_25 : decode cX4_mark 25 = .ok (.goto 13, 3) := by decide +kernel
theorem dX4_mark_28 : decode cX4_mark 28 = .ok (.aload_n 0, 1) := by decide +kernel
theorem dX4_mark_29 : decode cX4_mark 29 = .ok (.iload_n 1, 1) := by decide +kernel
theorem dX4_mark_30 : decode cX4_mark 30 = .ok (.aload_n 0, 1) := by decide +kernel
theorem dX4_mark_31 : decode cX4_mark 31 = .ok (.getfield 7, 3) := by decide +kernel
theorem dX4_mark_34 : decode cX4_mark 34 = .ok (.invokevirtual 117, 3) := by decide +kernel
theorem dX4_mark_37 : decode cX4_mark 37 = .ok (.l2i, 1) := by decide +kernel
theorem dX4_mark_38 : decode cX4_mark 38 = .ok (.ireturn, 1) := by decide +kernel
theorem dX4_markByWays_0 : decode cX4_markByWays 0 = .ok (.aload_n 0, 1) := by decide +kernel
theorem dX4_markByWays_1 : decode cX4_markByWays 1 = .ok (.iload_n 1, 1) := by decide +kernel
theorem dX4_markByWays_2 : decode cX4_markByWays 2 = .ok (.invokevirtual 206, 3) := by decide +kernel
theorem dX4_markByWays_5 : decode cX4_markByWays 5 = .ok (.ireturn, 1) := by decide +kernel
theorem dX4_fault_0 : decode cX4_fault 0 = .ok (.aload_n 0, 1) := by decide +kernel
theorem dX4_fault_1 : decode cX4_fault 1 = .ok (.iconst 0, 1) := by decide +kernel
theorem dX4_fault_2 : decode cX4_fault 2 = .ok (.putfield 73, 3) := by decide +kernel
theorem dX4_fault_5 : decode cX4_fault 5 = .ok (.aload_n 0, 1) := by decide +kernel
theorem dX4_fault_6 : decode cX4_fault 6 = .ok (.invokevirtual 149, 3) := by decide +kernel
theorem dX4_fault_9 : decode cX4_fault 9 = .ok (.ireturn, 1) := by decide +kernel
theorem dX4_quoted_0 : decode cX4_quoted 0 = .ok (.aload_n 0, 1) := by decide +kernel
theorem dX4_quoted_1 : decode cX4_quoted 1 = .ok (.aload_n 0, 1) := by decide +kernel
theorem dX4_quoted_2 : decode cX4_quoted 2 = .ok (.iload_n 1, 1) := by decide +kernel
theorem dX4_quoted_3 : decode cX4_quoted 3 = .ok (.invokevirtual 146, 3) := by decide +kernel
theorem dX4_quoted_6 : decode cX4_quoted 6 = .ok (.ifCond .ne 7, 3) := by decide +kernel
theorem dX4_quoted_9 : decode cX4_quoted 9 = .ok (.iconst 1, 1) := by decide +kernel
theorem dX4_quoted_10 : decode cX4_quoted 10 = .ok (.goto 20, 3) := by decide +kernel
theorem dX4_quoted_13 : decode cX4_quoted 13 = .ok (.iload_n 2, 1) := by decide +kernel
theorem dX4_quoted_14 : decode cX4_quoted 14 = .ok (.i2l, 1) := by decide +kernel
theorem dX4_quoted_15 : decode cX4_quoted 15 = .ok (.lconst 0, 1) := by decide +kernel
theorem dX4_quoted_16 : decode cX4_quoted 16 = .ok (.ldc2_w 209, 3) := by decide +kernel
theorem dX4_quoted_19 : decode cX4_quoted 19 = .ok (.invokestatic 79, 3) := by decide +kernel
theorem dX4_quoted_22 : decode cX4_quoted 22 = .ok (.ifCond .eq 7, 3) := by decide +kernel
theorem dX4_quoted_25 : decode cX4_quoted 25 = .ok (.iconst 0, 1) := by decide +kernel
theorem dX4_quoted_26 : decode cX4_quoted 26 = .ok (.goto 4, 3) := by decide +kernel
theorem dX4_quoted_29 : decode cX4_quoted 29 = .ok (.iconst 2, 1) := by decide +kernel
theorem dX4_quoted_30 : decode cX4_quoted 30 = .ok (.putfield 73, 3) := by decide +kernel
theorem dX4_quoted_33 : decode cX4_quoted 33 = .ok (.aload_n 0, 1) := by decide +kernel
theorem dX4_quoted_34 : decode cX4_quoted 34 = .ok (.getfield 73, 3) := by decide +kernel
theorem dX4_quoted_37 : decode cX4_quoted 37 = .ok (.ifCond .gt 11, 3) := by decide +kernel
theorem dX4_quoted_40 : decode cX4_quoted 40 = .ok (.aload_n 0, 1) := by decide +kernel
theorem dX4_quoted_41 : decode cX4_quoted 41 = .ok (.iload_n 1, 1) := by decide +kernel
theorem dX4_quoted_42 : decode cX4_quoted 42 = .ok (.invokevirtual 153, 3) := by decide +kernel
theorem dX4_quoted_45 : decode cX4_quoted 45 = .ok (.ifCond .ne 5, 3) := by decide +kernel
theorem dX4_quoted_48 : decode cX4_quoted 48 = .ok (.iconst 0, 1) := by decide +kernel
theorem dX4_quoted_49 : decode cX4_quoted 49 = .ok (.ireturn, 1) := by decide +kernel
theorem dX4_quoted_50 : decode cX4_quoted 50 = .ok (.iload_n 2, 1) := by decide +kernel
theorem dX4_quoted_51 : decode cX4_quoted 51 = .ok (.ifCond .ne 12, 3) := by decide +kernel
theorem dX4_quoted_54 : decode cX4_quoted 54 = .ok (.aload_n 0, 1) := by decide +kernel
theorem dX4_quoted_55 : decode cX4_quoted 55 = .ok (.getfield 39, 3) := by decide +kernel
theorem dX4_quoted_58 : decode cX4_quoted 58 = .ok (.iload_n 1, 1) := by decide +kernel
theorem dX4_quoted_59 : decode cX4_quoted 59 = .ok (.iaload, 1) := by decide +kernel
theorem dX4_quoted_60 : decode cX4_quoted 60 = .ok (.goto 37, 3) := by decide +kernel
theorem dX4_quoted_63 : decode cX4_quoted 63 = .ok (.iload_n 2, 1) := by decide +kernel
theorem dX4_quoted_64 : decode cX4_quoted 64 = .ok (.iconst 1, 1) := by decide +kernel
theorem dX4_quoted_65 : decode cX4_quoted 65 = .ok (.if_icmp .ne 12, 3) := by decide +kernel
theorem dX4_quoted_68 : decode cX4_quoted 68 = .ok (.aload_n 0, 1) := by decide +kernel
theorem dX4_quoted_69 : decode cX4_quoted 69 = .ok (.getfield 42, 3) := by decide +kernel
theorem dX4_quoted_72 : decode cX4_quoted 72 = .ok (.iload_n 1, 1) := by decide +kernel
theorem dX4_quoted_73 : decode cX4_quoted 73 = .ok (.iaload, 1) := by decide +kernel
theorem dX4_quoted_74 : decode cX4_quoted 74 = .ok (.goto 23, 3) := by decide +kernel
theorem dX4_quoted_77 : decode cX4_quoted 77 = .ok (.iload_n 2, 1) := by decide +kernel
theorem dX4_quoted_78 : decode cX4_quoted 78 = .ok (.iconst 2, 1) := by decide +kernel
theorem dX4_quoted_79 : decode cX4_quoted 79 = .ok (.if_icmp .ne 12, 3) := by decide +kernel
theorem dX4_quoted_82 : decode cX4_quoted 82 = .ok (.aload_n 0, 1) := by decide +kernel
theorem dX4_quoted_83 : decode cX4_quoted 83 = .ok (.getfield 45, 3) := by decide +kernel
theorem dX4_quoted_86 : decode cX4_quoted 86 = .ok (.iload_n 1, 1) := by decide +kernel
theorem dX4_quoted_87 : decode cX4_quoted 87 = .ok (.iaload, 1) := by decide +kernel
theorem dX4_quoted_88 : decode cX4_quoted 88 = .ok (.goto 9, 3) := by decide +kernel
theorem dX4_quoted_91 : decode cX4_quoted 91 = .ok (.aload_n 0, 1) := by decide +kernel
theorem dX4_quoted_92 : decode cX4_quoted 92 = .ok (.getfield 48, 3) := by decide +kernel
theorem dX4_quoted_95 : decode cX4_quoted 95 = .ok (.iload_n 1, 1) := by decide +kernel
theorem dX4_quoted_96 : decode cX4_quoted 96 = .ok (.iaload, 1) := by decide +kernel
theorem dX4_quoted_97 : decode cX4_quoted 97 = .ok (.ireturn, 1) := by decide +kernel
theorem dX4_lots_0 : decode cX4_lots 0 = .ok (.aload_n 0, 1) := by decide +kernel
theorem dX4_lots_1 : decode cX4_lots 1 = .ok (.iload_n 1, 1) := by decide +kernel
theorem dX4_lots_2 : decode cX4_lots 2 = .ok (.invokestatic 191, 3) := by decide +kernel
theorem dX4_lots_5 : decode cX4_lots 5 = .ok (.ifCond .eq 15, 3) := by decide +kernel
theorem dX4_lots_8 : decode cX4_lots 8 = .ok (.aload_n 0, 1) := by decide +kernel
theorem dX4_lots_9 : decode cX4_lots 9 = .ok (.iload_n 2, 1) := by decide +kernel
theorem dX4_lots_10 : decode cX4_lots 10 = .ok (.invokevirtual 146, 3) := by decide +kernel
theorem dX4_lots_13 : decode cX4_lots 13 = .ok (.ifCond .eq 7, 3) := by decide +kernel
theorem dX4_lots_16 : decode cX4_lots 16 = .ok (.iconst 0, 1) := by decide +kernel
theorem dX4_lots_17 : decode cX4_lots 17 = .ok (.goto 4, 3) := by decide +kernel
theorem dX4_lots_20 : decode cX4_lots 20 = .ok (.iconst 1, 1) := by decide +kernel
theorem dX4_lots_21 : decode cX4_lots 21 = .ok (.putfield 73, 3) := by decide +kernel
theorem dX4_lots_24 : decode cX4_lots 24 = .ok (.aload_n 0, 1) := by decide +kernel
theorem dX4_lots_25 : decode cX4_lots 25 = .ok (.getfield 73, 3) := by decide +kernel
theorem dX4_lots_28 : decode cX4_lots 28 = .ok (.ifCond .le 7, 3) := by decide +kernel
theorem dX4_lots_31 : decode cX4_lots 31 = .ok (.iconst 0, 1) := by decide +kernel
theorem dX4_lots_32 : decode cX4_lots 32 = .ok (.goto 13, 3) := by decide +kernel
theorem dX4_lots_35 : decode cX4_lots 35 = .ok (.aload_n 0, 1) := by decide +kernel
theorem dX4_lots_36 : decode cX4_lots 36 = .ok (.getfield 51, 3) := by decide +kernel
theorem dX4_lots_39 : decode cX4_lots 39 = .ok (.iload_n 1, 1) := by decide +kernel
theorem dX4_lots_40 : decode cX4_lots 40 = .ok (.iload_n 2, 1) := by decide +kernel
theorem dX4_lots_41 : decode cX4_lots 41 = .ok (.invokestatic 113, 3) := by decide +kernel
theorem dX4_lots_44 : decode cX4_lots 44 = .ok (.iaload, 1) := by decide +kernel
theorem dX4_lots_45 : decode cX4_lots 45 = .ok (.ireturn, 1) := by decide +kernel
theorem dX4_cash_0 : decode cX4_cash 0 = .ok (.aload_n 0, 1) := by decide +kernel
theorem dX4_cash_1 : decode cX4_cash 1 = .ok (.iload_n 1, 1) := by decide +kernel
theorem dX4_cash_2 : decode cX4_cash 2 = .ok (.invokestatic 191, 3) := by decide +kernel
theorem dX4_cash_5 : decode cX4_cash 5 = .ok (.ifCond .eq 7, 3) := by decide +kernel
theorem dX4_cash_8 : decode cX4_cash 8 = .ok (.iconst 0, 1) := by decide +kernel
theorem dX4_cash_9 : decode cX4_cash 9 = .ok (.goto 4, 3) := by decide +kernel
theorem dX4_cash_12 : decode cX4_cash 12 = .ok (.iconst 1, 1) := by decide +kernel
theorem dX4_cash_13 : decode cX4_cash 13 = .ok (.putfield 73, 3) := by decide +kernel
theorem dX4_cash_16 : decode cX4_cash 16 = .ok (.aload_n 0, 1) := by decide +kernel
theorem dX4_cash_17 : decode cX4_cash 17 = .ok (.getfield 73, 3) := by decide +kernel
theorem dX4_cash_20 : decode cX4_cash 20 = .ok (.ifCond .le 7, 3) := by decide +kernel
theorem dX4_cash_23 : decode cX4_cash 23 = .ok (.lconst 0, 1) := by decide +kernel
theorem dX4_cash_24 : decode cX4_cash 24 = .ok (.goto 19, 3) := by decide +kernel
theorem dX4_cash_27 : decode cX4_cash 27 = .ok (.aload_n 0, 1) := by decide +kernel
theorem dX4_cash_28 : decode cX4_cash 28 = .ok (.getfield 57, 3) := by decide +kernel
theorem dX4_cash_31 : decode cX4_cash 31 = .ok (.iload_n 1, 1) := by decide +kernel
theorem dX4_cash_32 : decode cX4_cash 32 = .ok (.iconst (-1), 1) := by decide +kernel
theorem dX4_cash_33 : decode cX4_cash 33 = .ok (.if_icmp .ne 8, 3) := by decide +kernel
theorem dX4_cash_36 : decode cX4_cash 36 = .ok (.bipush 6, 2) := by decide +kernel
theorem dX4_cash_38 : decode cX4_cash 38 = .ok (.goto 4, 3) := by decide +kernel
theorem dX4_cash_41 : decode cX4_cash 41 = .ok (.iload_n 1, 1) := by decide +kernel
theorem dX4_cash_42 : decode cX4_cash 42 = .ok (.laload, 1) := by decide +kernel
theorem dX4_cash_43 : decode cX4_cash 43 = .ok (.lreturn, 1) := by decide +kernel
theorem dX4_worth_0 : decode cX4_worth 0 = .ok (.aload_n 0, 1) := by decide +kernel
theorem dX4_worth_1 : decode cX4_worth 1 = .ok (.iconst 0, 1) := by decide +kernel
theorem dX4_worth_2 : decode cX4_worth 2 = .ok (.putfield 73, 3) := by decide +kernel
theorem dX4_worth_5 : decode cX4_worth 5 = .ok (.aload_n 0, 1) := by decide +kernel
theorem dX4_worth_6 : decode cX4_worth 6 = .ok (.aload_n 0, 1) := by decide +kernel
theorem dX4_worth_7 : decode cX4_worth 7 = .ok (.getfield 7, 3) := by decide +kernel
theorem dX4_worth_10 : decode cX4_worth 10 = .ok (.invokevirtual 121, 3) := by decide +kernel
theorem dX4_worth_13 : decode cX4_worth 13 = .ok (.lreturn, 1) := by decide +kernel
theorem dX4_cause_0 : decode cX4_cause 0 = .ok (.aload_n 0, 1) := by decide +kernel
theorem dX4_cause_1 : decode cX4_cause 1 = .ok (.iload_n 1, 1) := by decide +kernel
theorem dX4_cause_2 : decode cX4_cause 2 = .ok (.i2l, 1) := by decide +kernel
theorem dX4_cause_3 : decode cX4_cause 3 = .ok (.lconst 0, 1) := by decide +kernel
theorem dX4_cause_4 : decode cX4_cause 4 = .ok (.ldc2_w 85, 3) := by decide +kernel
theorem dX4_cause_7 : decode cX4_cause 7 = .ok (.invokestatic 79, 3) := by decide +kernel
theorem dX4_cause_10 : decode cX4_cause 10 = .ok (.ifCond .eq 7, 3) := by decide +kernel
theorem dX4_cause_13 : decode cX4_cause 13 = .ok (.iconst 0, 1) := by decide +kernel
theorem dX4_cause_14 : decode cX4_cause 14 = .ok (.goto 4, 3) := by decide +kernel
theorem dX4_cause_17 : decode cX4_cause 17 = .ok (.iconst 1, 1) := by decide +kernel
theorem dX4_cause_18 : decode cX4_cause 18 = .ok (.putfield 73, 3) := by decide +kernel
theorem dX4_cause_21 : decode cX4_cause 21 = .ok (.aload_n 0, 1) := by decide +kernel
theorem dX4_cause_22 : decode cX4_cause 22 = .ok (.getfield 73, 3) := by decide +kernel
theorem dX4_cause_25 : decode cX4_cause 25 = .ok (.ifCond .le 7, 3) := by decide +kernel
theorem dX4_cause_28 : decode cX4_cause 28 = .ok (.lconst 0, 1) := by decide +kernel
theorem dX4_cause_29 : decode cX4_cause 29 = .ok (.goto 9, 3) := by decide +kernel
theorem dX4_cause_32 : decode cX4_cause 32 = .ok (.aload_n 0, 1) := by decide +kernel
theorem dX4_cause_33 : decode cX4_cause 33 = .ok (.getfield 67, 3) := by decide +kernel
theorem dX4_cause_36 : decode cX4_cause 36 = .ok (.iload_n 1, 1) := by decide +kernel
theorem dX4_cause_37 : decode cX4_cause 37 = .ok (.laload, 1) := by decide +kernel
theorem dX4_cause_38 : decode cX4_cause 38 = .ok (.lreturn, 1) := by decide +kernel
theorem dX4_worst_0 : decode cX4_worst 0 = .ok (.aload_n 0, 1) := by decide +kernel
theorem dX4_worst_1 : decode cX4_worst 1 = .ok (.iload_n 1, 1) := by decide +kernel
theorem dX4_worst_2 : decode cX4_worst 2 = .ok (.i2l, 1) := by decide +kernel
theorem dX4_worst_3 : decode cX4_worst 3 = .ok (.lconst 0, 1) := by decide +kernel
theorem dX4_worst_4 : decode cX4_worst 4 = .ok (.ldc2_w 144, 3) := by decide +kernel
theorem dX4_worst_7 : decode cX4_worst 7 = .ok (.invokestatic 79, 3) := by decide +kernel
theorem dX4_worst_10 : decode cX4_worst 10 = .ok (.ifCond .eq 7, 3) := by decide +kernel
theorem dX4_worst_13 : decode cX4_worst 13 = .ok (.iconst 0, 1) := by decide +kernel
theorem dX4_worst_14 : decode cX4_worst 14 = .ok (.goto 4, 3) := by decide +kernel
theorem dX4_worst_17 : decode cX4_worst 17 = .ok (.iconst 1, 1) := by decide +kernel
theorem dX4_worst_18 : decode cX4_worst 18 = .ok (.putfield 73, 3) := by decide +kernel
theorem dX4_worst_21 : decode cX4_worst 21 = .ok (.aload_n 0, 1) := by decide +kernel
theorem dX4_worst_22 : decode cX4_worst 22 = .ok (.getfield 73, 3) := by decide +kernel
theorem dX4_worst_25 : decode cX4_worst 25 = .ok (.ifCond .le 5, 3) := by decide +kernel
theorem dX4_worst_28 : decode cX4_worst 28 = .ok (.lconst 0, 1) := by decide +kernel
theorem dX4_worst_29 : decode cX4_worst 29 = .ok (.lreturn, 1) := by decide +kernel
theorem dX4_worst_30 : decode cX4_worst 30 = .ok (.aload_n 0, 1) := by decide +kernel
theorem dX4_worst_31 : decode cX4_worst 31 = .ok (.aload_n 0, 1) := by decide +kernel
theorem dX4_worst_32 : decode cX4_worst 32 = .ok (.getfield 7, 3) := by decide +kernel
theorem dX4_worst_35 : decode cX4_worst 35 = .ok (.invokevirtual 121, 3) := by decide +kernel
theorem dX4_worst_38 : decode cX4_worst 38 = .ok (.lstore_n 2, 1) := by decide +kernel
theorem dX4_worst_39 : decode cX4_worst 39 = .ok (.lconst 0, 1) := by decide +kernel
theorem dX4_worst_40 : decode cX4_worst 40 = .ok (.lstore 4, 2) := by decide +kernel
theorem dX4_worst_42 : decode cX4_worst 42 = .ok (.iload_n 1, 1) := by decide +kernel
theorem dX4_worst_43 : decode cX4_worst 43 = .ok (.ineg, 1) := by decide +kernel
theorem dX4_worst_44 : decode cX4_worst 44 = .ok (.istore 6, 2) := by decide +kernel
theorem dX4_worst_46 : decode cX4_worst 46 = .ok (.iload 6, 2) := by decide +kernel
theorem dX4_worst_48 : decode cX4_worst 48 = .ok (.iload_n 1, 1) := by decide +kernel
theorem dX4_worst_49 : decode cX4_worst 49 = .ok (.if_icmp .gt 44, 3) := by decide +kernel
theorem dX4_worst_52 : decode cX4_worst 52 = .ok (.lload_n 2, 1) := by decide +kernel
theorem dX4_worst_53 : decode cX4_worst 53 = .ok (.aload_n 0, 1) := by decide +kernel
theorem dX4_worst_54 : decode cX4_worst 54 = .ok (.aload_n 0, 1) := by decide +kernel
theorem dX4_worst_55 : decode cX4_worst 55 = .ok (.getfield 7, 3) := by decide +kernel
theorem dX4_worst_58 : decode cX4_worst 58 = .ok (.bipush 10, 2) := by decide +kernel
theorem dX4_worst_60 : decode cX4_worst 60 = .ok (.iload 6, 2) := by decide +kernel
theorem dX4_worst_62 : decode cX4_worst 62 = .ok (.imul, 1) := by decide +kernel
theorem dX4_worst_63 : decode cX4_worst 63 = .ok (.iadd, 1) := by decide +kernel
theorem dX4_worst_64 : decode cX4_worst 64 = .ok (.invokevirtual 121, 3) := by decide +kernel
theorem dX4_worst_67 : decode cX4_worst 67 = .ok (.lsub, 1) := by decide +kernel
theorem dX4_worst_68 : decode cX4_worst 68 = .ok (.lstore 7, 2) := by decide +kernel
theorem dX4_worst_70 : decode cX4_worst 70 = .ok (.lload 7, 2) := by decide +kernel
theorem dX4_worst_72 : decode cX4_worst 72 = .ok (.lload 4, 2) := by decide +kernel
theorem dX4_worst_74 : decode cX4_worst 74 = .ok (.lcmp, 1) := by decide +kernel
theorem dX4_worst_75 : decode cX4_worst 75 = .ok (.ifCond .le 8, 3) := by decide +kernel
theorem dX4_worst_78 : decode cX4_worst 78 = .ok (.lload 7, 2) := by decide +kernel
theorem dX4_worst_80 : decode cX4_worst 80 = .ok (.goto 5, 3) := by decide +kernel
theorem dX4_worst_83 : decode cX4_worst 83 = .ok (.lload 4, 2) := by decide +kernel
theorem dX4_worst_85 : decode cX4_worst 85 = .ok (.lstore 4, 2) := by decide +kernel
theorem dX4_worst_87 : decode cX4_worst 87 = .ok (.iinc 6 1, 3) := by decide +kernel
theorem dX4_worst_90 : decode cX4_worst 90 = .ok (.goto (-44), 3) := by decide +kernel
theorem dX4_worst_93 : decode cX4_worst 93 = .ok (.lload 4, 2) := by decide +kernel
theorem dX4_worst_95 : decode cX4_worst 95 = .ok (.lreturn, 1) := by decide +kernel
theorem dJ9_abs_0f7a4_0 : decode cJ9_abs_0f7a4 0 = .ok (.iload_n 0, 1) := by decide +kernel
theorem dJ9_abs_0f7a4_1 : decode cJ9_abs_0f7a4 1 = .ok (.ifCond .ge 8, 3) := by decide +kernel
theorem dJ9_abs_0f7a4_4 : decode cJ9_abs_0f7a4 4 = .ok (.iload_n 0, 1) := by decide +kernel
theorem dJ9_abs_0f7a4_5 : decode cJ9_abs_0f7a4 5 = .ok (.ineg, 1) := by decide +kernel
theorem dJ9_abs_0f7a4_6 : decode cJ9_abs_0f7a4 6 = .ok (.goto 4, 3) := by decide +kernel
theorem dJ9_abs_0f7a4_9 : decode cJ9_abs_0f7a4 9 = .ok (.iload_n 0, 1) := by decide +kernel
theorem dJ9_abs_0f7a4_10 : decode cJ9_abs_0f7a4 10 = .ok (.ireturn, 1) := by decide +kernel
theorem dJ9_max_7cf53_0 : decode cJ9_max_7cf53 0 = .ok (.iload_n 0, 1) := by decide +kernel
theorem dJ9_max_7cf53_1 : decode cJ9_max_7cf53 1 = .ok (.iload_n 1, 1) := by decide +kernel
theorem dJ9_max_7cf53_2 : decode cJ9_max_7cf53 2 = .ok (.if_icmp .lt 7, 3) := by decide +kernel
theorem dJ9_max_7cf53_5 : decode cJ9_max_7cf53 5 = .ok (.iload_n 0, 1) := by decide +kernel
theorem dJ9_max_7cf53_6 : decode cJ9_max_7cf53 6 = .ok (.goto 4, 3) := by decide +kernel
theorem dJ9_max_7cf53_9 : decode cJ9_max_7cf53 9 = .ok (.iload_n 1, 1) := by decide +kernel
theorem dJ9_max_7cf53_10 : decode cJ9_max_7cf53 10 = .ok (.ireturn, 1) := by decide +kernel
theorem dJ9_max_f86c9_0 : decode cJ9_max_f86c9 0 = .ok (.lload_n 0, 1) := by decide +kernel
theorem dJ9_max_f86c9_1 : decode cJ9_max_f86c9 1 = .ok (.lload_n 2, 1) := by decide +kernel
theorem dJ9_max_f86c9_2 : decode cJ9_max_f86c9 2 = .ok (.lcmp, 1) := by decide +kernel
theorem dJ9_max_f86c9_3 : decode cJ9_max_f86c9 3 = .ok (.ifCond .lt 7, 3) := by decide +kernel
theorem dJ9_max_f86c9_6 : decode cJ9_max_f86c9 6 = .ok (.lload_n 0, 1) := by decide +kernel
theorem dJ9_max_f86c9_7 : decode cJ9_max_f86c9 7 = .ok (.goto 4, 3) := by decide +kernel
theorem dJ9_max_f86c9_10 : decode cJ9_max_f86c9 10 = .ok (.lload_n 2, 1) := by decide +kernel
theorem dJ9_max_f86c9_11 : decode cJ9_max_f86c9 11 = .ok (.lreturn, 1) := by decide +kernel
theorem dJ9_min_7cf53_0 : decode cJ9_min_7cf53 0 = .ok (.iload_n 0, 1) := by decide +kernel
theorem dJ9_min_7cf53_1 : decode cJ9_min_7cf53 1 = .ok (.iload_n 1, 1) := by decide +kernel
theorem dJ9_min_7cf53_2 : decode cJ9_min_7cf53 2 = .ok (.if_icmp .gt 7, 3) := by decide +kernel
theorem dJ9_min_7cf53_5 : decode cJ9_min_7cf53 5 = .ok (.iload_n 0, 1) := by decide +kernel
theorem dJ9_min_7cf53_6 : decode cJ9_min_7cf53 6 = .ok (.goto 4, 3) := by decide +kernel
theorem dJ9_min_7cf53_9 : decode cJ9_min_7cf53 9 = .ok (.iload_n 1, 1) := by decide +kernel
theorem dJ9_min_7cf53_10 : decode cJ9_min_7cf53 10 = .ok (.ireturn, 1) := by decide +kernel
theorem dJxa1e45_init_da8c8_0 : decode cJxa1e45_init_da8c8 0 = .ok (.aload_n 0, 1) := by decide +kernel
theorem dJxa1e45_init_da8c8_1 : decode cJxa1e45_init_da8c8 1 = .ok (.invokespecial 1, 3) := by decide +kernel
theorem dJxa1e45_init_da8c8_4 : decode cJxa1e45_init_da8c8 4 = .ok (.return_, 1) := by decide +kernel
theorem dJxc12de_init_da8c8_0 : decode cJxc12de_init_da8c8 0 = .ok (.aload_n 0, 1) := by decide +kernel
theorem dJxc12de_init_da8c8_1 : decode cJxc12de_init_da8c8 1 = .ok (.invokespecial 1, 3) := by decide +kernel
theorem dJxc12de_init_da8c8_4 : decode cJxc12de_init_da8c8 4 = .ok (.aload_n 0, 1) := by decide +kernel
theorem dJxc12de_init_da8c8_5 : decode cJxc12de_init_da8c8 5 = .ok (.iconst 0, 1) := by decide +kernel
theorem dJxc12de_init_da8c8_6 : decode cJxc12de_init_da8c8 6 = .ok (.putfield 7, 3) := by decide +kernel
theorem dJxc12de_init_da8c8_9 : decode cJxc12de_init_da8c8 9 = .ok (.return_, 1) := by decide +kernel
theorem dJx4a65c_init_da8c8_0 : decode cJx4a65c_init_da8c8 0 = .ok (.aload_n 0, 1) := by decide +kernel
theorem dJx4a65c_init_da8c8_1 : decode cJx4a65c_init_da8c8 1 = .ok (.invokespecial 1, 3) := by decide +kernel
theorem dJx4a65c_init_da8c8_4 : decode cJx4a65c_init_da8c8 4 = .ok (.aload_n 0, 1) := by decide +kernel
theorem dJx4a65c_init_da8c8_5 : decode cJx4a65c_init_da8c8 5 = .ok (.getstatic 39, 3) := by decide +kernel
theorem dJx4a65c_init_da8c8_8 : decode cJx4a65c_init_da8c8 8 = .ok (.putfield 9, 3) := by decide +kernel
theorem dJx4a65c_init_da8c8_11 : decode cJx4a65c_init_da8c8 11 = .ok (.return_, 1) := by decide +kernel
theorem dJx4a65c_grow_92f84_0 : decode cJx4a65c_grow_92f84 0 = .ok (.aload_n 0, 1) := by decide +kernel
theorem dJx4a65c_grow_92f84_1 : decode cJx4a65c_grow_92f84 1 = .ok (.getfield 9, 3) := by decide +kernel
theorem dJx4a65c_grow_92f84_4 : decode cJx4a65c_grow_92f84 4 = .ok (.arraylength, 1) := by decide +kernel
theorem dJx4a65c_grow_92f84_5 : decode cJx4a65c_grow_92f84 5 = .ok (.istore_n 2, 1) := by decide +kernel
theorem dJx4a65c_grow_92f84_6 : decode cJx4a65c_grow_92f84 6 = .ok (.iload_n 2, 1) := by decide +kernel
theorem dJx4a65c_grow_92f84_7 : decode cJx4a65c_grow_92f84 7 = .ok (.ifCond .gt 13, 3) := by decide +kernel
theorem dJx4a65c_grow_92f84_10 : decode cJx4a65c_grow_92f84 10 = .ok (.aload_n 0, 1) := by decide +kernel
theorem dJx4a65c_grow_92f84_11 : decode cJx4a65c_grow_92f84 11 = .ok (.getfield 9, 3) := by decide +kernel
theorem dJx4a65c_grow_92f84_14 : decode cJx4a65c_grow_92f84 14 = .ok (.getstatic 39, 3) := by decide +kernel
theorem dJx4a65c_grow_92f84_17 : decode cJx4a65c_grow_92f84 17 = .ok (.if_acmp .eq 28, 3) := by decide +kernel
theorem dJx4a65c_grow_92f84_20 : decode cJx4a65c_grow_92f84 20 = .ok (.iload_n 2, 1) := by decide +kernel
theorem dJx4a65c_grow_92f84_21 : decode cJx4a65c_grow_92f84 21 = .ok (.iload_n 1, 1) := by decide +kernel
theorem dJx4a65c_grow_92f84_22 : decode cJx4a65c_grow_92f84 22 = .ok (.iload_n 2, 1) := by decide +kernel
theorem dJx4a65c_grow_92f84_23 : decode cJx4a65c_grow_92f84 23 = .ok (.isub, 1) := by decide +kernel
theorem dJx4a65c_grow_92f84_24 : decode cJx4a65c_grow_92f84 24 = .ok (.iload_n 2, 1) := by decide +kernel
theorem dJx4a65c_grow_92f84_25 : decode cJx4a65c_grow_92f84 25 = .ok (.iconst 1, 1) := by decide +kernel
theorem dJx4a65c_grow_92f84_26 : decode cJx4a65c_grow_92f84 26 = .ok (.ishr, 1) := by decide +kernel
theorem dJx4a65c_grow_92f84_27 : decode cJx4a65c_grow_92f84 27 = .ok (.invokestatic 73, 3) := by decide +kernel
theorem dJx4a65c_grow_92f84_30 : decode cJx4a65c_grow_92f84 30 = .ok (.istore_n 3, 1) := by decide +kernel
theorem dJx4a65c_grow_92f84_31 : decode cJx4a65c_grow_92f84 31 = .ok (.aload_n 0, 1) := by decide +kernel
theorem dJx4a65c_grow_92f84_32 : decode cJx4a65c_grow_92f84 32 = .ok (.aload_n 0, 1) := by decide +kernel
theorem dJx4a65c_grow_92f84_33 : decode cJx4a65c_grow_92f84 33 = .ok (.getfield 9, 3) := by decide +kernel
theorem dJx4a65c_grow_92f84_36 : decode cJx4a65c_grow_92f84 36 = .ok (.iload_n 3, 1) := by decide +kernel
theorem dJx4a65c_grow_92f84_37 : decode cJx4a65c_grow_92f84 37 = .ok (.invokestatic 66, 3) := by decide +kernel
theorem dJx4a65c_grow_92f84_40 : decode cJx4a65c_grow_92f84 40 = .ok (.dup_x1, 1) := by decide +kernel
theorem dJx4a65c_grow_92f84_41 : decode cJx4a65c_grow_92f84 41 = .ok (.putfield 9, 3) := by decide +kernel
theorem dJx4a65c_grow_92f84_44 : decode cJx4a65c_grow_92f84 44 = .ok (.areturn, 1) := by decide +kernel
theorem dJx4a65c_grow_92f84_45 : decode cJx4a65c_grow_92f84 45 = .ok (.aload_n 0, 1) := by decide +kernel
theorem dJx4a65c_grow_92f84_46 : decode cJx4a65c_grow_92f84 46 = .ok (.bipush 10, 2) := by decide +kernel
theorem dJx4a65c_grow_92f84_48 : decode cJx4a65c_grow_92f84 48 = .ok (.iload_n 1, 1) := by decide +kernel
theorem dJx4a65c_grow_92f84_49 : decode cJx4a65c_grow_92f84 49 = .ok (.invokestatic 79, 3) := by decide +kernel
theorem dJx4a65c_grow_92f84_52 : decode cJx4a65c_grow_92f84 52 = .ok (.anewarray 7, 3) := by decide +kernel
theorem dJx4a65c_grow_92f84_55 : decode cJx4a65c_grow_92f84 55 = .ok (.dup_x1, 1) := by decide +kernel
theorem dJx4a65c_grow_92f84_56 : decode cJx4a65c_grow_92f84 56 = .ok (.putfield 9, 3) := by decide +kernel
theorem dJx4a65c_grow_92f84_59 : decode cJx4a65c_grow_92f84 59 = .ok (.areturn, 1) := by decide +kernel
theorem dJx4a65c_grow_d5877_0 : decode cJx4a65c_grow_d5877 0 = .ok (.aload_n 0, 1) := by decide +kernel
theorem dJx4a65c_grow_d5877_1 : decode cJx4a65c_grow_d5877 1 = .ok (.aload_n 0, 1) := by decide +kernel
theorem dJx4a65c_grow_d5877_2 : decode cJx4a65c_grow_d5877 2 = .ok (.getfield 48, 3) := by decide +kernel
theorem dJx4a65c_grow_d5877_5 : decode cJx4a65c_grow_d5877 5 = .ok (.iconst 1, 1) := by decide +kernel
theorem dJx4a65c_grow_d5877_6 : decode cJx4a65c_grow_d5877 6 = .ok (.iadd, 1) := by decide +kernel
theorem dJx4a65c_grow_d5877_7 : decode cJx4a65c_grow_d5877 7 = .ok (.invokevirtual 69, 3) := by decide +kernel
theorem dJx4a65c_grow_d5877_10 : decode cJx4a65c_grow_d5877 10 = .ok (.areturn, 1) := by decide +kernel
theorem dJx4a65c_size_8abf5_0 : decode cJx4a65c_size_8abf5 0 = .ok (.aload_n 0, 1) := by decide +kernel
theorem dJx4a65c_size_8abf5_1 : decode cJx4a65c_size_8abf5 1 = .ok (.getfield 48, 3) := by decide +kernel
theorem dJx4a65c_size_8abf5_4 : decode cJx4a65c_size_8abf5 4 = .ok (.ireturn, 1) := by decide +kernel
theorem dJx4a65c_elementData_915e3_0 : decode cJx4a65c_elementData_915e3 0 = .ok (.aload_n 0, 1) := by decide +kernel
theorem dJx4a65c_elementData_915e3_1 : decode cJx4a65c_elementData_915e3 1 = .ok (.getfield 9, 3) := by decide +kernel
theorem dJx4a65c_elementData_915e3_4 : decode cJx4a65c_elementData_915e3 4 = .ok (.iload_n 1, 1) := by decide +kernel
theorem dJx4a65c_elementData_915e3_5 : decode cJx4a65c_elementData_915e3 5 = .ok (.aaload, 1) := by decide +kernel
theorem dJx4a65c_elementData_915e3_6 : decode cJx4a65c_elementData_915e3 6 = .ok (.areturn, 1) := by decide +kernel
theorem dJx4a65c_get_915e3_0 : decode cJx4a65c_get_915e3 0 = .ok (.iload_n 1, 1) := by decide +kernel
theorem dJx4a65c_get_915e3_1 : decode cJx4a65c_get_915e3 1 = .ok (.aload_n 0, 1) := by decide +kernel
theorem dJx4a65c_get_915e3_2 : decode cJx4a65c_get_915e3 2 = .ok (.getfield 48, 3) := by decide +kernel
theorem dJx4a65c_get_915e3_5 : decode cJx4a65c_get_915e3 5 = .ok (.invokestatic 118, 3) := by decide +kernel
theorem dJx4a65c_get_915e3_8 : decode cJx4a65c_get_915e3 8 = .ok (.pop, 1) := by decide +kernel
theorem dJx4a65c_get_915e3_9 : decode cJx4a65c_get_915e3 9 = .ok (.aload_n 0, 1) := by decide +kernel
theorem dJx4a65c_get_915e3_10 : decode cJx4a65c_get_915e3 10 = .ok (.iload_n 1, 1) := by decide +kernel
theorem dJx4a65c_get_915e3_11 : decode cJx4a65c_get_915e3 11 = .ok (.invokevirtual 123, 3) := by decide +kernel
theorem dJx4a65c_get_915e3_14 : decode cJx4a65c_get_915e3 14 = .ok (.areturn, 1) := by decide +kernel
theorem dJx4a65c_add_72be8_0 : decode cJx4a65c_add_72be8 0 = .ok (.iload_n 3, 1) := by decide +kernel
theorem dJx4a65c_add_72be8_1 : decode cJx4a65c_add_72be8 1 = .ok (.aload_n 2, 1) := by decide +kernel
theorem dJx4a65c_add_72be8_2 : decode cJx4a65c_add_72be8 2 = .ok (.arraylength, 1) := by decide +kernel
theorem dJx4a65c_add_72be8_3 : decode cJx4a65c_add_72be8 3 = .ok (.if_icmp .ne 8, 3) := by decide +kernel
theorem dJx4a65c_add_72be8_6 : decode cJx4a65c_add_72be8 6 = .ok (.aload_n 0, 1) := by decide +kernel
theorem dJx4a65c_add_72be8_7 : decode cJx4a65c_add_72be8 7 = .ok (.invokevirtual 129, 3) := by decide +kernel
theorem dJx4a65c_add_72be8_10 : decode cJx4a65c_add_72be8 10 = .ok (.astore_n 2, 1) := by decide +kernel
theorem dJx4a65c_add_72be8_11 : decode cJx4a65c_add_72be8 11 = .ok (.aload_n 2, 1) := by decide +kernel
theorem dJx4a65c_add_72be8_12 : decode cJx4a65c_add_72be8 12 = .ok (.iload_n 3, 1) := by decide +kernel
theorem dJx4a65c_add_72be8_13 : decode cJx4a65c_add_72be8 13 = .ok (.aload_n 1, 1) := by decide +kernel
theorem dJx4a65c_add_72be8_14 : decode cJx4a65c_add_72be8 14 = .ok (.aastore, 1) := by decide +kernel
theorem dJx4a65c_add_72be8_15 : decode cJx4a65c_add_72be8 15 = .ok (.aload_n 0, 1) := by decide +kernel
theorem dJx4a65c_add_72be8_16 : decode cJx4a65c_add_72be8 16 = .ok (.iload_n 3, 1) := by decide +kernel
theorem dJx4a65c_add_72be8_17 : decode cJx4a65c_add_72be8 17 = .ok (.iconst 1, 1) := by decide +kernel
theorem dJx4a65c_add_72be8_18 : decode cJx4a65c_add_72be8 18 = .ok (.iadd, 1) := by decide +kernel
theorem dJx4a65c_add_72be8_19 : decode cJx4a65c_add_72be8 19 = .ok (.putfield 48, 3) := by decide +kernel
theorem dJx4a65c_add_72be8_22 : decode cJx4a65c_add_72be8 22 = .ok (.return_, 1) := by decide +kernel
theorem dJx4a65c_add_9ea2d_0 : decode cJx4a65c_add_9ea2d 0 = .ok (.aload_n 0, 1) := by decide +kernel
theorem dJx4a65c_add_9ea2d_1 : decode cJx4a65c_add_9ea2d 1 = .ok (.dup, 1) := by decide +kernel
theorem dJx4a65c_add_9ea2d_2 : decode cJx4a65c_add_9ea2d 2 = .ok (.getfield 63, 3) := by decide +kernel
theorem dJx4a65c_add_9ea2d_5 : decode cJx4a65c_add_9ea2d 5 = .ok (.iconst 1, 1) := by decide +kernel
theorem dJx4a65c_add_9ea2d_6 : decode cJx4a65c_add_9ea2d 6 = .ok (.iadd, 1) := by decide +kernel
theorem dJx4a65c_add_9ea2d_7 : decode cJx4a65c_add_9ea2d 7 = .ok (.putfield 63, 3) := by decide +kernel
theorem dJx4a65c_add_9ea2d_10 : decode cJx4a65c_add_9ea2d 10 = .ok (.aload_n 0, 1) := by decide +kernel
theorem dJx4a65c_add_9ea2d_11 : decode cJx4a65c_add_9ea2d 11 = .ok (.aload_n 1, 1) := by decide +kernel
theorem dJx4a65c_add_9ea2d_12 : decode cJx4a65c_add_9ea2d 12 = .ok (.aload_n 0, 1) := by decide +kernel
theorem dJx4a65c_add_9ea2d_13 : decode cJx4a65c_add_9ea2d 13 = .ok (.getfield 9, 3) := by decide +kernel
theorem dJx4a65c_add_9ea2d_16 : decode cJx4a65c_add_9ea2d 16 = .ok (.aload_n 0, 1) := by decide +kernel
theorem dJx4a65c_add_9ea2d_17 : decode cJx4a65c_add_9ea2d 17 = .ok (.getfield 48, 3) := by decide +kernel
theorem dJx4a65c_add_9ea2d_20 : decode cJx4a65c_add_9ea2d 20 = .ok (.invokevirtual 131, 3) := by decide +kernel
theorem dJx4a65c_add_9ea2d_23 : decode cJx4a65c_add_9ea2d 23 = .ok (.iconst 1, 1) := by decide +kernel
theorem dJx4a65c_add_9ea2d_24 : decode cJx4a65c_add_9ea2d 24 = .ok (.ireturn, 1) := by decide +kernel
theorem dJ7_copyOf_1904c_0 : decode cJ7_copyOf_1904c 0 = .ok (.aload_n 0, 1) := by decide +kernel
theorem dJ7_copyOf_1904c_1 : decode cJ7_copyOf_1904c 1 = .ok (.iload_n 1, 1) := by decide +kernel
theorem dJ7_copyOf_1904c_2 : decode cJ7_copyOf_1904c 2 = .ok (.aload_n 0, 1) := by decide +kernel
theorem dJ7_copyOf_1904c_3 : decode cJ7_copyOf_1904c 3 = .ok (.invokevirtual 86, 3) := by decide +kernel
theorem dJ7_copyOf_1904c_6 : decode cJ7_copyOf_1904c 6 = .ok (.invokestatic 300, 3) := by decide +kernel
theorem dJ7_copyOf_1904c_9 : decode cJ7_copyOf_1904c 9 = .ok (.areturn, 1) := by decide +kernel
theorem dJ7_copyOf_6403c_0 : decode cJ7_copyOf_6403c 0 = .ok (.aload_n 2, 1) := by decide +kernel
theorem dJ7_copyOf_6403c_1 : decode cJ7_copyOf_6403c 1 = .ok (.ldc 110, 2) := by decide +kernel
theorem dJ7_copyOf_6403c_3 : decode cJ7_copyOf_6403c 3 = .ok (.if_acmp .ne 10, 3) := by decide +kernel
theorem dJ7_copyOf_6403c_6 : decode cJ7_copyOf_6403c 6 = .ok (.iload_n 1, 1) := by decide +kernel
theorem dJ7_copyOf_6403c_7 : decode cJ7_copyOf_6403c 7 = .ok (.anewarray 2, 3) := by decide +kernel
theorem dJ7_copyOf_6403c_10 : decode cJ7_copyOf_6403c 10 = .ok (.goto 14, 3) := by decide +kernel
theorem dJ7_copyOf_6403c_13 : decode cJ7_copyOf_6403c 13 = .ok (.aload_n 2, 1) := by decide +kernel
theorem dJ7_copyOf_6403c_14 : decode cJ7_copyOf_6403c 14 = .ok (.invokevirtual 90, 3) := by decide +kernel
theorem dJ7_copyOf_6403c_17 : decode cJ7_copyOf_6403c 17 = .ok (.iload_n 1, 1) := by decide +kernel
theorem dJ7_copyOf_6403c_18 : decode cJ7_copyOf_6403c 18 = .ok (.invokestatic 95, 3) := by decide +kernel
theorem dJ7_copyOf_6403c_21 : decode cJ7_copyOf_6403c 21 = .ok (.checkcast 110, 3) := by decide +kernel
theorem dJ7_copyOf_6403c_24 : decode cJ7_copyOf_6403c 24 = .ok (.astore_n 3, 1) := by decide +kernel
theorem dJ7_copyOf_6403c_25 : decode cJ7_copyOf_6403c 25 = .ok (.aload_n 0, 1) := by decide +kernel
theorem dJ7_copyOf_6403c_26 : decode cJ7_copyOf_6403c 26 = .ok (.iconst 0, 1) := by decide +kernel
theorem dJ7_copyOf_6403c_27 : decode cJ7_copyOf_6403c 27 = .ok (.aload_n 3, 1) := by decide +kernel
theorem dJ7_copyOf_6403c_28 : decode cJ7_copyOf_6403c 28 = .ok (.iconst 0, 1) := by decide +kernel
theorem dJ7_copyOf_6403c_29 : decode cJ7_copyOf_6403c 29 = .ok (.aload_n 0, 1) := by decide +kernel
theorem dJ7_copyOf_6403c_30 : decode cJ7_copyOf_6403c 30 = .ok (.arraylength, 1) := by decide +kernel
theorem dJ7_copyOf_6403c_31 : decode cJ7_copyOf_6403c 31 = .ok (.iload_n 1, 1) := by decide +kernel
theorem dJ7_copyOf_6403c_32 : decode cJ7_copyOf_6403c 32 = .ok (.invokestatic 304, 3) := by decide +kernel
theorem dJ7_copyOf_6403c_35 : decode cJ7_copyOf_6403c 35 = .ok (.invokestatic 150, 3) := by decide +kernel
theorem dJ7_copyOf_6403c_38 : decode cJ7_copyOf_6403c 38 = .ok (.aload_n 3, 1) := by decide +kernel
theorem dJ7_copyOf_6403c_39 : decode cJ7_copyOf_6403c 39 = .ok (.areturn, 1) := by decide +kernel
theorem dJ15_checkIndex_7cf53_0 : decode cJ15_checkIndex_7cf53 0 = .ok (.iload_n 0, 1) := by decide +kernel
theorem dJ15_checkIndex_7cf53_1 : decode cJ15_checkIndex_7cf53 1 = .ok (.iload_n 1, 1) := by decide +kernel
theorem dJ15_checkIndex_7cf53_2 : decode cJ15_checkIndex_7cf53 2 = .ok (.aconst_null, 1) := by decide +kernel
theorem dJ15_checkIndex_7cf53_3 : decode cJ15_checkIndex_7cf53 3 = .ok (.invokestatic 105, 3) := by decide +kernel
theorem dJ15_checkIndex_7cf53_6 : decode cJ15_checkIndex_7cf53 6 = .ok (.ireturn, 1) := by decide +kernel
theorem dJ8_newLength_cabcc_0 : decode cJ8_newLength_cabcc 0 = .ok (.iload_n 0, 1) := by decide +kernel
theorem dJ8_newLength_cabcc_1 : decode cJ8_newLength_cabcc 1 = .ok (.iload_n 1, 1) := by decide +kernel
theorem dJ8_newLength_cabcc_2 : decode cJ8_newLength_cabcc 2 = .ok (.iload_n 2, 1) := by decide +kernel
theorem dJ8_newLength_cabcc_3 : decode cJ8_newLength_cabcc 3 = .ok (.invokestatic 194, 3) := by decide +kernel
theorem dJ8_newLength_cabcc_6 : decode cJ8_newLength_cabcc 6 = .ok (.iadd, 1) := by decide +kernel
theorem dJ8_newLength_cabcc_7 : decode cJ8_newLength_cabcc 7 = .ok (.istore_n 3, 1) := by decide +kernel
theorem dJ8_newLength_cabcc_8 : decode cJ8_newLength_cabcc 8 = .ok (.iconst 0, 1) := by decide +kernel
theorem dJ8_newLength_cabcc_9 : decode cJ8_newLength_cabcc 9 = .ok (.iload_n 3, 1) := by decide +kernel
theorem dJ8_newLength_cabcc_10 : decode cJ8_newLength_cabcc 10 = .ok (.if_icmp .ge 11, 3) := by decide +kernel
theorem dJ8_newLength_cabcc_13 : decode cJ8_newLength_cabcc 13 = .ok (.iload_n 3, 1) := by decide +kernel
theorem dJ8_newLength_cabcc_14 : decode cJ8_newLength_cabcc 14 = .ok (.ldc 200, 2) := by decide +kernel
theorem dJ8_newLength_cabcc_16 : decode cJ8_newLength_cabcc 16 = .ok (.if_icmp .gt 5, 3) := by decide +kernel
theorem dJ8_newLength_cabcc_19 : decode cJ8_newLength_cabcc 19 = .ok (.iload_n 3, 1) := by decide +kernel
theorem dJ8_newLength_cabcc_20 : decode cJ8_newLength_cabcc 20 = .ok (.ireturn, 1) := by decide +kernel
theorem dJ8_newLength_cabcc_21 : decode cJ8_newLength_cabcc 21 = .ok (.iload_n 0, 1) := by decide +kernel
theorem dJ8_newLength_cabcc_22 : decode cJ8_newLength_cabcc 22 = .ok (.iload_n 1, 1) := by decide +kernel
theorem dJ8_newLength_cabcc_23 : decode cJ8_newLength_cabcc 23 = .ok (.invokestatic 201, 3) := by decide +kernel
theorem dJ8_newLength_cabcc_26 : decode cJ8_newLength_cabcc 26 = .ok (.ireturn, 1) := by decide +kernel
theorem dJ8_hugeLength_7cf53_0 : decode cJ8_hugeLength_7cf53 0 = .ok (.iload_n 0, 1) := by decide +kernel
theorem dJ8_hugeLength_7cf53_1 : decode cJ8_hugeLength_7cf53 1 = .ok (.iload_n 1, 1) := by decide +kernel
theorem dJ8_hugeLength_7cf53_2 : decode cJ8_hugeLength_7cf53 2 = .ok (.iadd, 1) := by decide +kernel
theorem dJ8_hugeLength_7cf53_3 : decode cJ8_hugeLength_7cf53 3 = .ok (.istore_n 2, 1) := by decide +kernel
theorem dJ8_hugeLength_7cf53_4 : decode cJ8_hugeLength_7cf53 4 = .ok (.iload_n 2, 1) := by decide +kernel
theorem dJ8_hugeLength_7cf53_5 : decode cJ8_hugeLength_7cf53 5 = .ok (.ifCond .ge 44, 3) := by decide +kernel
theorem dJ8_hugeLength_7cf53_8 : decode cJ8_hugeLength_7cf53 8 = .ok (.new 204, 3) := by decide +kernel
theorem dJ8_hugeLength_7cf53_11 : decode cJ8_hugeLength_7cf53 11 = .ok (.dup, 1) := by decide +kernel
theorem dJ8_hugeLength_7cf53_12 : decode cJ8_hugeLength_7cf53 12 = .ok (.new 89, 3) := by decide +kernel
theorem dJ8_hugeLength_7cf53_15 : decode cJ8_hugeLength_7cf53 15 = .ok (.dup, 1) := by decide +kernel
theorem dJ8_hugeLength_7cf53_16 : decode cJ8_hugeLength_7cf53 16 = .ok (.invokespecial 91, 3) := by decide +kernel
theorem dJ8_hugeLength_7cf53_19 : decode cJ8_hugeLength_7cf53 19 = .ok (.ldc 206, 2) := by decide +kernel
theorem dJ8_hugeLength_7cf53_21 : decode cJ8_hugeLength_7cf53 21 = .ok (.invokevirtual 94, 3) := by decide +kernel
theorem dJ8_hugeLength_7cf53_24 : decode cJ8_hugeLength_7cf53 24 = .ok (.iload_n 0, 1) := by decide +kernel
theorem dJ8_hugeLength_7cf53_25 : decode cJ8_hugeLength_7cf53 25 = .ok (.invokevirtual 98, 3) := by decide +kernel
theorem dJ8_hugeLength_7cf53_28 : decode cJ8_hugeLength_7cf53 28 = .ok (.ldc 208, 2) := by decide +kernel
theorem dJ8_hugeLength_7cf53_30 : decode cJ8_hugeLength_7cf53 30 = .ok (.invokevirtual 94, 3) := by decide +kernel
theorem dJ8_hugeLength_7cf53_33 : decode cJ8_hugeLength_7cf53 33 = .ok (.iload_n 1, 1) := by decide +kernel
theorem dJ8_hugeLength_7cf53_34 : decode cJ8_hugeLength_7cf53 34 = .ok (.invokevirtual 98, 3) := by decide +kernel
theorem dJ8_hugeLength_7cf53_37 : decode cJ8_hugeLength_7cf53 37 = .ok (.ldc 210, 2) := by decide +kernel
theorem dJ8_hugeLength_7cf53_39 : decode cJ8_hugeLength_7cf53 39 = .ok (.invokevirtual 94, 3) := by decide +kernel
theorem dJ8_hugeLength_7cf53_42 : decode cJ8_hugeLength_7cf53 42 = .ok (.invokevirtual 101, 3) := by decide +kernel
theorem dJ8_hugeLength_7cf53_45 : decode cJ8_hugeLength_7cf53 45 = .ok (.invokespecial 212, 3) := by decide +kernel
theorem dJ8_hugeLength_7cf53_48 : decode cJ8_hugeLength_7cf53 48 = .ok (.athrow, 1) := by decide +kernel
theorem dJ8_hugeLength_7cf53_49 : decode cJ8_hugeLength_7cf53 49 = .ok (.iload_n 2, 1) := by decide +kernel
theorem dJ8_hugeLength_7cf53_50 : decode cJ8_hugeLength_7cf53 50 = .ok (.ldc 200, 2) := by decide +kernel
theorem dJ8_hugeLength_7cf53_52 : decode cJ8_hugeLength_7cf53 52 = .ok (.if_icmp .gt 6, 3) := by decide +kernel
theorem dJ8_hugeLength_7cf53_55 : decode cJ8_hugeLength_7cf53 55 = .ok (.ldc 200, 2) := by decide +kernel
theorem dJ8_hugeLength_7cf53_57 : decode cJ8_hugeLength_7cf53 57 = .ok (.ireturn, 1) := by decide +kernel
theorem dJ8_hugeLength_7cf53_58 : decode cJ8_hugeLength_7cf53 58 = .ok (.iload_n 2, 1) := by decide +kernel
theorem dJ8_hugeLength_7cf53_59 : decode cJ8_hugeLength_7cf53 59 = .ok (.ireturn, 1) := by decide +kernel
theorem dJ3_checkIndex_8e157_0 : decode cJ3_checkIndex_8e157 0 = .ok (.iload_n 0, 1) := by decide +kernel
theorem dJ3_checkIndex_8e157_1 : decode cJ3_checkIndex_8e157 1 = .ok (.ifCond .lt 8, 3) := by decide +kernel
theorem dJ3_checkIndex_8e157_4 : decode cJ3_checkIndex_8e157 4 = .ok (.iload_n 0, 1) := by decide +kernel
theorem dJ3_checkIndex_8e157_5 : decode cJ3_checkIndex_8e157 5 = .ok (.iload_n 1, 1) := by decide +kernel
theorem dJ3_checkIndex_8e157_6 : decode cJ3_checkIndex_8e157 6 = .ok (.if_icmp .lt 10, 3) := by decide +kernel
theorem dJ3_checkIndex_8e157_9 : decode cJ3_checkIndex_8e157 9 = .ok (.aload_n 2, 1) := by decide +kernel
theorem dJ3_checkIndex_8e157_10 : decode cJ3_checkIndex_8e157 10 = .ok (.iload_n 0, 1) := by decide +kernel
theorem dJ3_checkIndex_8e157_11 : decode cJ3_checkIndex_8e157 11 = .ok (.iload_n 1, 1) := by decide +kernel
theorem dJ3_checkIndex_8e157_12 : decode cJ3_checkIndex_8e157 12 = .ok (.invokestatic 95, 3) := by decide +kernel
theorem dJ3_checkIndex_8e157_15 : decode cJ3_checkIndex_8e157 15 = .ok (.athrow, 1) := by decide +kernel
theorem dJ3_checkIndex_8e157_16 : decode cJ3_checkIndex_8e157 16 = .ok (.iload_n 0, 1) := by decide +kernel
theorem dJ3_checkIndex_8e157_17 : decode cJ3_checkIndex_8e157 17 = .ok (.ireturn, 1) := by decide +kernel
theorem dL_steps_0 : decode cL_steps 0 = .ok (.aload_n 0, 1) := by decide +kernel
theorem dL_steps_1 : decode cL_steps 1 = .ok (.iload_n 1, 1) := by decide +kernel
theorem dL_steps_2 : decode cL_steps 2 = .ok (.iload_n 2, 1) := by decide +kernel
theorem dL_steps_3 : decode cL_steps 3 = .ok (.invokevirtual 7, 3) := by decide +kernel
theorem dL_steps_6 : decode cL_steps 6 = .ok (.goto 6, 3) := by decide +kernel
theorem dL_steps_9 : decode cL_steps 9 = .ok (.astore_n 3, 1) := by decide +kernel
theorem dL_steps_10 : decode cL_steps 10 = .ok (.iconst 1, 1) := by decide +kernel
theorem dL_steps_11 : decode cL_steps 11 = .ok (.ireturn, 1) := by decide +kernel
theorem dL_steps_12 : decode cL_steps 12 = .ok (.iconst 0, 1) := by decide +kernel
theorem dL_steps_13 : decode cL_steps 13 = .ok (.ireturn, 1) := by decide +kernel
theorem dL_move_0 : decode cL_move 0 = .ok (.aload_n 2, 1) := by decide +kernel
theorem dL_move_1 : decode cL_move 1 = .ok (.iconst 0, 1) := by decide +kernel
theorem dL_move_2 : decode cL_move 2 = .ok (.aload_n 0, 1) := by decide +kernel
theorem dL_move_3 : decode cL_move 3 = .ok (.iload_n 1, 1) := by decide +kernel
theorem dL_move_4 : decode cL_move 4 = .ok (.invokevirtual 15, 3) := by decide +kernel
theorem dL_move_7 : decode cL_move 7 = .ok (.lastore, 1) := by decide +kernel
theorem dL_move_8 : decode cL_move 8 = .ok (.goto 6, 3) := by decide +kernel
theorem dL_move_11 : decode cL_move 11 = .ok (.astore_n 3, 1) := by decide +kernel
theorem dL_move_12 : decode cL_move 12 = .ok (.iconst 1, 1) := by decide +kernel
theorem dL_move_13 : decode cL_move 13 = .ok (.ireturn, 1) := by decide +kernel
theorem dL_move_14 : decode cL_move 14 = .ok (.iconst 0, 1) := by decide +kernel
theorem dL_move_15 : decode cL_move 15 = .ok (.ireturn, 1) := by decide +kernel
theorem dL_dividend_0 : decode cL_dividend 0 = .ok (.aload_n 3, 1) := by decide +kernel
theorem dL_dividend_1 : decode cL_dividend 1 = .ok (.iconst 0, 1) := by decide +kernel
theorem dL_dividend_2 : decode cL_dividend 2 = .ok (.aload_n 0, 1) := by decide +kernel
theorem dL_dividend_3 : decode cL_dividend 3 = .ok (.iload_n 1, 1) := by decide +kernel
theorem dL_dividend_4 : decode cL_dividend 4 = .ok (.iload_n 2, 1) := by decide +kernel
theorem dL_dividend_5 : decode cL_dividend 5 = .ok (.invokevirtual 19, 3) := by decide +kernel
theorem dL_dividend_8 : decode cL_dividend 8 = .ok (.i2l, 1) := by decide +kernel
theorem dL_dividend_9 : decode cL_dividend 9 = .ok (.lastore, 1) := by decide +kernel
theorem dL_dividend_10 : decode cL_dividend 10 = .ok (.goto 7, 3) := by decide +kernel
theorem dL_dividend_13 : decode cL_dividend 13 = .ok (.astore 4, 2) := by decide +kernel
theorem dL_dividend_15 : decode cL_dividend 15 = .ok (.iconst 1, 1) := by decide +kernel
theorem dL_dividend_16 : decode cL_dividend 16 = .ok (.ireturn, 1) := by decide +kernel
theorem dL_dividend_17 : decode cL_dividend 17 = .ok (.iconst 0, 1) := by decide +kernel
theorem dL_dividend_18 : decode cL_dividend 18 = .ok (.ireturn, 1) := by decide +kernel
theorem dL_contract_0 : decode cL_contract 0 = .ok (.aload 5, 2) := by decide +kernel
theorem dL_contract_2 : decode cL_contract 2 = .ok (.iconst 0, 1) := by decide +kernel
theorem dL_contract_3 : decode cL_contract 3 = .ok (.aload_n 0, 1) := by decide +kernel
theorem dL_contract_4 : decode cL_contract 4 = .ok (.iload_n 1, 1) := by decide +kernel
theorem dL_contract_5 : decode cL_contract 5 = .ok (.iload_n 2, 1) := by decide +kernel
theorem dL_contract_6 : decode cL_contract 6 = .ok (.iload_n 3, 1) := by decide +kernel
theorem dL_contract_7 : decode cL_contract 7 = .ok (.iload 4, 2) := by decide +kernel
theorem dL_contract_9 : decode cL_contract 9 = .ok (.invokevirtual 23, 3) := by decide +kernel
theorem dL_contract_12 : decode cL_contract 12 = .ok (.i2l, 1) := by decide +kernel
theorem dL_contract_13 : decode cL_contract 13 = .ok (.lastore, 1) := by decide +kernel
theorem dL_contract_14 : decode cL_contract 14 = .ok (.goto 11, 3) := by decide +kernel
theorem dL_contract_17 : decode cL_contract 17 = .ok (.astore 6, 2) := by decide +kernel
theorem dL_contract_19 : decode cL_contract 19 = .ok (.iconst 1, 1) := by decide +kernel
theorem dL_contract_20 : decode cL_contract 20 = .ok (.ireturn, 1) := by decide +kernel
theorem dL_contract_21 : decode cL_contract 21 = .ok (.astore 6, 2) := by decide +kernel
theorem dL_contract_23 : decode cL_contract 23 = .ok (.iconst 2, 1) := by decide +kernel
theorem dL_contract_24 : decode cL_contract 24 = .ok (.ireturn, 1) := by decide +kernel
theorem dL_contract_25 : decode cL_contract 25 = .ok (.iconst 0, 1) := by decide +kernel
theorem dL_contract_26 : decode cL_contract 26 = .ok (.ireturn, 1) := by decide +kernel
theorem dL_quote_0 : decode cL_quote 0 = .ok (.aload 5, 2) := by decide +kernel
theorem dL_quote_2 : decode cL_quote 2 = .ok (.iconst 0, 1) := by decide +kernel
theorem dL_quote_3 : decode cL_quote 3 = .ok (.aload_n 0, 1) := by decide +kernel
theorem dL_quote_4 : decode cL_quote 4 = .ok (.iload_n 1, 1) := by decide +kernel
theorem dL_quote_5 : decode cL_quote 5 = .ok (.iload_n 2, 1) := by decide +kernel
theorem dL_quote_6 : decode cL_quote 6 = .ok (.iload_n 3, 1) := by decide +kernel
theorem dL_quote_7 : decode cL_quote 7 = .ok (.iload 4, 2) := by decide +kernel
theorem dL_quote_9 : decode cL_quote 9 = .ok (.invokevirtual 29, 3) := by decide +kernel
theorem dL_quote_12 : decode cL_quote 12 = .ok (.i2l, 1) := by decide +kernel
theorem dL_quote_13 : decode cL_quote 13 = .ok (.lastore, 1) := by decide +kernel
theorem dL_quote_14 : decode cL_quote 14 = .ok (.goto 15, 3) := by decide +kernel
theorem dL_quote_17 : decode cL_quote 17 = .ok (.astore 6, 2) := by decide +kernel
theorem dL_quote_19 : decode cL_quote 19 = .ok (.iconst 1, 1) := by decide +kernel
theorem dL_quote_20 : decode cL_quote 20 = .ok (.ireturn, 1) := by decide +kernel
theorem dL_quote_21 : decode cL_quote 21 = .ok (.astore 6, 2) := by decide +kernel
theorem dL_quote_23 : decode cL_quote 23 = .ok (.iconst 2, 1) := by decide +kernel
theorem dL_quote_24 : decode cL_quote 24 = .ok (.ireturn, 1) := by decide +kernel
theorem dL_quote_25 : decode cL_quote 25 = .ok (.astore 6, 2) := by decide +kernel
theorem dL_quote_27 : decode cL_quote 27 = .ok (.iconst 3, 1) := by decide +kernel
theorem dL_quote_28 : decode cL_quote 28 = .ok (.ireturn, 1) := by decide +kernel
theorem dL_quote_29 : decode cL_quote 29 = .ok (.iconst 0, 1) := by decide +kernel
theorem dL_quote_30 : decode cL_quote 30 = .ok (.ireturn, 1) := by decide +kernel
theorem dL_limit_0 : decode cL_limit 0 = .ok (.aload_n 2, 1) := by decide +kernel
theorem dL_limit_1 : decode cL_limit 1 = .ok (.iconst 0, 1) := by decide +kernel
theorem dL_limit_2 : decode cL_limit 2 = .ok (.aload_n 0, 1) := by decide +kernel
theorem dL_limit_3 : decode cL_limit 3 = .ok (.iload_n 1, 1) := by decide +kernel
theorem dL_limit_4 : decode cL_limit 4 = .ok (.invokevirtual 35, 3) := by decide +kernel
theorem dL_limit_7 : decode cL_limit 7 = .ok (.i2l, 1) := by decide +kernel
theorem dL_limit_8 : decode cL_limit 8 = .ok (.lastore, 1) := by decide +kernel
theorem dL_limit_9 : decode cL_limit 9 = .ok (.goto 6, 3) := by decide +kernel
theorem dL_limit_12 : decode cL_limit 12 = .ok (.astore_n 3, 1) := by decide +kernel
theorem dL_limit_13 : decode cL_limit 13 = .ok (.iconst 1, 1) := by decide +kernel
theorem dL_limit_14 : decode cL_limit 14 = .ok (.ireturn, 1) := by decide +kernel
theorem dL_limit_15 : decode cL_limit 15 = .ok (.iconst 0, 1) := by decide +kernel
theorem dL_limit_16 : decode cL_limit 16 = .ok (.ireturn, 1) := by decide +kernel
theorem dL_order_0 : decode cL_order 0 = .ok (.aload 5, 2) := by decide +kernel
theorem dL_order_2 : decode cL_order 2 = .ok (.iconst 0, 1) := by decide +kernel
theorem dL_order_3 : decode cL_order 3 = .ok (.aload_n 0, 1) := by decide +kernel
theorem dL_order_4 : decode cL_order 4 = .ok (.iload_n 1, 1) := by decide +kernel
theorem dL_order_5 : decode cL_order 5 = .ok (.iload_n 2, 1) := by decide +kernel
theorem dL_order_6 : decode cL_order 6 = .ok (.iload_n 3, 1) := by decide +kernel
theorem dL_order_7 : decode cL_order 7 = .ok (.iload 4, 2) := by decide +kernel
theorem dL_order_9 : decode cL_order 9 = .ok (.invokevirtual 39, 3) := by decide +kernel
theorem dL_order_12 : decode cL_order 12 = .ok (.i2l, 1) := by decide +kernel
theorem dL_order_13 : decode cL_order 13 = .ok (.lastore, 1) := by decide +kernel
theorem dL_order_14 : decode cL_order 14 = .ok (.goto 15, 3) := by decide +kernel
theorem dL_order_17 : decode cL_order 17 = .ok (.astore 6, 2) := by decide +kernel
theorem dL_order_19 : decode cL_order 19 = .ok (.iconst 1, 1) := by decide +kernel
theorem dL_order_20 : decode cL_order 20 = .ok (.ireturn, 1) := by decide +kernel
theorem dL_order_21 : decode cL_order 21 = .ok (.astore 6, 2) := by decide +kernel
theorem dL_order_23 : decode cL_order 23 = .ok (.iconst 2, 1) := by decide +kernel
theorem dL_order_24 : decode cL_order 24 = .ok (.ireturn, 1) := by decide +kernel
theorem dL_order_25 : decode cL_order 25 = .ok (.astore 6, 2) := by decide +kernel
theorem dL_order_27 : decode cL_order 27 = .ok (.iconst 3, 1) := by decide +kernel
theorem dL_order_28 : decode cL_order 28 = .ok (.ireturn, 1) := by decide +kernel
theorem dL_order_29 : decode cL_order 29 = .ok (.iconst 0, 1) := by decide +kernel
theorem dL_order_30 : decode cL_order 30 = .ok (.ireturn, 1) := by decide +kernel
theorem dL_hedge_0 : decode cL_hedge 0 = .ok (.aload_n 3, 1) := by decide +kernel
theorem dL_hedge_1 : decode cL_hedge 1 = .ok (.iconst 0, 1) := by decide +kernel
theorem dL_hedge_2 : decode cL_hedge 2 = .ok (.aload_n 0, 1) := by decide +kernel
theorem dL_hedge_3 : decode cL_hedge 3 = .ok (.iload_n 1, 1) := by decide +kernel
theorem dL_hedge_4 : decode cL_hedge 4 = .ok (.iload_n 2, 1) := by decide +kernel
theorem dL_hedge_5 : decode cL_hedge 5 = .ok (.invokevirtual 42, 3) := by decide +kernel
theorem dL_hedge_8 : decode cL_hedge 8 = .ok (.i2l, 1) := by decide +kernel
theorem dL_hedge_9 : decode cL_hedge 9 = .ok (.lastore, 1) := by decide +kernel
theorem dL_hedge_10 : decode cL_hedge 10 = .ok (.goto 7, 3) := by decide +kernel
theorem dL_hedge_13 : decode cL_hedge 13 = .ok (.astore 4, 2) := by decide +kernel
theorem dL_hedge_15 : decode cL_hedge 15 = .ok (.iconst 1, 1) := by decide +kernel
theorem dL_hedge_16 : decode cL_hedge 16 = .ok (.ireturn, 1) := by decide +kernel
theorem dL_hedge_17 : decode cL_hedge 17 = .ok (.iconst 0, 1) := by decide +kernel
theorem dL_hedge_18 : decode cL_hedge 18 = .ok (.ireturn, 1) := by decide +kernel
theorem dL_seed_0 : decode cL_seed 0 = .ok (.aload_n 0, 1) := by decide +kernel
theorem dL_seed_1 : decode cL_seed 1 = .ok (.iload_n 1, 1) := by decide +kernel
theorem dL_seed_2 : decode cL_seed 2 = .ok (.invokevirtual 45, 3) := by decide +kernel
theorem dL_seed_5 : decode cL_seed 5 = .ok (.goto 6, 3) := by decide +kernel
theorem dL_seed_8 : decode cL_seed 8 = .ok (.astore_n 2, 1) := by decide +kernel
theorem dL_seed_9 : decode cL_seed 9 = .ok (.iconst 1, 1) := by decide +kernel
theorem dL_seed_10 : decode cL_seed 10 = .ok (.ireturn, 1) := by decide +kernel
theorem dL_seed_11 : decode cL_seed 11 = .ok (.iconst 0, 1) := by decide +kernel
theorem dL_seed_12 : decode cL_seed 12 = .ok (.ireturn, 1) := by decide +kernel
theorem dL_exercise_0 : decode cL_exercise 0 = .ok (.aload 4, 2) := by decide +kernel
theorem dL_exercise_2 : decode cL_exercise 2 = .ok (.iconst 0, 1) := by decide +kernel
theorem dL_exercise_3 : decode cL_exercise 3 = .ok (.aload_n 0, 1) := by decide +kernel
theorem dL_exercise_4 : decode cL_exercise 4 = .ok (.iload_n 1, 1) := by decide +kernel
theorem dL_exercise_5 : decode cL_exercise 5 = .ok (.iload_n 2, 1) := by decide +kernel
theorem dL_exercise_6 : decode cL_exercise 6 = .ok (.iload_n 3, 1) := by decide +kernel
theorem dL_exercise_7 : decode cL_exercise 7 = .ok (.invokevirtual 49, 3) := by decide +kernel
theorem dL_exercise_10 : decode cL_exercise 10 = .ok (.i2l, 1) := by decide +kernel
theorem dL_exercise_11 : decode cL_exercise 11 = .ok (.lastore, 1) := by decide +kernel
theorem dL_exercise_12 : decode cL_exercise 12 = .ok (.goto 15, 3) := by decide +kernel
theorem dL_exercise_15 : decode cL_exercise 15 = .ok (.astore 5, 2) := by decide +kernel
theorem dL_exercise_17 : decode cL_exercise 17 = .ok (.iconst 1, 1) := by decide +kernel
theorem dL_exercise_18 : decode cL_exercise 18 = .ok (.ireturn, 1) := by decide +kernel
theorem dL_exercise_19 : decode cL_exercise 19 = .ok (.astore 5, 2) := by decide +kernel
theorem dL_exercise_21 : decode cL_exercise 21 = .ok (.iconst 2, 1) := by decide +kernel
theorem dL_exercise_22 : decode cL_exercise 22 = .ok (.ireturn, 1) := by decide +kernel
theorem dL_exercise_23 : decode cL_exercise 23 = .ok (.astore 5, 2) := by decide +kernel
theorem dL_exercise_25 : decode cL_exercise 25 = .ok (.iconst 3, 1) := by decide +kernel
theorem dL_exercise_26 : decode cL_exercise 26 = .ok (.ireturn, 1) := by decide +kernel
theorem dL_exercise_27 : decode cL_exercise 27 = .ok (.iconst 0, 1) := by decide +kernel
theorem dL_exercise_28 : decode cL_exercise 28 = .ok (.ireturn, 1) := by decide +kernel
theorem dL_contrary_0 : decode cL_contrary 0 = .ok (.aload 4, 2) := by decide +kernel
theorem dL_contrary_2 : decode cL_contrary 2 = .ok (.iconst 0, 1) := by decide +kernel
theorem dL_contrary_3 : decode cL_contrary 3 = .ok (.aload_n 0, 1) := by decide +kernel
theorem dL_contrary_4 : decode cL_contrary 4 = .ok (.iload_n 1, 1) := by decide +kernel
theorem dL_contrary_5 : decode cL_contrary 5 = .ok (.iload_n 2, 1) := by decide +kernel
theorem dL_contrary_6 : decode cL_contrary 6 = .ok (.iload_n 3, 1) := by decide +kernel
theorem dL_contrary_7 : decode cL_contrary 7 = .ok (.invokevirtual 53, 3) := by decide +kernel
theorem dL_contrary_10 : decode cL_contrary 10 = .ok (.ifCond .eq 7, 3) := by decide +kernel
theorem dL_contrary_13 : decode cL_contrary 13 = .ok (.lconst 1, 1) := by decide +kernel
theorem dL_contrary_14 : decode cL_contrary 14 = .ok (.goto 4, 3) := by decide +kernel
theorem dL_contrary_17 : decode cL_contrary 17 = .ok (.lconst 0, 1) := by decide +kernel
theorem dL_contrary_18 : decode cL_contrary 18 = .ok (.lastore, 1) := by decide +kernel
theorem dL_contrary_19 : decode cL_contrary 19 = .ok (.goto 11, 3) := by decide +kernel
theorem dL_contrary_22 : decode cL_contrary 22 = .ok (.astore 5, 2) := by decide +kernel
theorem dL_contrary_24 : decode cL_contrary 24 = .ok (.iconst 1, 1) := by decide +kernel
theorem dL_contrary_25 : decode cL_contrary 25 = .ok (.ireturn, 1) := by decide +kernel
theorem dL_contrary_26 : decode cL_contrary 26 = .ok (.astore 5, 2) := by decide +kernel
theorem dL_contrary_28 : decode cL_contrary 28 = .ok (.iconst 2, 1) := by decide +kernel
theorem dL_contrary_29 : decode cL_contrary 29 = .ok (.ireturn, 1) := by decide +kernel
theorem dL_contrary_30 : decode cL_contrary 30 = .ok (.iconst 0, 1) := by decide +kernel
theorem dL_contrary_31 : decode cL_contrary 31 = .ok (.ireturn, 1) := by decide +kernel
theorem dL_close_0 : decode cL_close 0 = .ok (.aload_n 1, 1) := by decide +kernel
theorem dL_close_1 : decode cL_close 1 = .ok (.iconst 0, 1) := by decide +kernel
theorem dL_close_2 : decode cL_close 2 = .ok (.aload_n 0, 1) := by decide +kernel
theorem dL_close_3 : decode cL_close 3 = .ok (.invokevirtual 57, 3) := by decide +kernel
theorem dL_close_6 : decode cL_close 6 = .ok (.i2l, 1) := by decide +kernel
theorem dL_close_7 : decode cL_close 7 = .ok (.lastore, 1) := by decide +kernel
theorem dL_close_8 : decode cL_close 8 = .ok (.goto 6, 3) := by decide +kernel
theorem dL_close_11 : decode cL_close 11 = .ok (.astore_n 2, 1) := by decide +kernel
theorem dL_close_12 : decode cL_close 12 = .ok (.iconst 1, 1) := by decide +kernel
theorem dL_close_13 : decode cL_close 13 = .ok (.ireturn, 1) := by decide +kernel
theorem dL_close_14 : decode cL_close 14 = .ok (.iconst 0, 1) := by decide +kernel
theorem dL_close_15 : decode cL_close 15 = .ok (.ireturn, 1) := by decide +kernel
theorem dL_value_0 : decode cL_value 0 = .ok (.aload_n 3, 1) := by decide +kernel
theorem dL_value_1 : decode cL_value 1 = .ok (.iconst 0, 1) := by decide +kernel
theorem dL_value_2 : decode cL_value 2 = .ok (.aload_n 0, 1) := by decide +kernel
theorem dL_value_3 : decode cL_value 3 = .ok (.iload_n 1, 1) := by decide +kernel
theorem dL_value_4 : decode cL_value 4 = .ok (.iload_n 2, 1) := by decide +kernel
theorem dL_value_5 : decode cL_value 5 = .ok (.invokevirtual 61, 3) := by decide +kernel
theorem dL_value_8 : decode cL_value 8 = .ok (.lastore, 1) := by decide +kernel
theorem dL_value_9 : decode cL_value 9 = .ok (.goto 7, 3) := by decide +kernel
theorem dL_value_12 : decode cL_value 12 = .ok (.astore 4, 2) := by decide +kernel
theorem dL_value_14 : decode cL_value 14 = .ok (.iconst 1, 1) := by decide +kernel
theorem dL_value_15 : decode cL_value 15 = .ok (.ireturn, 1) := by decide +kernel
theorem dL_value_16 : decode cL_value 16 = .ok (.iconst 0, 1) := by decide +kernel
theorem dL_value_17 : decode cL_value 17 = .ok (.ireturn, 1) := by decide +kernel
theorem dL_mark_0 : decode cL_mark 0 = .ok (.aload_n 2, 1) := by decide +kernel
theorem dL_mark_1 : decode cL_mark 1 = .ok (.iconst 0, 1) := by decide +kernel
theorem dL_mark_2 : decode cL_mark 2 = .ok (.aload_n 0, 1) := by decide +kernel
theorem dL_mark_3 : decode cL_mark 3 = .ok (.iload_n 1, 1) := by decide +kernel
theorem dL_mark_4 : decode cL_mark 4 = .ok (.invokevirtual 65, 3) := by decide +kernel
theorem dL_mark_7 : decode cL_mark 7 = .ok (.i2l, 1) := by decide +kernel
theorem dL_mark_8 : decode cL_mark 8 = .ok (.lastore, 1) := by decide +kernel
theorem dL_mark_9 : decode cL_mark 9 = .ok (.goto 6, 3) := by decide +kernel
theorem dL_mark_12 : decode cL_mark 12 = .ok (.astore_n 3, 1) := by decide +kernel
theorem dL_mark_13 : decode cL_mark 13 = .ok (.iconst 1, 1) := by decide +kernel
theorem dL_mark_14 : decode cL_mark 14 = .ok (.ireturn, 1) := by decide +kernel
theorem dL_mark_15 : decode cL_mark 15 = .ok (.iconst 0, 1) := by decide +kernel
theorem dL_mark_16 : decode cL_mark 16 = .ok (.ireturn, 1) := by decide +kernel
theorem dL_markByWays_0 : decode cL_markByWays 0 = .ok (.aload_n 2, 1) := by decide +kernel
theorem dL_markByWays_1 : decode cL_markByWays 1 = .ok (.iconst 0, 1) := by decide +kernel
theorem dL_markByWays_2 : decode cL_markByWays 2 = .ok (.aload_n 0, 1) := by decide +kernel
theorem dL_markByWays_3 : decode cL_markByWays 3 = .ok (.iload_n 1, 1) := by decide +kernel
theorem dL_markByWays_4 : decode cL_markByWays 4 = .ok (.invokevirtual 68, 3) := by decide +kernel
theorem dL_markByWays_7 : decode cL_markByWays 7 = .ok (.i2l, 1) := by decide +kernel
theorem dL_markByWays_8 : decode cL_markByWays 8 = .ok (.lastore, 1) := by decide +kernel
theorem dL_markByWays_9 : decode cL_markByWays 9 = .ok (.goto 6, 3) := by decide +kernel
theorem dL_markByWays_12 : decode cL_markByWays 12 = .ok (.astore_n 3, 1) := by decide +kernel
theorem dL_markByWays_13 : decode cL_markByWays 13 = .ok (.iconst 1, 1) := by decide +kernel
theorem dL_markByWays_14 : decode cL_markByWays 14 = .ok (.ireturn, 1) := by decide +kernel
theorem dL_markByWays_15 : decode cL_markByWays 15 = .ok (.iconst 0, 1) := by decide +kernel
theorem dL_markByWays_16 : decode cL_markByWays 16 = .ok (.ireturn, 1) := by decide +kernel
theorem dL_quoted_0 : decode cL_quoted 0 = .ok (.aload_n 3, 1) := by decide +kernel
theorem dL_quoted_1 : decode cL_quoted 1 = .ok (.iconst 0, 1) := by decide +kernel
theorem dL_quoted_2 : decode cL_quoted 2 = .ok (.aload_n 0, 1) := by decide +kernel
theorem dL_quoted_3 : decode cL_quoted 3 = .ok (.iload_n 1, 1) := by decide +kernel
theorem dL_quoted_4 : decode cL_quoted 4 = .ok (.iload_n 2, 1) := by decide +kernel
theorem dL_quoted_5 : decode cL_quoted 5 = .ok (.invokevirtual 71, 3) := by decide +kernel
theorem dL_quoted_8 : decode cL_quoted 8 = .ok (.i2l, 1) := by decide +kernel
theorem dL_quoted_9 : decode cL_quoted 9 = .ok (.lastore, 1) := by decide +kernel
theorem dL_quoted_10 : decode cL_quoted 10 = .ok (.goto 11, 3) := by decide +kernel
theorem dL_quoted_13 : decode cL_quoted 13 = .ok (.astore 4, 2) := by decide +kernel
theorem dL_quoted_15 : decode cL_quoted 15 = .ok (.iconst 1, 1) := by decide +kernel
theorem dL_quoted_16 : decode cL_quoted 16 = .ok (.ireturn, 1) := by decide +kernel
theorem dL_quoted_17 : decode cL_quoted 17 = .ok (.astore 4, 2) := by decide +kernel
theorem dL_quoted_19 : decode cL_quoted 19 = .ok (.iconst 2, 1) := by decide +kernel
theorem dL_quoted_20 : decode cL_quoted 20 = .ok (.ireturn, 1) := by decide +kernel
theorem dL_quoted_21 : decode cL_quoted 21 = .ok (.iconst 0, 1) := by decide +kernel
theorem dL_quoted_22 : decode cL_quoted 22 = .ok (.ireturn, 1) := by decide +kernel
theorem dL_lots_0 : decode cL_lots 0 = .ok (.aload_n 3, 1) := by decide +kernel
theorem dL_lots_1 : decode cL_lots 1 = .ok (.iconst 0, 1) := by decide +kernel
theorem dL_lots_2 : decode cL_lots 2 = .ok (.aload_n 0, 1) := by decide +kernel
theorem dL_lots_3 : decode cL_lots 3 = .ok (.iload_n 1, 1) := by decide +kernel
theorem dL_lots_4 : decode cL_lots 4 = .ok (.iload_n 2, 1) := by decide +kernel
theorem dL_lots_5 : decode cL_lots 5 = .ok (.invokevirtual 74, 3) := by decide +kernel
theorem dL_lots_8 : decode cL_lots 8 = .ok (.i2l, 1) := by decide +kernel
theorem dL_lots_9 : decode cL_lots 9 = .ok (.lastore, 1) := by decide +kernel
theorem dL_lots_10 : decode cL_lots 10 = .ok (.goto 7, 3) := by decide +kernel
theorem dL_lots_13 : decode cL_lots 13 = .ok (.astore 4, 2) := by decide +kernel
theorem dL_lots_15 : decode cL_lots 15 = .ok (.iconst 1, 1) := by decide +kernel
theorem dL_lots_16 : decode cL_lots 16 = .ok (.ireturn, 1) := by decide +kernel
theorem dL_lots_17 : decode cL_lots 17 = .ok (.iconst 0, 1) := by decide +kernel
theorem dL_lots_18 : decode cL_lots 18 = .ok (.ireturn, 1) := by decide +kernel
theorem dL_cash_0 : decode cL_cash 0 = .ok (.aload_n 2, 1) := by decide +kernel
theorem dL_cash_1 : decode cL_cash 1 = .ok (.iconst 0, 1) := by decide +kernel
theorem dL_cash_2 : decode cL_cash 2 = .ok (.aload_n 0, 1) := by decide +kernel
theorem dL_cash_3 : decode cL_cash 3 = .ok (.iload_n 1, 1) := by decide +kernel
theorem dL_cash_4 : decode cL_cash 4 = .ok (.invokevirtual 77, 3) := by decide +kernel
theorem dL_cash_7 : decode cL_cash 7 = .ok (.lastore, 1) := by decide +kernel
theorem dL_cash_8 : decode cL_cash 8 = .ok (.goto 6, 3) := by decide +kernel
theorem dL_cash_11 : decode cL_cash 11 = .ok (.astore_n 3, 1) := by decide +kernel
theorem dL_cash_12 : decode cL_cash 12 = .ok (.iconst 1, 1) := by decide +kernel
theorem dL_cash_13 : decode cL_cash 13 = .ok (.ireturn, 1) := by decide +kernel
theorem dL_cash_14 : decode cL_cash 14 = .ok (.iconst 0, 1) := by decide +kernel
theorem dL_cash_15 : decode cL_cash 15 = .ok (.ireturn, 1) := by decide +kernel
theorem dL_cause_0 : decode cL_cause 0 = .ok (.aload_n 2, 1) := by decide +kernel
theorem dL_cause_1 : decode cL_cause 1 = .ok (.iconst 0, 1) := by decide +kernel
theorem dL_cause_2 : decode cL_cause 2 = .ok (.aload_n 0, 1) := by decide +kernel
theorem dL_cause_3 : decode cL_cause 3 = .ok (.iload_n 1, 1) := by decide +kernel
theorem dL_cause_4 : decode cL_cause 4 = .ok (.invokevirtual 80, 3) := by decide +kernel
theorem dL_cause_7 : decode cL_cause 7 = .ok (.lastore, 1) := by decide +kernel
theorem dL_cause_8 : decode cL_cause 8 = .ok (.goto 6, 3) := by decide +kernel
theorem dL_cause_11 : decode cL_cause 11 = .ok (.astore_n 3, 1) := by decide +kernel
theorem dL_cause_12 : decode cL_cause 12 = .ok (.iconst 1, 1) := by decide +kernel
theorem dL_cause_13 : decode cL_cause 13 = .ok (.ireturn, 1) := by decide +kernel
theorem dL_cause_14 : decode cL_cause 14 = .ok (.iconst 0, 1) := by decide +kernel
theorem dL_cause_15 : decode cL_cause 15 = .ok (.ireturn, 1) := by decide +kernel
theorem dL_worst_0 : decode cL_worst 0 = .ok (.aload_n 2, 1) := by decide +kernel
theorem dL_worst_1 : decode cL_worst 1 = .ok (.iconst 0, 1) := by decide +kernel
theorem dL_worst_2 : decode cL_worst 2 = .ok (.aload_n 0, 1) := by decide +kernel
theorem dL_worst_3 : decode cL_worst 3 = .ok (.iload_n 1, 1) := by decide +kernel
theorem dL_worst_4 : decode cL_worst 4 = .ok (.invokevirtual 83, 3) := by decide +kernel
theorem dL_worst_7 : decode cL_worst 7 = .ok (.lastore, 1) := by decide +kernel
theorem dL_worst_8 : decode cL_worst 8 = .ok (.goto 6, 3) := by decide +kernel
theorem dL_worst_11 : decode cL_worst 11 = .ok (.astore_n 3, 1) := by decide +kernel
theorem dL_worst_12 : decode cL_worst 12 = .ok (.iconst 1, 1) := by decide +kernel
theorem dL_worst_13 : decode cL_worst 13 = .ok (.ireturn, 1) := by decide +kernel
theorem dL_worst_14 : decode cL_worst 14 = .ok (.iconst 0, 1) := by decide +kernel
theorem dL_worst_15 : decode cL_worst 15 = .ok (.ireturn, 1) := by decide +kernel
theorem dL_law_0 : decode cL_law 0 = .ok (.new 8, 3) := by decide +kernel
theorem dL_law_3 : decode cL_law 3 = .ok (.dup, 1) := by decide +kernel
theorem dL_law_4 : decode cL_law 4 = .ok (.invokespecial 86, 3) := by decide +kernel
theorem dL_law_7 : decode cL_law 7 = .ok (.astore_n 1, 1) := by decide +kernel
theorem dL_law_8 : decode cL_law 8 = .ok (.new 87, 3) := by decide +kernel
theorem dL_law_11 : decode cL_law 11 = .ok (.dup, 1) := by decide +kernel
theorem dL_law_12 : decode cL_law 12 = .ok (.invokespecial 89, 3) := by decide +kernel
theorem dL_law_15 : decode cL_law 15 = .ok (.astore_n 2, 1) := by decide +kernel
theorem dL_law_16 : decode cL_law 16 = .ok (.iconst 1, 1) := by decide +kernel
theorem dL_law_17 : decode cL_law 17 = .ok (.newarray .long, 2) := by decide +kernel
theorem dL_law_19 : decode cL_law 19 = .ok (.astore_n 3, 1) := by decide +kernel
theorem dL_law_20 : decode cL_law 20 = .ok (.iconst 0, 1) := by decide +kernel
theorem dL_law_21 : decode cL_law 21 = .ok (.istore 4, 2) := by decide +kernel
theorem dL_law_23 : decode cL_law 23 = .ok (.iload 4, 2) := by decide +kernel
theorem dL_law_25 : decode cL_law 25 = .ok (.aload_n 0, 1) := by decide +kernel
theorem dL_law_26 : decode cL_law 26 = .ok (.arraylength, 1) := by decide +kernel
theorem dL_law_27 : decode cL_law 27 = .ok (.iconst 5, 1) := by decide +kernel
theorem dL_law_28 : decode cL_law 28 = .ok (.isub, 1) := by decide +kernel
theorem dL_law_29 : decode cL_law 29 = .ok (.if_icmp .gt 1507, 3) := by decide +kernel
theorem dL_law_32 : decode cL_law 32 = .ok (.aload_n 0, 1) := by decide +kernel
theorem dL_law_33 : decode cL_law 33 = .ok (.iload 4, 2) := by decide +kernel
theorem dL_law_35 : decode cL_law 35 = .ok (.iaload, 1) := by decide +kernel
theorem dL_law_36 : decode cL_law 36 = .ok (.bipush 31, 2) := by decide +kernel
theorem dL_law_38 : decode cL_law 38 = .ok (.iand, 1) := by decide +kernel
theorem dL_law_39 : decode cL_law 39 = .ok (.tableswitch 1491 0 22 #[105, 153, 208, 276, 384, 476, 489, 545, 637, 705, 741, 821, 924, 968, 1051, 1107, 1163, 1176, 1244, 1312, 1367, 1381, 1436], 105) := by decide +kernel
theorem dL_law_144 : decode cL_law 144 = .ok (.aload_n 1, 1) := by decide +kernel
theorem dL_law_145 : decode cL_law 145 = .ok (.aload_n 0, 1) := by decide +kernel
theorem dL_law_146 : decode cL_law 146 = .ok (.iload 4, 2) := by decide +kernel
theorem dL_law_148 : decode cL_law 148 = .ok (.iconst 1, 1) := by decide +kernel
theorem dL_law_149 : decode cL_law 149 = .ok (.iadd, 1) := by decide +kernel
theorem dL_law_150 : decode cL_law 150 = .ok (.iaload, 1) := by decide +kernel
theorem dL_law_151 : decode cL_law 151 = .ok (.aload_n 0, 1) := by decide +kernel
theorem dL_law_152 : decode cL_law 152 = .ok (.iload 4, 2) := by decide +kernel
theorem dL_law_154 : decode cL_law 154 = .ok (.iconst 2, 1) := by decide +kernel
theorem dL_law_155 : decode cL_law 155 = .ok (.iadd, 1) := by decide +kernel
theorem dL_law_156 : decode cL_law 156 = .ok (.iaload, 1) := by decide +kernel
theorem dL_law_157 : decode cL_law 157 = .ok (.invokestatic 90, 3) := by decide +kernel
theorem dL_law_160 : decode cL_law 160 = .ok (.istore 5, 2) := by decide +kernel
theorem dL_law_162 : decode cL_law 162 = .ok (.aload_n 2, 1) := by decide +kernel
theorem dL_law_163 : decode cL_law 163 = .ok (.aload_n 0, 1) := by decide +kernel
theorem dL_law_164 : decode cL_law 164 = .ok (.iload 4, 2) := by decide +kernel
theorem dL_law_166 : decode cL_law 166 = .ok (.iconst 1, 1) := by decide +kernel
theorem dL_law_167 : decode cL_law 167 = .ok (.iadd, 1) := by decide +kernel
theorem dL_law_168 : decode cL_law 168 = .ok (.iaload, 1) := by decide +kernel
theorem dL_law_169 : decode cL_law 169 = .ok (.aload_n 0, 1) := by decide +kernel
theorem dL_law_170 : decode cL_law 170 = .ok (.iload 4, 2) := by decide +kernel
theorem dL_law_172 : decode cL_law 172 = .ok (.iconst 2, 1) := by decide +kernel
theorem dL_law_173 : decode cL_law 173 = .ok (.iadd, 1) := by decide +kernel
theorem dL_law_174 : decode cL_law 174 = .ok (.iaload, 1) := by decide +kernel
theorem dL_law_175 : decode cL_law 175 = .ok (.invokevirtual 95, 3) := by decide +kernel
theorem dL_law_178 : decode cL_law 178 = .ok (.aload_n 2, 1) := by decide +kernel
theorem dL_law_179 : decode cL_law 179 = .ok (.invokevirtual 96, 3) := by decide +kernel
theorem dL_law_182 : decode cL_law 182 = .ok (.iload 5, 2) := by decide +kernel
theorem dL_law_184 : decode cL_law 184 = .ok (.if_icmp .eq 5, 3) := by decide +kernel
theorem dL_law_187 : decode cL_law 187 = .ok (.iconst 0, 1) := by decide +kernel
theorem dL_law_188 : decode cL_law 188 = .ok (.ireturn, 1) := by decide +kernel
theorem dL_law_189 : decode cL_law 189 = .ok (.goto 1341, 3) := by decide +kernel
theorem dL_law_192 : decode cL_law 192 = .ok (.aload_n 1, 1) := by decide +kernel
theorem dL_law_193 : decode cL_law 193 = .ok (.aload_n 0, 1) := by decide +kernel
theorem dL_law_194 : decode cL_law 194 = .ok (.iload 4, 2) := by decide +kernel
theorem dL_law_196 : decode cL_law 196 = .ok (.iconst 1, 1) := by decide +kernel
theorem dL_law_197 : decode cL_law 197 = .ok (.iadd, 1) := by decide +kernel
theorem dL_law_198 : decode cL_law 198 = .ok (.iaload, 1) := by decide +kernel
theorem dL_law_199 : decode cL_law 199 = .ok (.aload_n 3, 1) := by decide +kernel
theorem dL_law_200 : decode cL_law 200 = .ok (.invokestatic 99, 3) := by decide +kernel
theorem dL_law_203 : decode cL_law 203 = .ok (.istore 5, 2) := by decide +kernel
theorem dL_law_205 : decode cL_law 205 = .ok (.aload_n 2, 1) := by decide +kernel
theorem dL_law_206 : decode cL_law 206 = .ok (.aload_n 0, 1) := by decide +kernel
theorem dL_law_207 : decode cL_law 207 = .ok (.iload 4, 2) := by decide +kernel
theorem dL_law_209 : decode cL_law 209 = .ok (.iconst 1, 1) := by decide +kernel
theorem dL_law_210 : decode cL_law 210 = .ok (.iadd, 1) := by decide +kernel
theorem dL_law_211 : decode cL_law 211 = .ok (.iaload, 1) := by decide +kernel
theorem dL_law_212 : decode cL_law 212 = .ok (.invokevirtual 102, 3) := by decide +kernel
theorem dL_law_215 : decode cL_law 215 = .ok (.lstore 6, 2) := by decide +kernel
theorem dL_law_217 : decode cL_law 217 = .ok (.aload_n 2, 1) := by decide +kernel
theorem dL_law_218 : decode cL_law 218 = .ok (.invokevirtual 96, 3) := by decide +kernel
theorem dL_law_221 : decode cL_law 221 = .ok (.iload 5, 2) := by decide +kernel
theorem dL_law_223 : decode cL_law 223 = .ok (.if_icmp .eq 5, 3) := by decide +kernel
theorem dL_law_226 : decode cL_law 226 = .ok (.iconst 0, 1) := by decide +kernel
theorem dL_law_227 : decode cL_law 227 = .ok (.ireturn, 1) := by decide +kernel
theorem dL_law_228 : decode cL_law 228 = .ok (.iload 5, 2) := by decide +kernel
theorem dL_law_230 : decode cL_law 230 = .ok (.ifCond .ne 14, 3) := by decide +kernel
theorem dL_law_233 : decode cL_law 233 = .ok (.aload_n 3, 1) := by decide +kernel
theorem dL_law_234 : decode cL_law 234 = .ok (.iconst 0, 1) := by decide +kernel
theorem dL_law_235 : decode cL_law 235 = .ok (.laload, 1) := by decide +kernel
theorem dL_law_236 : decode cL_law 236 = .ok (.lload 6, 2) := by decide +kernel
theorem dL_law_238 : decode cL_law 238 = .ok (.lcmp, 1) := by decide +kernel
theorem dL_law_239 : decode cL_law 239 = .ok (.ifCond .eq 5, 3) := by decide +kernel
theorem dL_law_242 : decode cL_law 242 = .ok (.iconst 0, 1) := by decide +kernel
theorem dL_law_243 : decode cL_law 243 = .ok (.ireturn, 1) := by decide +kernel
theorem dL_law_244 : decode cL_law 244 = .ok (.goto 1286, 3) := by decide +kernel
theorem dL_law_247 : decode cL_law 247 = .ok (.aload_n 1, 1) := by decide +kernel
theorem dL_law_248 : decode cL_law 248 = .ok (.aload_n 0, 1) := by decide +kernel
theorem dL_law_249 : decode cL_law 249 = .ok (.iload 4, 2) := by decide +kernel
theorem dL_law_251 : decode cL_law 251 = .ok (.iconst 1, 1) := by decide +kernel
theorem dL_law_252 : decode cL_law 252 = .ok (.iadd, 1) := by decide +kernel
theorem dL_law_253 : decode cL_law 253 = .ok (.iaload, 1) := by decide +kernel
theorem dL_law_254 : decode cL_law 254 = .ok (.aload_n 0, 1) := by decide +kernel
theorem dL_law_255 : decode cL_law 255 = .ok (.iload 4, 2) := by decide +kernel
theorem dL_law_257 : decode cL_law 257 = .ok (.iconst 2, 1) := by decide +kernel
theorem dL_law_258 : decode cL_law 258 = .ok (.iadd, 1) := by decide +kernel
theorem dL_law_259 : decode cL_law 259 = .ok (.iaload, 1) := by decide +kernel
theorem dL_law_260 : decode cL_law 260 = .ok (.aload_n 3, 1) := by decide +kernel
theorem dL_law_261 : decode cL_law 261 = .ok (.invokestatic 103, 3) := by decide +kernel
theorem dL_law_264 : decode cL_law 264 = .ok (.istore 5, 2) := by decide +kernel
theorem dL_law_266 : decode cL_law 266 = .ok (.aload_n 2, 1) := by decide +kernel
theorem dL_law_267 : decode cL_law 267 = .ok (.aload_n 0, 1) := by decide +kernel
theorem dL_law_268 : decode cL_law 268 = .ok (.iload 4, 2) := by decide +kernel
theorem dL_law_270 : decode cL_law 270 = .ok (.iconst 1, 1) := by decide +kernel
theorem dL_law_271 : decode cL_law 271 = .ok (.iadd, 1) := by decide +kernel
theorem dL_law_272 : decode cL_law 272 = .ok (.iaload, 1) := by decide +kernel
theorem dL_law_273 : decode cL_law 273 = .ok (.aload_n 0, 1) := by decide +kernel
theorem dL_law_274 : decode cL_law 274 = .ok (.iload 4, 2) := by decide +kernel
theorem dL_law_276 : decode cL_law 276 = .ok (.iconst 2, 1) := by decide +kernel
theorem dL_law_277 : decode cL_law 277 = .ok (.iadd, 1) := by decide +kernel
theorem dL_law_278 : decode cL_law 278 = .ok (.iaload, 1) := by decide +kernel
theorem dL_law_279 : decode cL_law 279 = .ok (.invokevirtual 106, 3) := by decide +kernel
theorem dL_law_282 : decode cL_law 282 = .ok (.istore 6, 2) := by decide +kernel
theorem dL_law_284 : decode cL_law 284 = .ok (.aload_n 2, 1) := by decide +kernel
theorem dL_law_285 : decode cL_law 285 = .ok (.invokevirtual 96, 3) := by decide +kernel
theorem dL_law_288 : decode cL_law 288 = .ok (.iload 5, 2) := by decide +kernel
theorem dL_law_290 : decode cL_law 290 = .ok (.if_icmp .eq 5, 3) := by decide +kernel
theorem dL_law_293 : decode cL_law 293 = .ok (.iconst 0, 1) := by decide +kernel
theorem dL_law_294 : decode cL_law 294 = .ok (.ireturn, 1) := by decide +kernel
theorem dL_law_295 : decode cL_law 295 = .ok (.iload 5, 2) := by decide +kernel
theorem dL_law_297 : decode cL_law 297 = .ok (.ifCond .ne 15, 3) := by decide +kernel
theorem dL_law_300 : decode cL_law 300 = .ok (.aload_n 3, 1) := by decide +kernel
theorem dL_law_301 : decode cL_law 301 = .ok (.iconst 0, 1) := by decide +kernel
theorem dL_law_302 : decode cL_law 302 = .ok (.laload, 1) := by decide +kernel
theorem dL_law_303 : decode cL_law 303 = .ok (.iload 6, 2) := by decide +kernel
theorem dL_law_305 : decode cL_law 305 = .ok (.i2l, 1) := by decide +kernel
theorem dL_law_306 : decode cL_law 306 = .ok (.lcmp, 1) := by decide +kernel
theorem dL_law_307 : decode cL_law 307 = .ok (.ifCond .eq 5, 3) := by decide +kernel
theorem dL_law_310 : decode cL_law 310 = .ok (.iconst 0, 1) := by decide +kernel
theorem dL_law_311 : decode cL_law 311 = .ok (.ireturn, 1) := by decide +kernel
theorem dL_law_312 : decode cL_law 312 = .ok (.goto 1218, 3) := by decide +kernel
theorem dL_law_315 : decode cL_law 315 = .ok (.aload_n 1, 1) := by decide +kernel
theorem dL_law_316 : decode cL_law 316 = .ok (.aload_n 0, 1) := by decide +kernel
theorem dL_law_317 : decode cL_law 317 = .ok (.iload 4, 2) := by decide +kernel
theorem dL_law_319 : decode cL_law 319 = .ok (.iconst 1, 1) := by decide +kernel
theorem dL_law_320 : decode cL_law 320 = .ok (.iadd, 1) := by decide +kernel
theorem dL_law_321 : decode cL_law 321 = .ok (.iaload, 1) := by decide +kernel
theorem dL_law_322 : decode cL_law 322 = .ok (.aload_n 0, 1) := by decide +kernel
theorem dL_law_323 : decode cL_law 323 = .ok (.iload 4, 2) := by decide +kernel
theorem dL_law_325 : decode cL_law 325 = .ok (.iconst 2, 1) := by decide +kernel
theorem dL_law_326 : decode cL_law 326 = .ok (.iadd, 1) := by decide +kernel
theorem dL_law_327 : decode cL_law 327 = .ok (.iaload, 1) := by decide +kernel
theorem dL_law_328 : decode cL_law 328 = .ok (.aload_n 0, 1) := by decide +kernel
theorem dL_law_329 : decode cL_law 329 = .ok (.iload 4, 2) := by decide +kernel
theorem dL_law_331 : decode cL_law 331 = .ok (.iconst 3, 1) := by decide +kernel
theorem dL_law_332 : decode cL_law 332 = .ok (.iadd, 1) := by decide +kernel
theorem dL_law_333 : decode cL_law 333 = .ok (.iaload, 1) := by decide +kernel
theorem dL_law_334 : decode cL_law 334 = .ok (.aload_n 0, 1) := by decide +kernel
theorem dL_law_335 : decode cL_law 335 = .ok (.iload 4, 2) := by decide +kernel
theorem dL_law_337 : decode cL_law 337 = .ok (.iconst 4, 1) := by decide +kernel
theorem dL_law_338 : decode cL_law 338 = .ok (.iadd, 1) := by decide +kernel
theorem dL_law_339 : decode cL_law 339 = .ok (.iaload, 1) := by decide +kernel
theorem dL_law_340 : decode cL_law 340 = .ok (.ifCond .eq 7, 3) := by decide +kernel
theorem dL_law_343 : decode cL_law 343 = .ok (.iconst 1, 1) := by decide +kernel
theorem dL_law_344 : decode cL_law 344 = .ok (.goto 4, 3) := by decide +kernel
theorem dL_law_347 : decode cL_law 347 = .ok (.iconst 0, 1) := by decide +kernel
theorem dL_law_348 : decode cL_law 348 = .ok (.aload_n 3, 1) := by decide +kernel
theorem dL_law_349 : decode cL_law 349 = .ok (.invokestatic 107, 3) := by decide +kernel
theorem dL_law_352 : decode cL_law 352 = .ok (.istore 5, 2) := by decide +kernel
theorem dL_law_354 : decode cL_law 354 = .ok (.aload_n 2, 1) := by decide +kernel
theorem dL_law_355 : decode cL_law 355 = .ok (.aload_n 0, 1) := by decide +kernel
theorem dL_law_356 : decode cL_law 356 = .ok (.iload 4, 2) := by decide +kernel
theorem dL_law_358 : decode cL_law 358 = .ok (.iconst 1, 1) := by decide +kernel
theorem dL_law_359 : decode cL_law 359 = .ok (.iadd, 1) := by decide +kernel
theorem dL_law_360 : decode cL_law 360 = .ok (.iaload, 1) := by decide +kernel
theorem dL_law_361 : decode cL_law 361 = .ok (.aload_n 0, 1) := by decide +kernel
theorem dL_law_362 : decode cL_law 362 = .ok (.iload 4, 2) := by decide +kernel
theorem dL_law_364 : decode cL_law 364 = .ok (.iconst 2, 1) := by decide +kernel
theorem dL_law_365 : decode cL_law 365 = .ok (.iadd, 1) := by decide +kernel
theorem dL_law_366 : decode cL_law 366 = .ok (.iaload, 1) := by decide +kernel
theorem dL_law_367 : decode cL_law 367 = .ok (.aload_n 0, 1) := by decide +kernel
theorem dL_law_368 : decode cL_law 368 = .ok (.iload 4, 2) := by decide +kernel
theorem dL_law_370 : decode cL_law 370 = .ok (.iconst 3, 1) := by decide +kernel
theorem dL_law_371 : decode cL_law 371 = .ok (.iadd, 1) := by decide +kernel
theorem dL_law_372 : decode cL_law 372 = .ok (.iaload, 1) := by decide +kernel
theorem dL_law_373 : decode cL_law 373 = .ok (.aload_n 0, 1) := by decide +kernel
theorem dL_law_374 : decode cL_law 374 = .ok (.iload 4, 2) := by decide +kernel
theorem dL_law_376 : decode cL_law 376 = .ok (.iconst 4, 1) := by decide +kernel
theorem dL_law_377 : decode cL_law 377 = .ok (.iadd, 1) := by decide +kernel
theorem dL_law_378 : decode cL_law 378 = .ok (.iaload, 1) := by decide +kernel
theorem dL_law_379 : decode cL_law 379 = .ok (.ifCond .eq 7, 3) := by decide +kernel
theorem dL_law_382 : decode cL_law 382 = .ok (.iconst 1, 1) := by decide +kernel
theorem dL_law_383 : decode cL_law 383 = .ok (.goto 4, 3) := by decide +kernel
theorem dL_law_386 : decode cL_law 386 = .ok (.iconst 0, 1) := by decide +kernel
theorem dL_law_387 : decode cL_law 387 = .ok (.invokevirtual 110, 3) := by decide +kernel
theorem dL_law_390 : decode cL_law 390 = .ok (.istore 6, 2) := by decide +kernel
theorem dL_law_392 : decode cL_law 392 = .ok (.aload_n 2, 1) := by decide +kernel
theorem dL_law_393 : decode cL_law 393 = .ok (.invokevirtual 96, 3) := by decide +kernel
theorem dL_law_396 : decode cL_law 396 = .ok (.iload 5, 2) := by decide +kernel
theorem dL_law_398 : decode cL_law 398 = .ok (.if_icmp .eq 5, 3) := by decide +kernel
theorem dL_law_401 : decode cL_law 401 = .ok (.iconst 0, 1) := by decide +kernel
theorem dL_law_402 : decode cL_law 402 = .ok (.ireturn, 1) := by decide +kernel
theorem dL_law_403 : decode cL_law 403 = .ok (.iload 5, 2) := by decide +kernel
theorem dL_law_405 : decode cL_law 405 = .ok (.ifCond .ne 15, 3) := by decide +kernel
theorem dL_law_408 : decode cL_law 408 = .ok (.aload_n 3, 1) := by decide +kernel
theorem dL_law_409 : decode cL_law 409 = .ok (.iconst 0, 1) := by decide +kernel
theorem dL_law_410 : decode cL_law 410 = .ok (.laload, 1) := by decide +kernel
theorem dL_law_411 : decode cL_law 411 = .ok (.iload 6, 2) := by decide +kernel
theorem dL_law_413 : decode cL_law 413 = .ok (.i2l, 1) := by decide +kernel
theorem dL_law_414 : decode cL_law 414 = .ok (.lcmp, 1) := by decide +kernel
theorem dL_law_415 : decode cL_law 415 = .ok (.ifCond .eq 5, 3) := by decide +kernel
theorem dL_law_418 : decode cL_law 418 = .ok (.iconst 0, 1) := by decide +kernel
theorem dL_law_419 : decode cL_law 419 = .ok (.ireturn, 1) := by decide +kernel
theorem dL_law_420 : decode cL_law 420 = .ok (.goto 1110, 3) := by decide +kernel
theorem dL_law_423 : decode cL_law 423 = .ok (.aload_n 1, 1) := by decide +kernel
theorem dL_law_424 : decode cL_law 424 = .ok (.aload_n 0, 1) := by decide +kernel
theorem dL_law_425 : decode cL_law 425 = .ok (.iload 4, 2) := by decide +kernel
theorem dL_law_427 : decode cL_law 427 = .ok (.iconst 1, 1) := by decide +kernel
theorem dL_law_428 : decode cL_law 428 = .ok (.iadd, 1) := by decide +kernel
theorem dL_law_429 : decode cL_law 429 = .ok (.iaload, 1) := by decide +kernel
theorem dL_law_430 : decode cL_law 430 = .ok (.aload_n 0, 1) := by decide +kernel
theorem dL_law_431 : decode cL_law 431 = .ok (.iload 4, 2) := by decide +kernel
theorem dL_law_433 : decode cL_law 433 = .ok (.iconst 2, 1) := by decide +kernel
theorem dL_law_434 : decode cL_law 434 = .ok (.iadd, 1) := by decide +kernel
theorem dL_law_435 : decode cL_law 435 = .ok (.iaload, 1) := by decide +kernel
theorem dL_law_436 : decode cL_law 436 = .ok (.aload_n 0, 1) := by decide +kernel
theorem dL_law_437 : decode cL_law 437 = .ok (.iload 4, 2) := by decide +kernel
theorem dL_law_439 : decode cL_law 439 = .ok (.iconst 3, 1) := by decide +kernel
theorem dL_law_440 : decode cL_law 440 = .ok (.iadd, 1) := by decide +kernel
theorem dL_law_441 : decode cL_law 441 = .ok (.iaload, 1) := by decide +kernel
theorem dL_law_442 : decode cL_law 442 = .ok (.aload_n 0, 1) := by decide +kernel
theorem dL_law_443 : decode cL_law 443 = .ok (.iload 4, 2) := by decide +kernel
theorem dL_law_445 : decode cL_law 445 = .ok (.iconst 4, 1) := by decide +kernel
theorem dL_law_446 : decode cL_law 446 = .ok (.iadd, 1) := by decide +kernel
theorem dL_law_447 : decode cL_law 447 = .ok (.iaload, 1) := by decide +kernel
theorem dL_law_448 : decode cL_law 448 = .ok (.aload_n 3, 1) := by decide +kernel
theorem dL_law_449 : decode cL_law 449 = .ok (.invokestatic 111, 3) := by decide +kernel
theorem dL_law_452 : decode cL_law 452 = .ok (.istore 5, 2) := by decide +kernel
theorem dL_law_454 : decode cL_law 454 = .ok (.aload_n 2, 1) := by decide +kernel
theorem dL_law_455 : decode cL_law 455 = .ok (.aload_n 0, 1) := by decide +kernel
theorem dL_law_456 : decode cL_law 456 = .ok (.iload 4, 2) := by decide +kernel
theorem dL_law_458 : decode cL_law 458 = .ok (.iconst 1, 1) := by decide +kernel
theorem dL_law_459 : decode cL_law 459 = .ok (.iadd, 1) := by decide +kernel
theorem dL_law_460 : decode cL_law 460 = .ok (.iaload, 1) := by decide +kernel
theorem dL_law_461 : decode cL_law 461 = .ok (.aload_n 0, 1) := by decide +kernel
theorem dL_law_462 : decode cL_law 462 = .ok (.iload 4, 2) := by decide +kernel
theorem dL_law_464 : decode cL_law 464 = .ok (.iconst 2, 1) := by decide +kernel
theorem dL_law_465 : decode cL_law 465 = .ok (.iadd, 1) := by decide +kernel
theorem dL_law_466 : decode cL_law 466 = .ok (.iaload, 1) := by decide +kernel
theorem dL_law_467 : decode cL_law 467 = .ok (.aload_n 0, 1) := by decide +kernel
theorem dL_law_468 : decode cL_law 468 = .ok (.iload 4, 2) := by decide +kernel
theorem dL_law_470 : decode cL_law 470 = .ok (.iconst 3, 1) := by decide +kernel
theorem dL_law_471 : decode cL_law 471 = .ok (.iadd, 1) := by decide +kernel
theorem dL_law_472 : decode cL_law 472 = .ok (.iaload, 1) := by decide +kernel
theorem dL_law_473 : decode cL_law 473 = .ok (.aload_n 0, 1) := by decide +kernel
theorem dL_law_474 : decode cL_law 474 = .ok (.iload 4, 2) := by decide +kernel
theorem dL_law_476 : decode cL_law 476 = .ok (.iconst 4, 1) := by decide +kernel
theorem dL_law_477 : decode cL_law 477 = .ok (.iadd, 1) := by decide +kernel
theorem dL_law_478 : decode cL_law 478 = .ok (.iaload, 1) := by decide +kernel
theorem dL_law_479 : decode cL_law 479 = .ok (.invokevirtual 114, 3) := by decide +kernel
theorem dL_law_482 : decode cL_law 482 = .ok (.istore 6, 2) := by decide +kernel
theorem dL_law_484 : decode cL_law 484 = .ok (.aload_n 2, 1) := by decide +kernel
theorem dL_law_485 : decode cL_law 485 = .ok (.invokevirtual 96, 3) := by decide +kernel
theorem dL_law_488 : decode cL_law 488 = .ok (.iload 5, 2) := by decide +kernel
theorem dL_law_490 : decode cL_law 490 = .ok (.if_icmp .eq 5, 3) := by decide +kernel
theorem dL_law_493 : decode cL_law 493 = .ok (.iconst 0, 1) := by decide +kernel
theorem dL_law_494 : decode cL_law 494 = .ok (.ireturn, 1) := by decide +kernel
theorem dL_law_495 : decode cL_law 495 = .ok (.iload 5, 2) := by decide +kernel
theorem dL_law_497 : decode cL_law 497 = .ok (.ifCond .ne 15, 3) := by decide +kernel
theorem dL_law_500 : decode cL_law 500 = .ok (.aload_n 3, 1) := by decide +kernel
theorem dL_law_501 : decode cL_law 501 = .ok (.iconst 0, 1) := by decide +kernel
theorem dL_law_502 : decode cL_law 502 = .ok (.laload, 1) := by decide +kernel
theorem dL_law_503 : decode cL_law 503 = .ok (.iload 6, 2) := by decide +kernel
theorem dL_law_505 : decode cL_law 505 = .ok (.i2l, 1) := by decide +kernel
theorem dL_law_506 : decode cL_law 506 = .ok (.lcmp, 1) := by decide +kernel
theorem dL_law_507 : decode cL_law 507 = .ok (.ifCond .eq 5, 3) := by decide +kernel
theorem dL_law_510 : decode cL_law 510 = .ok (.iconst 0, 1) := by decide +kernel
theorem dL_law_511 : decode cL_law 511 = .ok (.ireturn, 1) := by decide +kernel
theorem dL_law_512 : decode cL_law 512 = .ok (.goto 1018, 3) := by decide +kernel
theorem dL_law_515 : decode cL_law 515 = .ok (.aload_n 1, 1) := by decide +kernel
theorem dL_law_516 : decode cL_law 516 = .ok (.invokevirtual 115, 3) := by decide +kernel
theorem dL_law_519 : decode cL_law 519 = .ok (.aload_n 2, 1) := by decide +kernel
theorem dL_law_520 : decode cL_law 520 = .ok (.invokevirtual 118, 3) := by decide +kernel
theorem dL_law_523 : decode cL_law 523 = .ok (.if_icmp .eq 1007, 3) := by decide +kernel
theorem dL_law_526 : decode cL_law 526 = .ok (.iconst 0, 1) := by decide +kernel
theorem dL_law_527 : decode cL_law 527 = .ok (.ireturn, 1) := by decide +kernel
theorem dL_law_528 : decode cL_law 528 = .ok (.aload_n 1, 1) := by decide +kernel
theorem dL_law_529 : decode cL_law 529 = .ok (.aload_n 0, 1) := by decide +kernel
theorem dL_law_530 : decode cL_law 530 = .ok (.iload 4, 2) := by decide +kernel
theorem dL_law_532 : decode cL_law 532 = .ok (.iconst 1, 1) := by decide +kernel
theorem dL_law_533 : decode cL_law 533 = .ok (.iadd, 1) := by decide +kernel
theorem dL_law_534 : decode cL_law 534 = .ok (.iaload, 1) := by decide +kernel
theorem dL_law_535 : decode cL_law 535 = .ok (.aload_n 3, 1) := by decide +kernel
theorem dL_law_536 : decode cL_law 536 = .ok (.invokestatic 119, 3) := by decide +kernel
theorem dL_law_539 : decode cL_law 539 = .ok (.istore 5, 2) := by decide +kernel
theorem dL_law_541 : decode cL_law 541 = .ok (.aload_n 2, 1) := by decide +kernel
theorem dL_law_542 : decode cL_law 542 = .ok (.aload_n 0, 1) := by decide +kernel
theorem dL_law_543 : decode cL_law 543 = .ok (.iload 4, 2) := by decide +kernel
theorem dL_law_545 : decode cL_law 545 = .ok (.iconst 1, 1) := by decide +kernel
theorem dL_law_546 : decode cL_law 546 = .ok (.iadd, 1) := by decide +kernel
theorem dL_law_547 : decode cL_law 547 = .ok (.iaload, 1) := by decide +kernel
theorem dL_law_548 : decode cL_law 548 = .ok (.invokevirtual 121, 3) := by decide +kernel
theorem dL_law_551 : decode cL_law 551 = .ok (.istore 6, 2) := by decide +kernel
theorem dL_law_553 : decode cL_law 553 = .ok (.aload_n 2, 1) := by decide +kernel
theorem dL_law_554 : decode cL_law 554 = .ok (.invokevirtual 96, 3) := by decide +kernel
theorem dL_law_557 : decode cL_law 557 = .ok (.iload 5, 2) := by decide +kernel
theorem dL_law_559 : decode cL_law 559 = .ok (.if_icmp .eq 5, 3) := by decide +kernel
theorem dL_law_562 : decode cL_law 562 = .ok (.iconst 0, 1) := by decide +kernel
theorem dL_law_563 : decode cL_law 563 = .ok (.ireturn, 1) := by decide +kernel
theorem dL_law_564 : decode cL_law 564 = .ok (.iload 5, 2) := by decide +kernel
theorem dL_law_566 : decode cL_law 566 = .ok (.ifCond .ne 15, 3) := by decide +kernel
theorem dL_law_569 : decode cL_law 569 = .ok (.aload_n 3, 1) := by decide +kernel
theorem dL_law_570 : decode cL_law 570 = .ok (.iconst 0, 1) := by decide +kernel
theorem dL_law_571 : decode cL_law 571 = .ok (.laload, 1) := by decide +kernel
theorem dL_law_572 : decode cL_law 572 = .ok (.iload 6, 2) := by decide +kernel
theorem dL_law_574 : decode cL_law 574 = .ok (.i2l, 1) := by decide +kernel
theorem dL_law_575 : decode cL_law 575 = .ok (.lcmp, 1) := by decide +kernel
theorem dL_law_576 : decode cL_law 576 = .ok (.ifCond .eq 5, 3) := by decide +kernel
theorem dL_law_579 : decode cL_law 579 = .ok (.iconst 0, 1) := by decide +kernel
theorem dL_law_580 : decode cL_law 580 = .ok (.ireturn, 1) := by decide +kernel
theorem dL_law_581 : decode cL_law 581 = .ok (.goto 949, 3) := by decide +kernel
theorem dL_law_584 : decode cL_law 584 = .ok (.aload_n 1, 1) := by decide +kernel
theorem dL_law_585 : decode cL_law 585 = .ok (.aload_n 0, 1) := by decide +kernel
theorem dL_law_586 : decode cL_law 586 = .ok (.iload 4, 2) := by decide +kernel
theorem dL_law_588 : decode cL_law 588 = .ok (.iconst 1, 1) := by decide +kernel
theorem dL_law_589 : decode cL_law 589 = .ok (.iadd, 1) := by decide +kernel
theorem dL_law_590 : decode cL_law 590 = .ok (.iaload, 1) := by decide +kernel
theorem dL_law_591 : decode cL_law 591 = .ok (.aload_n 0, 1) := by decide +kernel
theorem dL_law_592 : decode cL_law 592 = .ok (.iload 4, 2) := by decide +kernel
theorem dL_law_594 : decode cL_law 594 = .ok (.iconst 2, 1) := by decide +kernel
theorem dL_law_595 : decode cL_law 595 = .ok (.iadd, 1) := by decide +kernel
theorem dL_law_596 : decode cL_law 596 = .ok (.iaload, 1) := by decide +kernel
theorem dL_law_597 : decode cL_law 597 = .ok (.aload_n 0, 1) := by decide +kernel
theorem dL_law_598 : decode cL_law 598 = .ok (.iload 4, 2) := by decide +kernel
theorem dL_law_600 : decode cL_law 600 = .ok (.iconst 3, 1) := by decide +kernel
theorem dL_law_601 : decode cL_law 601 = .ok (.iadd, 1) := by decide +kernel
theorem dL_law_602 : decode cL_law 602 = .ok (.iaload, 1) := by decide +kernel
theorem dL_law_603 : decode cL_law 603 = .ok (.aload_n 0, 1) := by decide +kernel
theorem dL_law_604 : decode cL_law 604 = .ok (.iload 4, 2) := by decide +kernel
theorem dL_law_606 : decode cL_law 606 = .ok (.iconst 4, 1) := by decide +kernel
theorem dL_law_607 : decode cL_law 607 = .ok (.iadd, 1) := by decide +kernel
theorem dL_law_608 : decode cL_law 608 = .ok (.iaload, 1) := by decide +kernel
theorem dL_law_609 : decode cL_law 609 = .ok (.aload_n 3, 1) := by decide +kernel
theorem dL_law_610 : decode cL_law 610 = .ok (.invokestatic 122, 3) := by decide +kernel
theorem dL_law_613 : decode cL_law 613 = .ok (.istore 5, 2) := by decide +kernel
theorem dL_law_615 : decode cL_law 615 = .ok (.aload_n 2, 1) := by decide +kernel
theorem dL_law_616 : decode cL_law 616 = .ok (.aload_n 0, 1) := by decide +kernel
theorem dL_law_617 : decode cL_law 617 = .ok (.iload 4, 2) := by decide +kernel
theorem dL_law_619 : decode cL_law 619 = .ok (.iconst 1, 1) := by decide +kernel
theorem dL_law_620 : decode cL_law 620 = .ok (.iadd, 1) := by decide +kernel
theorem dL_law_621 : decode cL_law 621 = .ok (.iaload, 1) := by decide +kernel
theorem dL_law_622 : decode cL_law 622 = .ok (.aload_n 0, 1) := by decide +kernel
theorem dL_law_623 : decode cL_law 623 = .ok (.iload 4, 2) := by decide +kernel
theorem dL_law_625 : decode cL_law 625 = .ok (.iconst 2, 1) := by decide +kernel
theorem dL_law_626 : decode cL_law 626 = .ok (.iadd, 1) := by decide +kernel
theorem dL_law_627 : decode cL_law 627 = .ok (.iaload, 1) := by decide +kernel
theorem dL_law_628 : decode cL_law 628 = .ok (.aload_n 0, 1) := by decide +kernel
theorem dL_law_629 : decode cL_law 629 = .ok (.iload 4, 2) := by decide +kernel
theorem dL_law_631 : decode cL_law 631 = .ok (.iconst 3, 1) := by decide +kernel
theorem dL_law_632 : decode cL_law 632 = .ok (.iadd, 1) := by decide +kernel
theorem dL_law_633 : decode cL_law 633 = .ok (.iaload, 1) := by decide +kernel
theorem dL_law_634 : decode cL_law 634 = .ok (.aload_n 0, 1) := by decide +kernel
theorem dL_law_635 : decode cL_law 635 = .ok (.iload 4, 2) := by decide +kernel
theorem dL_law_637 : decode cL_law 637 = .ok (.iconst 4, 1) := by decide +kernel
theorem dL_law_638 : decode cL_law 638 = .ok (.iadd, 1) := by decide +kernel
theorem dL_law_639 : decode cL_law 639 = .ok (.iaload, 1) := by decide +kernel
theorem dL_law_640 : decode cL_law 640 = .ok (.invokevirtual 124, 3) := by decide +kernel
theorem dL_law_643 : decode cL_law 643 = .ok (.istore 6, 2) := by decide +kernel
theorem dL_law_645 : decode cL_law 645 = .ok (.aload_n 2, 1) := by decide +kernel
theorem dL_law_646 : decode cL_law 646 = .ok (.invokevirtual 96, 3) := by decide +kernel
theorem dL_law_649 : decode cL_law 649 = .ok (.iload 5, 2) := by decide +kernel
theorem dL_law_651 : decode cL_law 651 = .ok (.if_icmp .eq 5, 3) := by decide +kernel
theorem dL_law_654 : decode cL_law 654 = .ok (.iconst 0, 1) := by decide +kernel
theorem dL_law_655 : decode cL_law 655 = .ok (.ireturn, 1) := by decide +kernel
theorem dL_law_656 : decode cL_law 656 = .ok (.iload 5, 2) := by decide +kernel
theorem dL_law_658 : decode cL_law 658 = .ok (.ifCond .ne 15, 3) := by decide +kernel
theorem dL_law_661 : decode cL_law 661 = .ok (.aload_n 3, 1) := by decide +kernel
theorem dL_law_662 : decode cL_law 662 = .ok (.iconst 0, 1) := by decide +kernel
theorem dL_law_663 : decode cL_law 663 = .ok (.laload, 1) := by decide +kernel
theorem dL_law_664 : decode cL_law 664 = .ok (.iload 6, 2) := by decide +kernel
theorem dL_law_666 : decode cL_law 666 = .ok (.i2l, 1) := by decide +kernel
theorem dL_law_667 : decode cL_law 667 = .ok (.lcmp, 1) := by decide +kernel
theorem dL_law_668 : decode cL_law 668 = .ok (.ifCond .eq 5, 3) := by decide +kernel
theorem dL_law_671 : decode cL_law 671 = .ok (.iconst 0, 1) := by decide +kernel
theorem dL_law_672 : decode cL_law 672 = .ok (.ireturn, 1) := by decide +kernel
theorem dL_law_673 : decode cL_law 673 = .ok (.goto 857, 3) := by decide +kernel
theorem dL_law_676 : decode cL_law 676 = .ok (.aload_n 1, 1) := by decide +kernel
theorem dL_law_677 : decode cL_law 677 = .ok (.aload_n 0, 1) := by decide +kernel
theorem dL_law_678 : decode cL_law 678 = .ok (.iload 4, 2) := by decide +kernel
theorem dL_law_680 : decode cL_law 680 = .ok (.iconst 1, 1) := by decide +kernel
theorem dL_law_681 : decode cL_law 681 = .ok (.iadd, 1) := by decide +kernel
theorem dL_law_682 : decode cL_law 682 = .ok (.iaload, 1) := by decide +kernel
theorem dL_law_683 : decode cL_law 683 = .ok (.aload_n 0, 1) := by decide +kernel
theorem dL_law_684 : decode cL_law 684 = .ok (.iload 4, 2) := by decide +kernel
theorem dL_law_686 : decode cL_law 686 = .ok (.iconst 2, 1) := by decide +kernel
theorem dL_law_687 : decode cL_law 687 = .ok (.iadd, 1) := by decide +kernel
end
section
theorem dL_law_688 : decode cL_law 688 = .ok (.iaload, 1) := by decide +kernel
theorem dL_law_689 : decode cL_law 689 = .ok (.aload_n 3, 1) := by decide +kernel
theorem dL_law_690 : decode cL_law 690 = .ok (.invokestatic 125, 3) := by decide +kernel
theorem dL_law_693 : decode cL_law 693 = .ok (.istore 5, 2) := by decide +kernel
theorem dL_law_695 : decode cL_law 695 = .ok (.aload_n 2, 1) := by decide +kernel
theorem dL_law_696 : decode cL_law 696 = .ok (.aload_n 0, 1) := by decide +kernel
theorem dL_law_697 : decode cL_law 697 = .ok (.iload 4, 2) := by decide +kernel
theorem dL_law_699 : decode cL_law 699 = .ok (.iconst 1, 1) := by decide +kernel
theorem dL_law_700 : decode cL_law 700 = .ok (.iadd, 1) := by decide +kernel
theorem dL_law_701 : decode cL_law 701 = .ok (.iaload, 1) := by decide +kernel
theorem dL_law_702 : decode cL_law 702 = .ok (.aload_n 0, 1) := by decide +kernel
theorem dL_law_703 : decode cL_law 703 = .ok (.iload 4, 2) := by decide +kernel
theorem dL_law_705 : decode cL_law 705 = .ok (.iconst 2, 1) := by decide +kernel
theorem dL_law_706 : decode cL_law 706 = .ok (.iadd, 1) := by decide +kernel
theorem dL_law_707 : decode cL_law 707 = .ok (.iaload, 1) := by decide +kernel
theorem dL_law_708 : decode cL_law 708 = .ok (.invokevirtual 127, 3) := by decide +kernel
theorem dL_law_711 : decode cL_law 711 = .ok (.istore 6, 2) := by decide +kernel
theorem dL_law_713 : decode cL_law 713 = .ok (.aload_n 2, 1) := by decide +kernel
theorem dL_law_714 : decode cL_law 714 = .ok (.invokevirtual 96, 3) := by decide +kernel
theorem dL_law_717 : decode cL_law 717 = .ok (.iload 5, 2) := by decide +kernel
theorem dL_law_719 : decode cL_law 719 = .ok (.if_icmp .eq 5, 3) := by decide +kernel
theorem dL_law_722 : decode cL_law 722 = .ok (.iconst 0, 1) := by decide +kernel
theorem dL_law_723 : decode cL_law 723 = .ok (.ireturn, 1) := by decide +kernel
theorem dL_law_724 : decode cL_law 724 = .ok (.iload 5, 2) := by decide +kernel
theorem dL_law_726 : decode cL_law 726 = .ok (.ifCond .ne 15, 3) := by decide +kernel
theorem dL_law_729 : decode cL_law 729 = .ok (.aload_n 3, 1) := by decide +kernel
theorem dL_law_730 : decode cL_law 730 = .ok (.iconst 0, 1) := by decide +kernel
theorem dL_law_731 : decode cL_law 731 = .ok (.laload, 1) := by decide +kernel
theorem dL_law_732 : decode cL_law 732 = .ok (.iload 6, 2) := by decide +kernel
theorem dL_law_734 : decode cL_law 734 = .ok (.i2l, 1) := by decide +kernel
theorem dL_law_735 : decode cL_law 735 = .ok (.lcmp, 1) := by decide +kernel
theorem dL_law_736 : decode cL_law 736 = .ok (.ifCond .eq 5, 3) := by decide +kernel
theorem dL_law_739 : decode cL_law 739 = .ok (.iconst 0, 1) := by decide +kernel
theorem dL_law_740 : decode cL_law 740 = .ok (.ireturn, 1) := by decide +kernel
theorem dL_law_741 : decode cL_law 741 = .ok (.goto 789, 3) := by decide +kernel
theorem dL_law_744 : decode cL_law 744 = .ok (.aload_n 1, 1) := by decide +kernel
theorem dL_law_745 : decode cL_law 745 = .ok (.aload_n 0, 1) := by decide +kernel
theorem dL_law_746 : decode cL_law 746 = .ok (.iload 4, 2) := by decide +kernel
theorem dL_law_748 : decode cL_law 748 = .ok (.iconst 1, 1) := by decide +kernel
theorem dL_law_749 : decode cL_law 749 = .ok (.iadd, 1) := by decide +kernel
theorem dL_law_750 : decode cL_law 750 = .ok (.iaload, 1) := by decide +kernel
theorem dL_law_751 : decode cL_law 751 = .ok (.invokestatic 128, 3) := by decide +kernel
theorem dL_law_754 : decode cL_law 754 = .ok (.istore 5, 2) := by decide +kernel
theorem dL_law_756 : decode cL_law 756 = .ok (.aload_n 2, 1) := by decide +kernel
theorem dL_law_757 : decode cL_law 757 = .ok (.aload_n 0, 1) := by decide +kernel
theorem dL_law_758 : decode cL_law 758 = .ok (.iload 4, 2) := by decide +kernel
theorem dL_law_760 : decode cL_law 760 = .ok (.iconst 1, 1) := by decide +kernel
theorem dL_law_761 : decode cL_law 761 = .ok (.iadd, 1) := by decide +kernel
theorem dL_law_762 : decode cL_law 762 = .ok (.iaload, 1) := by decide +kernel
theorem dL_law_763 : decode cL_law 763 = .ok (.invokevirtual 131, 3) := by decide +kernel
theorem dL_law_766 : decode cL_law 766 = .ok (.aload_n 2, 1) := by decide +kernel
theorem dL_law_767 : decode cL_law 767 = .ok (.invokevirtual 96, 3) := by decide +kernel
theorem dL_law_770 : decode cL_law 770 = .ok (.iload 5, 2) := by decide +kernel
theorem dL_law_772 : decode cL_law 772 = .ok (.if_icmp .eq 5, 3) := by decide +kernel
theorem dL_law_775 : decode cL_law 775 = .ok (.iconst 0, 1) := by decide +kernel
theorem dL_law_776 : decode cL_law 776 = .ok (.ireturn, 1) := by decide +kernel
theorem dL_law_777 : decode cL_law 777 = .ok (.goto 753, 3) := by decide +kernel
theorem dL_law_780 : decode cL_law 780 = .ok (.aload_n 1, 1) := by decide +kernel
theorem dL_law_781 : decode cL_law 781 = .ok (.aload_n 0, 1) := by decide +kernel
theorem dL_law_782 : decode cL_law 782 = .ok (.iload 4, 2) := by decide +kernel
theorem dL_law_784 : decode cL_law 784 = .ok (.iconst 1, 1) := by decide +kernel
theorem dL_law_785 : decode cL_law 785 = .ok (.iadd, 1) := by decide +kernel
theorem dL_law_786 : decode cL_law 786 = .ok (.iaload, 1) := by decide +kernel
theorem dL_law_787 : decode cL_law 787 = .ok (.aload_n 0, 1) := by decide +kernel
theorem dL_law_788 : decode cL_law 788 = .ok (.iload 4, 2) := by decide +kernel
theorem dL_law_790 : decode cL_law 790 = .ok (.iconst 2, 1) := by decide +kernel
theorem dL_law_791 : decode cL_law 791 = .ok (.iadd, 1) := by decide +kernel
theorem dL_law_792 : decode cL_law 792 = .ok (.iaload, 1) := by decide +kernel
theorem dL_law_793 : decode cL_law 793 = .ok (.aload_n 0, 1) := by decide +kernel
theorem dL_law_794 : decode cL_law 794 = .ok (.iload 4, 2) := by decide +kernel
theorem dL_law_796 : decode cL_law 796 = .ok (.iconst 3, 1) := by decide +kernel
theorem dL_law_797 : decode cL_law 797 = .ok (.iadd, 1) := by decide +kernel
theorem dL_law_798 : decode cL_law 798 = .ok (.iaload, 1) := by decide +kernel
theorem dL_law_799 : decode cL_law 799 = .ok (.aload_n 3, 1) := by decide +kernel
theorem dL_law_800 : decode cL_law 800 = .ok (.invokestatic 132, 3) := by decide +kernel
theorem dL_law_803 : decode cL_law 803 = .ok (.istore 5, 2) := by decide +kernel
theorem dL_law_805 : decode cL_law 805 = .ok (.aload_n 2, 1) := by decide +kernel
theorem dL_law_806 : decode cL_law 806 = .ok (.aload_n 0, 1) := by decide +kernel
theorem dL_law_807 : decode cL_law 807 = .ok (.iload 4, 2) := by decide +kernel
theorem dL_law_809 : decode cL_law 809 = .ok (.iconst 1, 1) := by decide +kernel
theorem dL_law_810 : decode cL_law 810 = .ok (.iadd, 1) := by decide +kernel
theorem dL_law_811 : decode cL_law 811 = .ok (.iaload, 1) := by decide +kernel
theorem dL_law_812 : decode cL_law 812 = .ok (.aload_n 0, 1) := by decide +kernel
theorem dL_law_813 : decode cL_law 813 = .ok (.iload 4, 2) := by decide +kernel
theorem dL_law_815 : decode cL_law 815 = .ok (.iconst 2, 1) := by decide +kernel
theorem dL_law_816 : decode cL_law 816 = .ok (.iadd, 1) := by decide +kernel
theorem dL_law_817 : decode cL_law 817 = .ok (.iaload, 1) := by decide +kernel
theorem dL_law_818 : decode cL_law 818 = .ok (.aload_n 0, 1) := by decide +kernel
theorem dL_law_819 : decode cL_law 819 = .ok (.iload 4, 2) := by decide +kernel
theorem dL_law_821 : decode cL_law 821 = .ok (.iconst 3, 1) := by decide +kernel
theorem dL_law_822 : decode cL_law 822 = .ok (.iadd, 1) := by decide +kernel
theorem dL_law_823 : decode cL_law 823 = .ok (.iaload, 1) := by decide +kernel
theorem dL_law_824 : decode cL_law 824 = .ok (.invokevirtual 135, 3) := by decide +kernel
theorem dL_law_827 : decode cL_law 827 = .ok (.istore 6, 2) := by decide +kernel
theorem dL_law_829 : decode cL_law 829 = .ok (.aload_n 2, 1) := by decide +kernel
theorem dL_law_830 : decode cL_law 830 = .ok (.invokevirtual 96, 3) := by decide +kernel
theorem dL_law_833 : decode cL_law 833 = .ok (.iload 5, 2) := by decide +kernel
theorem dL_law_835 : decode cL_law 835 = .ok (.if_icmp .eq 5, 3) := by decide +kernel
theorem dL_law_838 : decode cL_law 838 = .ok (.iconst 0, 1) := by decide +kernel
theorem dL_law_839 : decode cL_law 839 = .ok (.ireturn, 1) := by decide +kernel
theorem dL_law_840 : decode cL_law 840 = .ok (.iload 5, 2) := by decide +kernel
theorem dL_law_842 : decode cL_law 842 = .ok (.ifCond .ne 15, 3) := by decide +kernel
theorem dL_law_845 : decode cL_law 845 = .ok (.aload_n 3, 1) := by decide +kernel
theorem dL_law_846 : decode cL_law 846 = .ok (.iconst 0, 1) := by decide +kernel
theorem dL_law_847 : decode cL_law 847 = .ok (.laload, 1) := by decide +kernel
theorem dL_law_848 : decode cL_law 848 = .ok (.iload 6, 2) := by decide +kernel
theorem dL_law_850 : decode cL_law 850 = .ok (.i2l, 1) := by decide +kernel
theorem dL_law_851 : decode cL_law 851 = .ok (.lcmp, 1) := by decide +kernel
theorem dL_law_852 : decode cL_law 852 = .ok (.ifCond .eq 5, 3) := by decide +kernel
theorem dL_law_855 : decode cL_law 855 = .ok (.iconst 0, 1) := by decide +kernel
theorem dL_law_856 : decode cL_law 856 = .ok (.ireturn, 1) := by decide +kernel
theorem dL_law_857 : decode cL_law 857 = .ok (.goto 673, 3) := by decide +kernel
theorem dL_law_860 : decode cL_law 860 = .ok (.aload_n 1, 1) := by decide +kernel
theorem dL_law_861 : decode cL_law 861 = .ok (.aload_n 0, 1) := by decide +kernel
theorem dL_law_862 : decode cL_law 862 = .ok (.iload 4, 2) := by decide +kernel
theorem dL_law_864 : decode cL_law 864 = .ok (.iconst 1, 1) := by decide +kernel
theorem dL_law_865 : decode cL_law 865 = .ok (.iadd, 1) := by decide +kernel
theorem dL_law_866 : decode cL_law 866 = .ok (.iaload, 1) := by decide +kernel
theorem dL_law_867 : decode cL_law 867 = .ok (.aload_n 0, 1) := by decide +kernel
theorem dL_law_868 : decode cL_law 868 = .ok (.iload 4, 2) := by decide +kernel
theorem dL_law_870 : decode cL_law 870 = .ok (.iconst 2, 1) := by decide +kernel
theorem dL_law_871 : decode cL_law 871 = .ok (.iadd, 1) := by decide +kernel
theorem dL_law_872 : decode cL_law 872 = .ok (.iaload, 1) := by decide +kernel
theorem dL_law_873 : decode cL_law 873 = .ok (.aload_n 0, 1) := by decide +kernel
theorem dL_law_874 : decode cL_law 874 = .ok (.iload 4, 2) := by decide +kernel
theorem dL_law_876 : decode cL_law 876 = .ok (.iconst 3, 1) := by decide +kernel
theorem dL_law_877 : decode cL_law 877 = .ok (.iadd, 1) := by decide +kernel
theorem dL_law_878 : decode cL_law 878 = .ok (.iaload, 1) := by decide +kernel
theorem dL_law_879 : decode cL_law 879 = .ok (.ifCond .eq 7, 3) := by decide +kernel
theorem dL_law_882 : decode cL_law 882 = .ok (.iconst 1, 1) := by decide +kernel
theorem dL_law_883 : decode cL_law 883 = .ok (.goto 4, 3) := by decide +kernel
theorem dL_law_886 : decode cL_law 886 = .ok (.iconst 0, 1) := by decide +kernel
theorem dL_law_887 : decode cL_law 887 = .ok (.aload_n 3, 1) := by decide +kernel
theorem dL_law_888 : decode cL_law 888 = .ok (.invokestatic 136, 3) := by decide +kernel
theorem dL_law_891 : decode cL_law 891 = .ok (.istore 5, 2) := by decide +kernel
theorem dL_law_893 : decode cL_law 893 = .ok (.aload_n 2, 1) := by decide +kernel
theorem dL_law_894 : decode cL_law 894 = .ok (.aload_n 0, 1) := by decide +kernel
theorem dL_law_895 : decode cL_law 895 = .ok (.iload 4, 2) := by decide +kernel
theorem dL_law_897 : decode cL_law 897 = .ok (.iconst 1, 1) := by decide +kernel
theorem dL_law_898 : decode cL_law 898 = .ok (.iadd, 1) := by decide +kernel
theorem dL_law_899 : decode cL_law 899 = .ok (.iaload, 1) := by decide +kernel
theorem dL_law_900 : decode cL_law 900 = .ok (.aload_n 0, 1) := by decide +kernel
theorem dL_law_901 : decode cL_law 901 = .ok (.iload 4, 2) := by decide +kernel
theorem dL_law_903 : decode cL_law 903 = .ok (.iconst 2, 1) := by decide +kernel
theorem dL_law_904 : decode cL_law 904 = .ok (.iadd, 1) := by decide +kernel
theorem dL_law_905 : decode cL_law 905 = .ok (.iaload, 1) := by decide +kernel
theorem dL_law_906 : decode cL_law 906 = .ok (.aload_n 0, 1) := by decide +kernel
theorem dL_law_907 : decode cL_law 907 = .ok (.iload 4, 2) := by decide +kernel
theorem dL_law_909 : decode cL_law 909 = .ok (.iconst 3, 1) := by decide +kernel
theorem dL_law_910 : decode cL_law 910 = .ok (.iadd, 1) := by decide +kernel
theorem dL_law_911 : decode cL_law 911 = .ok (.iaload, 1) := by decide +kernel
theorem dL_law_912 : decode cL_law 912 = .ok (.ifCond .eq 7, 3) := by decide +kernel
theorem dL_law_915 : decode cL_law 915 = .ok (.iconst 1, 1) := by decide +kernel
theorem dL_law_916 : decode cL_law 916 = .ok (.goto 4, 3) := by decide +kernel
theorem dL_law_919 : decode cL_law 919 = .ok (.iconst 0, 1) := by decide +kernel
theorem dL_law_920 : decode cL_law 920 = .ok (.invokevirtual 139, 3) := by decide +kernel
theorem dL_law_923 : decode cL_law 923 = .ok (.istore 6, 2) := by decide +kernel
theorem dL_law_925 : decode cL_law 925 = .ok (.aload_n 2, 1) := by decide +kernel
theorem dL_law_926 : decode cL_law 926 = .ok (.invokevirtual 96, 3) := by decide +kernel
theorem dL_law_929 : decode cL_law 929 = .ok (.iload 5, 2) := by decide +kernel
theorem dL_law_931 : decode cL_law 931 = .ok (.if_icmp .eq 5, 3) := by decide +kernel
theorem dL_law_934 : decode cL_law 934 = .ok (.iconst 0, 1) := by decide +kernel
theorem dL_law_935 : decode cL_law 935 = .ok (.ireturn, 1) := by decide +kernel
theorem dL_law_936 : decode cL_law 936 = .ok (.iload 5, 2) := by decide +kernel
theorem dL_law_938 : decode cL_law 938 = .ok (.ifCond .ne 22, 3) := by decide +kernel
theorem dL_law_941 : decode cL_law 941 = .ok (.aload_n 3, 1) := by decide +kernel
theorem dL_law_942 : decode cL_law 942 = .ok (.iconst 0, 1) := by decide +kernel
theorem dL_law_943 : decode cL_law 943 = .ok (.laload, 1) := by decide +kernel
theorem dL_law_944 : decode cL_law 944 = .ok (.iload 6, 2) := by decide +kernel
theorem dL_law_946 : decode cL_law 946 = .ok (.ifCond .eq 7, 3) := by decide +kernel
theorem dL_law_949 : decode cL_law 949 = .ok (.lconst 1, 1) := by decide +kernel
theorem dL_law_950 : decode cL_law 950 = .ok (.goto 4, 3) := by decide +kernel
theorem dL_law_953 : decode cL_law 953 = .ok (.lconst 0, 1) := by decide +kernel
theorem dL_law_954 : decode cL_law 954 = .ok (.lcmp, 1) := by decide +kernel
theorem dL_law_955 : decode cL_law 955 = .ok (.ifCond .eq 5, 3) := by decide +kernel
theorem dL_law_958 : decode cL_law 958 = .ok (.iconst 0, 1) := by decide +kernel
theorem dL_law_959 : decode cL_law 959 = .ok (.ireturn, 1) := by decide +kernel
theorem dL_law_960 : decode cL_law 960 = .ok (.goto 570, 3) := by decide +kernel
theorem dL_law_963 : decode cL_law 963 = .ok (.aload_n 1, 1) := by decide +kernel
theorem dL_law_964 : decode cL_law 964 = .ok (.aload_n 3, 1) := by decide +kernel
theorem dL_law_965 : decode cL_law 965 = .ok (.invokestatic 140, 3) := by decide +kernel
theorem dL_law_968 : decode cL_law 968 = .ok (.istore 5, 2) := by decide +kernel
theorem dL_law_970 : decode cL_law 970 = .ok (.aload_n 2, 1) := by decide +kernel
theorem dL_law_971 : decode cL_law 971 = .ok (.invokevirtual 143, 3) := by decide +kernel
theorem dL_law_974 : decode cL_law 974 = .ok (.istore 6, 2) := by decide +kernel
theorem dL_law_976 : decode cL_law 976 = .ok (.aload_n 2, 1) := by decide +kernel
theorem dL_law_977 : decode cL_law 977 = .ok (.invokevirtual 96, 3) := by decide +kernel
theorem dL_law_980 : decode cL_law 980 = .ok (.iload 5, 2) := by decide +kernel
theorem dL_law_982 : decode cL_law 982 = .ok (.if_icmp .eq 5, 3) := by decide +kernel
theorem dL_law_985 : decode cL_law 985 = .ok (.iconst 0, 1) := by decide +kernel
theorem dL_law_986 : decode cL_law 986 = .ok (.ireturn, 1) := by decide +kernel
theorem dL_law_987 : decode cL_law 987 = .ok (.iload 5, 2) := by decide +kernel
theorem dL_law_989 : decode cL_law 989 = .ok (.ifCond .ne 15, 3) := by decide +kernel
theorem dL_law_992 : decode cL_law 992 = .ok (.aload_n 3, 1) := by decide +kernel
theorem dL_law_993 : decode cL_law 993 = .ok (.iconst 0, 1) := by decide +kernel
theorem dL_law_994 : decode cL_law 994 = .ok (.laload, 1) := by decide +kernel
theorem dL_law_995 : decode cL_law 995 = .ok (.iload 6, 2) := by decide +kernel
theorem dL_law_997 : decode cL_law 997 = .ok (.i2l, 1) := by decide +kernel
theorem dL_law_998 : decode cL_law 998 = .ok (.lcmp, 1) := by decide +kernel
theorem dL_law_999 : decode cL_law 999 = .ok (.ifCond .eq 5, 3) := by decide +kernel
theorem dL_law_1002 : decode cL_law 1002 = .ok (.iconst 0, 1) := by decide +kernel
theorem dL_law_1003 : decode cL_law 1003 = .ok (.ireturn, 1) := by decide +kernel
theorem dL_law_1004 : decode cL_law 1004 = .ok (.goto 526, 3) := by decide +kernel
theorem dL_law_1007 : decode cL_law 1007 = .ok (.aload_n 1, 1) := by decide +kernel
theorem dL_law_1008 : decode cL_law 1008 = .ok (.aload_n 0, 1) := by decide +kernel
theorem dL_law_1009 : decode cL_law 1009 = .ok (.iload 4, 2) := by decide +kernel
theorem dL_law_1011 : decode cL_law 1011 = .ok (.iconst 1, 1) := by decide +kernel
theorem dL_law_1012 : decode cL_law 1012 = .ok (.iadd, 1) := by decide +kernel
theorem dL_law_1013 : decode cL_law 1013 = .ok (.iaload, 1) := by decide +kernel
theorem dL_law_1014 : decode cL_law 1014 = .ok (.aload_n 0, 1) := by decide +kernel
theorem dL_law_1015 : decode cL_law 1015 = .ok (.iload 4, 2) := by decide +kernel
theorem dL_law_1017 : decode cL_law 1017 = .ok (.iconst 2, 1) := by decide +kernel
theorem dL_law_1018 : decode cL_law 1018 = .ok (.iadd, 1) := by decide +kernel
theorem dL_law_1019 : decode cL_law 1019 = .ok (.iaload, 1) := by decide +kernel
theorem dL_law_1020 : decode cL_law 1020 = .ok (.ifCond .eq 7, 3) := by decide +kernel
theorem dL_law_1023 : decode cL_law 1023 = .ok (.iconst 1, 1) := by decide +kernel
theorem dL_law_1024 : decode cL_law 1024 = .ok (.goto 4, 3) := by decide +kernel
theorem dL_law_1027 : decode cL_law 1027 = .ok (.iconst 0, 1) := by decide +kernel
theorem dL_law_1028 : decode cL_law 1028 = .ok (.aload_n 3, 1) := by decide +kernel
theorem dL_law_1029 : decode cL_law 1029 = .ok (.invokestatic 144, 3) := by decide +kernel
theorem dL_law_1032 : decode cL_law 1032 = .ok (.istore 5, 2) := by decide +kernel
theorem dL_law_1034 : decode cL_law 1034 = .ok (.aload_n 2, 1) := by decide +kernel
theorem dL_law_1035 : decode cL_law 1035 = .ok (.aload_n 0, 1) := by decide +kernel
theorem dL_law_1036 : decode cL_law 1036 = .ok (.iload 4, 2) := by decide +kernel
theorem dL_law_1038 : decode cL_law 1038 = .ok (.iconst 1, 1) := by decide +kernel
theorem dL_law_1039 : decode cL_law 1039 = .ok (.iadd, 1) := by decide +kernel
theorem dL_law_1040 : decode cL_law 1040 = .ok (.iaload, 1) := by decide +kernel
theorem dL_law_1041 : decode cL_law 1041 = .ok (.aload_n 0, 1) := by decide +kernel
theorem dL_law_1042 : decode cL_law 1042 = .ok (.iload 4, 2) := by decide +kernel
theorem dL_law_1044 : decode cL_law 1044 = .ok (.iconst 2, 1) := by decide +kernel
theorem dL_law_1045 : decode cL_law 1045 = .ok (.iadd, 1) := by decide +kernel
theorem dL_law_1046 : decode cL_law 1046 = .ok (.iaload, 1) := by decide +kernel
theorem dL_law_1047 : decode cL_law 1047 = .ok (.ifCond .eq 7, 3) := by decide +kernel
theorem dL_law_1050 : decode cL_law 1050 = .ok (.iconst 1, 1) := by decide +kernel
theorem dL_law_1051 : decode cL_law 1051 = .ok (.goto 4, 3) := by decide +kernel
theorem dL_law_1054 : decode cL_law 1054 = .ok (.iconst 0, 1) := by decide +kernel
theorem dL_law_1055 : decode cL_law 1055 = .ok (.invokevirtual 147, 3) := by decide +kernel
theorem dL_law_1058 : decode cL_law 1058 = .ok (.lstore 6, 2) := by decide +kernel
theorem dL_law_1060 : decode cL_law 1060 = .ok (.aload_n 2, 1) := by decide +kernel
theorem dL_law_1061 : decode cL_law 1061 = .ok (.invokevirtual 96, 3) := by decide +kernel
theorem dL_law_1064 : decode cL_law 1064 = .ok (.iload 5, 2) := by decide +kernel
theorem dL_law_1066 : decode cL_law 1066 = .ok (.if_icmp .eq 5, 3) := by decide +kernel
theorem dL_law_1069 : decode cL_law 1069 = .ok (.iconst 0, 1) := by decide +kernel
theorem dL_law_1070 : decode cL_law 1070 = .ok (.ireturn, 1) := by decide +kernel
theorem dL_law_1071 : decode cL_law 1071 = .ok (.iload 5, 2) := by decide +kernel
theorem dL_law_1073 : decode cL_law 1073 = .ok (.ifCond .ne 14, 3) := by decide +kernel
theorem dL_law_1076 : decode cL_law 1076 = .ok (.aload_n 3, 1) := by decide +kernel
theorem dL_law_1077 : decode cL_law 1077 = .ok (.iconst 0, 1) := by decide +kernel
theorem dL_law_1078 : decode cL_law 1078 = .ok (.laload, 1) := by decide +kernel
theorem dL_law_1079 : decode cL_law 1079 = .ok (.lload 6, 2) := by decide +kernel
theorem dL_law_1081 : decode cL_law 1081 = .ok (.lcmp, 1) := by decide +kernel
theorem dL_law_1082 : decode cL_law 1082 = .ok (.ifCond .eq 5, 3) := by decide +kernel
theorem dL_law_1085 : decode cL_law 1085 = .ok (.iconst 0, 1) := by decide +kernel
theorem dL_law_1086 : decode cL_law 1086 = .ok (.ireturn, 1) := by decide +kernel
theorem dL_law_1087 : decode cL_law 1087 = .ok (.goto 443, 3) := by decide +kernel
theorem dL_law_1090 : decode cL_law 1090 = .ok (.aload_n 1, 1) := by decide +kernel
theorem dL_law_1091 : decode cL_law 1091 = .ok (.aload_n 0, 1) := by decide +kernel
theorem dL_law_1092 : decode cL_law 1092 = .ok (.iload 4, 2) := by decide +kernel
theorem dL_law_1094 : decode cL_law 1094 = .ok (.iconst 1, 1) := by decide +kernel
theorem dL_law_1095 : decode cL_law 1095 = .ok (.iadd, 1) := by decide +kernel
theorem dL_law_1096 : decode cL_law 1096 = .ok (.iaload, 1) := by decide +kernel
theorem dL_law_1097 : decode cL_law 1097 = .ok (.aload_n 3, 1) := by decide +kernel
theorem dL_law_1098 : decode cL_law 1098 = .ok (.invokestatic 148, 3) := by decide +kernel
theorem dL_law_1101 : decode cL_law 1101 = .ok (.istore 5, 2) := by decide +kernel
theorem dL_law_1103 : decode cL_law 1103 = .ok (.aload_n 2, 1) := by decide +kernel
theorem dL_law_1104 : decode cL_law 1104 = .ok (.aload_n 0, 1) := by decide +kernel
theorem dL_law_1105 : decode cL_law 1105 = .ok (.iload 4, 2) := by decide +kernel
theorem dL_law_1107 : decode cL_law 1107 = .ok (.iconst 1, 1) := by decide +kernel
theorem dL_law_1108 : decode cL_law 1108 = .ok (.iadd, 1) := by decide +kernel
theorem dL_law_1109 : decode cL_law 1109 = .ok (.iaload, 1) := by decide +kernel
theorem dL_law_1110 : decode cL_law 1110 = .ok (.invokevirtual 150, 3) := by decide +kernel
theorem dL_law_1113 : decode cL_law 1113 = .ok (.istore 6, 2) := by decide +kernel
theorem dL_law_1115 : decode cL_law 1115 = .ok (.aload_n 2, 1) := by decide +kernel
theorem dL_law_1116 : decode cL_law 1116 = .ok (.invokevirtual 96, 3) := by decide +kernel
theorem dL_law_1119 : decode cL_law 1119 = .ok (.iload 5, 2) := by decide +kernel
theorem dL_law_1121 : decode cL_law 1121 = .ok (.if_icmp .eq 5, 3) := by decide +kernel
theorem dL_law_1124 : decode cL_law 1124 = .ok (.iconst 0, 1) := by decide +kernel
theorem dL_law_1125 : decode cL_law 1125 = .ok (.ireturn, 1) := by decide +kernel
theorem dL_law_1126 : decode cL_law 1126 = .ok (.iload 5, 2) := by decide +kernel
theorem dL_law_1128 : decode cL_law 1128 = .ok (.ifCond .ne 15, 3) := by decide +kernel
theorem dL_law_1131 : decode cL_law 1131 = .ok (.aload_n 3, 1) := by decide +kernel
theorem dL_law_1132 : decode cL_law 1132 = .ok (.iconst 0, 1) := by decide +kernel
theorem dL_law_1133 : decode cL_law 1133 = .ok (.laload, 1) := by decide +kernel
theorem dL_law_1134 : decode cL_law 1134 = .ok (.iload 6, 2) := by decide +kernel
theorem dL_law_1136 : decode cL_law 1136 = .ok (.i2l, 1) := by decide +kernel
theorem dL_law_1137 : decode cL_law 1137 = .ok (.lcmp, 1) := by decide +kernel
theorem dL_law_1138 : decode cL_law 1138 = .ok (.ifCond .eq 5, 3) := by decide +kernel
theorem dL_law_1141 : decode cL_law 1141 = .ok (.iconst 0, 1) := by decide +kernel
theorem dL_law_1142 : decode cL_law 1142 = .ok (.ireturn, 1) := by decide +kernel
theorem dL_law_1143 : decode cL_law 1143 = .ok (.goto 387, 3) := by decide +kernel
theorem dL_law_1146 : decode cL_law 1146 = .ok (.aload_n 1, 1) := by decide +kernel
theorem dL_law_1147 : decode cL_law 1147 = .ok (.aload_n 0, 1) := by decide +kernel
theorem dL_law_1148 : decode cL_law 1148 = .ok (.iload 4, 2) := by decide +kernel
theorem dL_law_1150 : decode cL_law 1150 = .ok (.iconst 1, 1) := by decide +kernel
theorem dL_law_1151 : decode cL_law 1151 = .ok (.iadd, 1) := by decide +kernel
theorem dL_law_1152 : decode cL_law 1152 = .ok (.iaload, 1) := by decide +kernel
theorem dL_law_1153 : decode cL_law 1153 = .ok (.aload_n 3, 1) := by decide +kernel
theorem dL_law_1154 : decode cL_law 1154 = .ok (.invokestatic 151, 3) := by decide +kernel
theorem dL_law_1157 : decode cL_law 1157 = .ok (.istore 5, 2) := by decide +kernel
theorem dL_law_1159 : decode cL_law 1159 = .ok (.aload_n 2, 1) := by decide +kernel
theorem dL_law_1160 : decode cL_law 1160 = .ok (.aload_n 0, 1) := by decide +kernel
theorem dL_law_1161 : decode cL_law 1161 = .ok (.iload 4, 2) := by decide +kernel
theorem dL_law_1163 : decode cL_law 1163 = .ok (.iconst 1, 1) := by decide +kernel
theorem dL_law_1164 : decode cL_law 1164 = .ok (.iadd, 1) := by decide +kernel
theorem dL_law_1165 : decode cL_law 1165 = .ok (.iaload, 1) := by decide +kernel
theorem dL_law_1166 : decode cL_law 1166 = .ok (.invokevirtual 153, 3) := by decide +kernel
theorem dL_law_1169 : decode cL_law 1169 = .ok (.istore 6, 2) := by decide +kernel
theorem dL_law_1171 : decode cL_law 1171 = .ok (.aload_n 2, 1) := by decide +kernel
theorem dL_law_1172 : decode cL_law 1172 = .ok (.invokevirtual 96, 3) := by decide +kernel
theorem dL_law_1175 : decode cL_law 1175 = .ok (.iload 5, 2) := by decide +kernel
theorem dL_law_1177 : decode cL_law 1177 = .ok (.if_icmp .eq 5, 3) := by decide +kernel
theorem dL_law_1180 : decode cL_law 1180 = .ok (.iconst 0, 1) := by decide +kernel
theorem dL_law_1181 : decode cL_law 1181 = .ok (.ireturn, 1) := by decide +kernel
theorem dL_law_1182 : decode cL_law 1182 = .ok (.iload 5, 2) := by decide +kernel
theorem dL_law_1184 : decode cL_law 1184 = .ok (.ifCond .ne 15, 3) := by decide +kernel
theorem dL_law_1187 : decode cL_law 1187 = .ok (.aload_n 3, 1) := by decide +kernel
theorem dL_law_1188 : decode cL_law 1188 = .ok (.iconst 0, 1) := by decide +kernel
theorem dL_law_1189 : decode cL_law 1189 = .ok (.laload, 1) := by decide +kernel
theorem dL_law_1190 : decode cL_law 1190 = .ok (.iload 6, 2) := by decide +kernel
theorem dL_law_1192 : decode cL_law 1192 = .ok (.i2l, 1) := by decide +kernel
theorem dL_law_1193 : decode cL_law 1193 = .ok (.lcmp, 1) := by decide +kernel
theorem dL_law_1194 : decode cL_law 1194 = .ok (.ifCond .eq 5, 3) := by decide +kernel
theorem dL_law_1197 : decode cL_law 1197 = .ok (.iconst 0, 1) := by decide +kernel
theorem dL_law_1198 : decode cL_law 1198 = .ok (.ireturn, 1) := by decide +kernel
theorem dL_law_1199 : decode cL_law 1199 = .ok (.goto 331, 3) := by decide +kernel
theorem dL_law_1202 : decode cL_law 1202 = .ok (.aload_n 1, 1) := by decide +kernel
theorem dL_law_1203 : decode cL_law 1203 = .ok (.invokevirtual 154, 3) := by decide +kernel
theorem dL_law_1206 : decode cL_law 1206 = .ok (.aload_n 2, 1) := by decide +kernel
theorem dL_law_1207 : decode cL_law 1207 = .ok (.invokevirtual 157, 3) := by decide +kernel
theorem dL_law_1210 : decode cL_law 1210 = .ok (.if_icmp .eq 320, 3) := by decide +kernel
theorem dL_law_1213 : decode cL_law 1213 = .ok (.iconst 0, 1) := by decide +kernel
theorem dL_law_1214 : decode cL_law 1214 = .ok (.ireturn, 1) := by decide +kernel
theorem dL_law_1215 : decode cL_law 1215 = .ok (.aload_n 1, 1) := by decide +kernel
theorem dL_law_1216 : decode cL_law 1216 = .ok (.aload_n 0, 1) := by decide +kernel
theorem dL_law_1217 : decode cL_law 1217 = .ok (.iload 4, 2) := by decide +kernel
theorem dL_law_1219 : decode cL_law 1219 = .ok (.iconst 1, 1) := by decide +kernel
theorem dL_law_1220 : decode cL_law 1220 = .ok (.iadd, 1) := by decide +kernel
theorem dL_law_1221 : decode cL_law 1221 = .ok (.iaload, 1) := by decide +kernel
theorem dL_law_1222 : decode cL_law 1222 = .ok (.aload_n 0, 1) := by decide +kernel
theorem dL_law_1223 : decode cL_law 1223 = .ok (.iload 4, 2) := by decide +kernel
theorem dL_law_1225 : decode cL_law 1225 = .ok (.iconst 2, 1) := by decide +kernel
theorem dL_law_1226 : decode cL_law 1226 = .ok (.iadd, 1) := by decide +kernel
theorem dL_law_1227 : decode cL_law 1227 = .ok (.iaload, 1) := by decide +kernel
theorem dL_law_1228 : decode cL_law 1228 = .ok (.aload_n 3, 1) := by decide +kernel
theorem dL_law_1229 : decode cL_law 1229 = .ok (.invokestatic 158, 3) := by decide +kernel
theorem dL_law_1232 : decode cL_law 1232 = .ok (.istore 5, 2) := by decide +kernel
theorem dL_law_1234 : decode cL_law 1234 = .ok (.aload_n 2, 1) := by decide +kernel
theorem dL_law_1235 : decode cL_law 1235 = .ok (.aload_n 0, 1) := by decide +kernel
theorem dL_law_1236 : decode cL_law 1236 = .ok (.iload 4, 2) := by decide +kernel
theorem dL_law_1238 : decode cL_law 1238 = .ok (.iconst 1, 1) := by decide +kernel
theorem dL_law_1239 : decode cL_law 1239 = .ok (.iadd, 1) := by decide +kernel
theorem dL_law_1240 : decode cL_law 1240 = .ok (.iaload, 1) := by decide +kernel
theorem dL_law_1241 : decode cL_law 1241 = .ok (.aload_n 0, 1) := by decide +kernel
theorem dL_law_1242 : decode cL_law 1242 = .ok (.iload 4, 2) := by decide +kernel
theorem dL_law_1244 : decode cL_law 1244 = .ok (.iconst 2, 1) := by decide +kernel
theorem dL_law_1245 : decode cL_law 1245 = .ok (.iadd, 1) := by decide +kernel
theorem dL_law_1246 : decode cL_law 1246 = .ok (.iaload, 1) := by decide +kernel
theorem dL_law_1247 : decode cL_law 1247 = .ok (.invokevirtual 160, 3) := by decide +kernel
theorem dL_law_1250 : decode cL_law 1250 = .ok (.istore 6, 2) := by decide +kernel
theorem dL_law_1252 : decode cL_law 1252 = .ok (.aload_n 2, 1) := by decide +kernel
theorem dL_law_1253 : decode cL_law 1253 = .ok (.invokevirtual 96, 3) := by decide +kernel
theorem dL_law_1256 : decode cL_law 1256 = .ok (.iload 5, 2) := by decide +kernel
theorem dL_law_1258 : decode cL_law 1258 = .ok (.if_icmp .eq 5, 3) := by decide +kernel
theorem dL_law_1261 : decode cL_law 1261 = .ok (.iconst 0, 1) := by decide +kernel
theorem dL_law_1262 : decode cL_law 1262 = .ok (.ireturn, 1) := by decide +kernel
theorem dL_law_1263 : decode cL_law 1263 = .ok (.iload 5, 2) := by decide +kernel
theorem dL_law_1265 : decode cL_law 1265 = .ok (.ifCond .ne 15, 3) := by decide +kernel
theorem dL_law_1268 : decode cL_law 1268 = .ok (.aload_n 3, 1) := by decide +kernel
theorem dL_law_1269 : decode cL_law 1269 = .ok (.iconst 0, 1) := by decide +kernel
theorem dL_law_1270 : decode cL_law 1270 = .ok (.laload, 1) := by decide +kernel
theorem dL_law_1271 : decode cL_law 1271 = .ok (.iload 6, 2) := by decide +kernel
theorem dL_law_1273 : decode cL_law 1273 = .ok (.i2l, 1) := by decide +kernel
theorem dL_law_1274 : decode cL_law 1274 = .ok (.lcmp, 1) := by decide +kernel
theorem dL_law_1275 : decode cL_law 1275 = .ok (.ifCond .eq 5, 3) := by decide +kernel
theorem dL_law_1278 : decode cL_law 1278 = .ok (.iconst 0, 1) := by decide +kernel
theorem dL_law_1279 : decode cL_law 1279 = .ok (.ireturn, 1) := by decide +kernel
theorem dL_law_1280 : decode cL_law 1280 = .ok (.goto 250, 3) := by decide +kernel
theorem dL_law_1283 : decode cL_law 1283 = .ok (.aload_n 1, 1) := by decide +kernel
theorem dL_law_1284 : decode cL_law 1284 = .ok (.aload_n 0, 1) := by decide +kernel
theorem dL_law_1285 : decode cL_law 1285 = .ok (.iload 4, 2) := by decide +kernel
theorem dL_law_1287 : decode cL_law 1287 = .ok (.iconst 1, 1) := by decide +kernel
theorem dL_law_1288 : decode cL_law 1288 = .ok (.iadd, 1) := by decide +kernel
theorem dL_law_1289 : decode cL_law 1289 = .ok (.iaload, 1) := by decide +kernel
theorem dL_law_1290 : decode cL_law 1290 = .ok (.aload_n 0, 1) := by decide +kernel
theorem dL_law_1291 : decode cL_law 1291 = .ok (.iload 4, 2) := by decide +kernel
theorem dL_law_1293 : decode cL_law 1293 = .ok (.iconst 2, 1) := by decide +kernel
theorem dL_law_1294 : decode cL_law 1294 = .ok (.iadd, 1) := by decide +kernel
theorem dL_law_1295 : decode cL_law 1295 = .ok (.iaload, 1) := by decide +kernel
theorem dL_law_1296 : decode cL_law 1296 = .ok (.aload_n 3, 1) := by decide +kernel
theorem dL_law_1297 : decode cL_law 1297 = .ok (.invokestatic 161, 3) := by decide +kernel
theorem dL_law_1300 : decode cL_law 1300 = .ok (.istore 5, 2) := by decide +kernel
theorem dL_law_1302 : decode cL_law 1302 = .ok (.aload_n 2, 1) := by decide +kernel
theorem dL_law_1303 : decode cL_law 1303 = .ok (.aload_n 0, 1) := by decide +kernel
theorem dL_law_1304 : decode cL_law 1304 = .ok (.iload 4, 2) := by decide +kernel
theorem dL_law_1306 : decode cL_law 1306 = .ok (.iconst 1, 1) := by decide +kernel
theorem dL_law_1307 : decode cL_law 1307 = .ok (.iadd, 1) := by decide +kernel
theorem dL_law_1308 : decode cL_law 1308 = .ok (.iaload, 1) := by decide +kernel
theorem dL_law_1309 : decode cL_law 1309 = .ok (.aload_n 0, 1) := by decide +kernel
theorem dL_law_1310 : decode cL_law 1310 = .ok (.iload 4, 2) := by decide +kernel
theorem dL_law_1312 : decode cL_law 1312 = .ok (.iconst 2, 1) := by decide +kernel
theorem dL_law_1313 : decode cL_law 1313 = .ok (.iadd, 1) := by decide +kernel
theorem dL_law_1314 : decode cL_law 1314 = .ok (.iaload, 1) := by decide +kernel
theorem dL_law_1315 : decode cL_law 1315 = .ok (.invokevirtual 163, 3) := by decide +kernel
theorem dL_law_1318 : decode cL_law 1318 = .ok (.istore 6, 2) := by decide +kernel
theorem dL_law_1320 : decode cL_law 1320 = .ok (.aload_n 2, 1) := by decide +kernel
theorem dL_law_1321 : decode cL_law 1321 = .ok (.invokevirtual 96, 3) := by decide +kernel
theorem dL_law_1324 : decode cL_law 1324 = .ok (.iload 5, 2) := by decide +kernel
theorem dL_law_1326 : decode cL_law 1326 = .ok (.if_icmp .eq 5, 3) := by decide +kernel
theorem dL_law_1329 : decode cL_law 1329 = .ok (.iconst 0, 1) := by decide +kernel
theorem dL_law_1330 : decode cL_law 1330 = .ok (.ireturn, 1) := by decide +kernel
theorem dL_law_1331 : decode cL_law 1331 = .ok (.iload 5, 2) := by decide +kernel
theorem dL_law_1333 : decode cL_law 1333 = .ok (.ifCond .ne 15, 3) := by decide +kernel
theorem dL_law_1336 : decode cL_law 1336 = .ok (.aload_n 3, 1) := by decide +kernel
theorem dL_law_1337 : decode cL_law 1337 = .ok (.iconst 0, 1) := by decide +kernel
theorem dL_law_1338 : decode cL_law 1338 = .ok (.laload, 1) := by decide +kernel
theorem dL_law_1339 : decode cL_law 1339 = .ok (.iload 6, 2) := by decide +kernel
theorem dL_law_1341 : decode cL_law 1341 = .ok (.i2l, 1) := by decide +kernel
theorem dL_law_1342 : decode cL_law 1342 = .ok (.lcmp, 1) := by decide +kernel
theorem dL_law_1343 : decode cL_law 1343 = .ok (.ifCond .eq 5, 3) := by decide +kernel
theorem dL_law_1346 : decode cL_law 1346 = .ok (.iconst 0, 1) := by decide +kernel
theorem dL_law_1347 : decode cL_law 1347 = .ok (.ireturn, 1) := by decide +kernel
theorem dL_law_1348 : decode cL_law 1348 = .ok (.goto 182, 3) := by decide +kernel
theorem dL_law_1351 : decode cL_law 1351 = .ok (.aload_n 1, 1) := by decide +kernel
theorem dL_law_1352 : decode cL_law 1352 = .ok (.aload_n 0, 1) := by decide +kernel
theorem dL_law_1353 : decode cL_law 1353 = .ok (.iload 4, 2) := by decide +kernel
theorem dL_law_1355 : decode cL_law 1355 = .ok (.iconst 1, 1) := by decide +kernel
theorem dL_law_1356 : decode cL_law 1356 = .ok (.iadd, 1) := by decide +kernel
theorem dL_law_1357 : decode cL_law 1357 = .ok (.iaload, 1) := by decide +kernel
theorem dL_law_1358 : decode cL_law 1358 = .ok (.aload_n 3, 1) := by decide +kernel
theorem dL_law_1359 : decode cL_law 1359 = .ok (.invokestatic 164, 3) := by decide +kernel
theorem dL_law_1362 : decode cL_law 1362 = .ok (.istore 5, 2) := by decide +kernel
theorem dL_law_1364 : decode cL_law 1364 = .ok (.aload_n 2, 1) := by decide +kernel
theorem dL_law_1365 : decode cL_law 1365 = .ok (.aload_n 0, 1) := by decide +kernel
theorem dL_law_1366 : decode cL_law 1366 = .ok (.iload 4, 2) := by decide +kernel
theorem dL_law_1368 : decode cL_law 1368 = .ok (.iconst 1, 1) := by decide +kernel
theorem dL_law_1369 : decode cL_law 1369 = .ok (.iadd, 1) := by decide +kernel
theorem dL_law_1370 : decode cL_law 1370 = .ok (.iaload, 1) := by decide +kernel
theorem dL_law_1371 : decode cL_law 1371 = .ok (.invokevirtual 166, 3) := by decide +kernel
theorem dL_law_1374 : decode cL_law 1374 = .ok (.lstore 6, 2) := by decide +kernel
theorem dL_law_1376 : decode cL_law 1376 = .ok (.aload_n 2, 1) := by decide +kernel
theorem dL_law_1377 : decode cL_law 1377 = .ok (.invokevirtual 96, 3) := by decide +kernel
theorem dL_law_1380 : decode cL_law 1380 = .ok (.iload 5, 2) := by decide +kernel
theorem dL_law_1382 : decode cL_law 1382 = .ok (.if_icmp .eq 5, 3) := by decide +kernel
theorem dL_law_1385 : decode cL_law 1385 = .ok (.iconst 0, 1) := by decide +kernel
theorem dL_law_1386 : decode cL_law 1386 = .ok (.ireturn, 1) := by decide +kernel
theorem dL_law_1387 : decode cL_law 1387 = .ok (.iload 5, 2) := by decide +kernel
theorem dL_law_1389 : decode cL_law 1389 = .ok (.ifCond .ne 14, 3) := by decide +kernel
theorem dL_law_1392 : decode cL_law 1392 = .ok (.aload_n 3, 1) := by decide +kernel
theorem dL_law_1393 : decode cL_law 1393 = .ok (.iconst 0, 1) := by decide +kernel
theorem dL_law_1394 : decode cL_law 1394 = .ok (.laload, 1) := by decide +kernel
theorem dL_law_1395 : decode cL_law 1395 = .ok (.lload 6, 2) := by decide +kernel
theorem dL_law_1397 : decode cL_law 1397 = .ok (.lcmp, 1) := by decide +kernel
theorem dL_law_1398 : decode cL_law 1398 = .ok (.ifCond .eq 5, 3) := by decide +kernel
theorem dL_law_1401 : decode cL_law 1401 = .ok (.iconst 0, 1) := by decide +kernel
theorem dL_law_1402 : decode cL_law 1402 = .ok (.ireturn, 1) := by decide +kernel
theorem dL_law_1403 : decode cL_law 1403 = .ok (.goto 127, 3) := by decide +kernel
theorem dL_law_1406 : decode cL_law 1406 = .ok (.aload_n 1, 1) := by decide +kernel
theorem dL_law_1407 : decode cL_law 1407 = .ok (.invokevirtual 167, 3) := by decide +kernel
theorem dL_law_1410 : decode cL_law 1410 = .ok (.aload_n 2, 1) := by decide +kernel
theorem dL_law_1411 : decode cL_law 1411 = .ok (.invokevirtual 171, 3) := by decide +kernel
theorem dL_law_1414 : decode cL_law 1414 = .ok (.lcmp, 1) := by decide +kernel
theorem dL_law_1415 : decode cL_law 1415 = .ok (.ifCond .eq 115, 3) := by decide +kernel
theorem dL_law_1418 : decode cL_law 1418 = .ok (.iconst 0, 1) := by decide +kernel
theorem dL_law_1419 : decode cL_law 1419 = .ok (.ireturn, 1) := by decide +kernel
theorem dL_law_1420 : decode cL_law 1420 = .ok (.aload_n 1, 1) := by decide +kernel
theorem dL_law_1421 : decode cL_law 1421 = .ok (.aload_n 0, 1) := by decide +kernel
theorem dL_law_1422 : decode cL_law 1422 = .ok (.iload 4, 2) := by decide +kernel
theorem dL_law_1424 : decode cL_law 1424 = .ok (.iconst 1, 1) := by decide +kernel
theorem dL_law_1425 : decode cL_law 1425 = .ok (.iadd, 1) := by decide +kernel
theorem dL_law_1426 : decode cL_law 1426 = .ok (.iaload, 1) := by decide +kernel
theorem dL_law_1427 : decode cL_law 1427 = .ok (.aload_n 3, 1) := by decide +kernel
theorem dL_law_1428 : decode cL_law 1428 = .ok (.invokestatic 172, 3) := by decide +kernel
theorem dL_law_1431 : decode cL_law 1431 = .ok (.istore 5, 2) := by decide +kernel
theorem dL_law_1433 : decode cL_law 1433 = .ok (.aload_n 2, 1) := by decide +kernel
theorem dL_law_1434 : decode cL_law 1434 = .ok (.aload_n 0, 1) := by decide +kernel
theorem dL_law_1435 : decode cL_law 1435 = .ok (.iload 4, 2) := by decide +kernel
theorem dL_law_1437 : decode cL_law 1437 = .ok (.iconst 1, 1) := by decide +kernel
theorem dL_law_1438 : decode cL_law 1438 = .ok (.iadd, 1) := by decide +kernel
theorem dL_law_1439 : decode cL_law 1439 = .ok (.iaload, 1) := by decide +kernel
theorem dL_law_1440 : decode cL_law 1440 = .ok (.invokevirtual 174, 3) := by decide +kernel
theorem dL_law_1443 : decode cL_law 1443 = .ok (.lstore 6, 2) := by decide +kernel
theorem dL_law_1445 : decode cL_law 1445 = .ok (.aload_n 2, 1) := by decide +kernel
theorem dL_law_1446 : decode cL_law 1446 = .ok (.invokevirtual 96, 3) := by decide +kernel
theorem dL_law_1449 : decode cL_law 1449 = .ok (.iload 5, 2) := by decide +kernel
theorem dL_law_1451 : decode cL_law 1451 = .ok (.if_icmp .eq 5, 3) := by decide +kernel
theorem dL_law_1454 : decode cL_law 1454 = .ok (.iconst 0, 1) := by decide +kernel
theorem dL_law_1455 : decode cL_law 1455 = .ok (.ireturn, 1) := by decide +kernel
theorem dL_law_1456 : decode cL_law 1456 = .ok (.iload 5, 2) := by decide +kernel
theorem dL_law_1458 : decode cL_law 1458 = .ok (.ifCond .ne 14, 3) := by decide +kernel
theorem dL_law_1461 : decode cL_law 1461 = .ok (.aload_n 3, 1) := by decide +kernel
theorem dL_law_1462 : decode cL_law 1462 = .ok (.iconst 0, 1) := by decide +kernel
theorem dL_law_1463 : decode cL_law 1463 = .ok (.laload, 1) := by decide +kernel
theorem dL_law_1464 : decode cL_law 1464 = .ok (.lload 6, 2) := by decide +kernel
theorem dL_law_1466 : decode cL_law 1466 = .ok (.lcmp, 1) := by decide +kernel
theorem dL_law_1467 : decode cL_law 1467 = .ok (.ifCond .eq 5, 3) := by decide +kernel
theorem dL_law_1470 : decode cL_law 1470 = .ok (.iconst 0, 1) := by decide +kernel
theorem dL_law_1471 : decode cL_law 1471 = .ok (.ireturn, 1) := by decide +kernel
theorem dL_law_1472 : decode cL_law 1472 = .ok (.goto 58, 3) := by decide +kernel
theorem dL_law_1475 : decode cL_law 1475 = .ok (.aload_n 1, 1) := by decide +kernel
theorem dL_law_1476 : decode cL_law 1476 = .ok (.aload_n 0, 1) := by decide +kernel
theorem dL_law_1477 : decode cL_law 1477 = .ok (.iload 4, 2) := by decide +kernel
theorem dL_law_1479 : decode cL_law 1479 = .ok (.iconst 1, 1) := by decide +kernel
theorem dL_law_1480 : decode cL_law 1480 = .ok (.iadd, 1) := by decide +kernel
theorem dL_law_1481 : decode cL_law 1481 = .ok (.iaload, 1) := by decide +kernel
theorem dL_law_1482 : decode cL_law 1482 = .ok (.aload_n 3, 1) := by decide +kernel
theorem dL_law_1483 : decode cL_law 1483 = .ok (.invokestatic 175, 3) := by decide +kernel
theorem dL_law_1486 : decode cL_law 1486 = .ok (.istore 5, 2) := by decide +kernel
theorem dL_law_1488 : decode cL_law 1488 = .ok (.aload_n 2, 1) := by decide +kernel
theorem dL_law_1489 : decode cL_law 1489 = .ok (.aload_n 0, 1) := by decide +kernel
theorem dL_law_1490 : decode cL_law 1490 = .ok (.iload 4, 2) := by decide +kernel
theorem dL_law_1492 : decode cL_law 1492 = .ok (.iconst 1, 1) := by decide +kernel
theorem dL_law_1493 : decode cL_law 1493 = .ok (.iadd, 1) := by decide +kernel
theorem dL_law_1494 : decode cL_law 1494 = .ok (.iaload, 1) := by decide +kernel
theorem dL_law_1495 : decode cL_law 1495 = .ok (.invokevirtual 177, 3) := by decide +kernel
theorem dL_law_1498 : decode cL_law 1498 = .ok (.lstore 6, 2) := by decide +kernel
theorem dL_law_1500 : decode cL_law 1500 = .ok (.aload_n 2, 1) := by decide +kernel
theorem dL_law_1501 : decode cL_law 1501 = .ok (.invokevirtual 96, 3) := by decide +kernel
theorem dL_law_1504 : decode cL_law 1504 = .ok (.iload 5, 2) := by decide +kernel
theorem dL_law_1506 : decode cL_law 1506 = .ok (.if_icmp .eq 5, 3) := by decide +kernel
theorem dL_law_1509 : decode cL_law 1509 = .ok (.iconst 0, 1) := by decide +kernel
theorem dL_law_1510 : decode cL_law 1510 = .ok (.ireturn, 1) := by decide +kernel
theorem dL_law_1511 : decode cL_law 1511 = .ok (.iload 5, 2) := by decide +kernel
theorem dL_law_1513 : decode cL_law 1513 = .ok (.ifCond .ne 14, 3) := by decide +kernel
theorem dL_law_1516 : decode cL_law 1516 = .ok (.aload_n 3, 1) := by decide +kernel
theorem dL_law_1517 : decode cL_law 1517 = .ok (.iconst 0, 1) := by decide +kernel
theorem dL_law_1518 : decode cL_law 1518 = .ok (.laload, 1) := by decide +kernel
theorem dL_law_1519 : decode cL_law 1519 = .ok (.lload 6, 2) := by decide +kernel
theorem dL_law_1521 : decode cL_law 1521 = .ok (.lcmp, 1) := by decide +kernel
theorem dL_law_1522 : decode cL_law 1522 = .ok (.ifCond .eq 5, 3) := by decide +kernel
theorem dL_law_1525 : decode cL_law 1525 = .ok (.iconst 0, 1) := by decide +kernel
theorem dL_law_1526 : decode cL_law 1526 = .ok (.ireturn, 1) := by decide +kernel
theorem dL_law_1527 : decode cL_law 1527 = .ok (.goto 3, 3) := by decide +kernel
theorem dL_law_1530 : decode cL_law 1530 = .ok (.iinc 4 5, 3) := by decide +kernel
theorem dL_law_1533 : decode cL_law 1533 = .ok (.goto (-1510), 3) := by decide +kernel
theorem dL_law_1536 : decode cL_law 1536 = .ok (.iconst 1, 1) := by decide +kernel
theorem dL_law_1537 : decode cL_law 1537 = .ok (.ireturn, 1) := by decide +kernel
abbrev vwCl : List vw_C := [(RJx4a65c, TJx4a65c, 3), (RX0, TX0, 10), (RX1, TX1, 1), (RX2, TX2, 6), (RX3, TX3, 8), (RX4, TX4, 26)]
end
section
theorem hU_0 : (Jvm.Cond.selects "Strikehall$Contract" ({ cls := "Strikehall$Contract", name := "hasQuote", desc := "()Z" } : Jvm.MethodName) ({ cls := "Strikehall$Contract", name := "hasQuote", desc := "()Z" } : Jvm.MethodName)) ∈ lw_U := lw_inU 0 (by decide +kernel) (by decide +kernel)
theorem hU_1 : (Jvm.Cond.selects "Strikehall$Contract" ({ cls := "Strikehall$Contract", name := "takeQuoteAway", desc := "()V" } : Jvm.MethodName) ({ cls := "Strikehall$Contract", name := "takeQuoteAway", desc := "()V" } : Jvm.MethodName)) ∈ lw_U := lw_inU 1 (by decide +kernel) (by decide +kernel)
theorem hU_2 : (Jvm.Cond.selects "Strikehall$Contract" ({ cls := "Strikehall$Contract", name := "tellQuote", desc := "(III)V" } : Jvm.MethodName) ({ cls := "Strikehall$Contract", name := "tellQuote", desc := "(III)V" } : Jvm.MethodName)) ∈ lw_U := lw_inU 2 (by decide +kernel) (by decide +kernel)
theorem hU_3 : (Jvm.Cond.selects "Strikehall$Contract" ({ cls := "Strikehall$Contract", name := "dropUsedUp", desc := "()V" } : Jvm.MethodName) ({ cls := "Strikehall$Contract", name := "dropUsedUp", desc := "()V" } : Jvm.MethodName)) ∈ lw_U := lw_inU 3 (by decide +kernel) (by decide +kernel)
theorem hU_4 : (Jvm.Cond.selects "Strikehall" ({ cls := "Strikehall", name := "firstFault", desc := "()I" } : Jvm.MethodName) ({ cls := "Strikehall", name := "firstFault", desc := "()I" } : Jvm.MethodName)) ∈ lw_U := lw_inU 4 (by decide +kernel) (by decide +kernel)
theorem hU_5 : (Jvm.Cond.selects "Strikehall" ({ cls := "Strikehall", name := "hasCrossedQuote", desc := "()Z" } : Jvm.MethodName) ({ cls := "Strikehall", name := "hasCrossedQuote", desc := "()Z" } : Jvm.MethodName)) ∈ lw_U := lw_inU 5 (by decide +kernel) (by decide +kernel)
theorem hU_6 : (Jvm.Cond.selects "Strikehall$Contract" ({ cls := "Strikehall$Contract", name := "isQuotedBoth", desc := "()Z" } : Jvm.MethodName) ({ cls := "Strikehall$Contract", name := "isQuotedBoth", desc := "()Z" } : Jvm.MethodName)) ∈ lw_U := lw_inU 6 (by decide +kernel) (by decide +kernel)
theorem hU_7 : (Jvm.Cond.selects "Strikehall" ({ cls := "Strikehall", name := "hasStrikesFault", desc := "()Z" } : Jvm.MethodName) ({ cls := "Strikehall", name := "hasStrikesFault", desc := "()Z" } : Jvm.MethodName)) ∈ lw_U := lw_inU 7 (by decide +kernel) (by decide +kernel)
theorem hU_8 : (Jvm.Cond.selects "Strikehall" ({ cls := "Strikehall", name := "hasMiddleFault", desc := "()Z" } : Jvm.MethodName) ({ cls := "Strikehall", name := "hasMiddleFault", desc := "()Z" } : Jvm.MethodName)) ∈ lw_U := lw_inU 8 (by decide +kernel) (by decide +kernel)
theorem hU_9 : (Jvm.Cond.selects "Strikehall" ({ cls := "Strikehall", name := "hasMiddleFaultWith", desc := "(LStrikehall$Contract;LStrikehall$Contract;)Z" } : Jvm.MethodName) ({ cls := "Strikehall", name := "hasMiddleFaultWith", desc := "(LStrikehall$Contract;LStrikehall$Contract;)Z" } : Jvm.MethodName)) ∈ lw_U := lw_inU 9 (by decide +kernel) (by decide +kernel)
theorem hU_10 : (Jvm.Cond.selects "Strikehall" ({ cls := "Strikehall", name := "hasExpiriesFault", desc := "()Z" } : Jvm.MethodName) ({ cls := "Strikehall", name := "hasExpiriesFault", desc := "()Z" } : Jvm.MethodName)) ∈ lw_U := lw_inU 10 (by decide +kernel) (by decide +kernel)
theorem hU_11 : (Jvm.Cond.selects "Strikehall" ({ cls := "Strikehall", name := "worthNow", desc := "()J" } : Jvm.MethodName) ({ cls := "Strikehall", name := "worthNow", desc := "()J" } : Jvm.MethodName)) ∈ lw_U := lw_inU 11 (by decide +kernel) (by decide +kernel)
theorem hU_12 : (Jvm.Cond.selects "Strikehall" ({ cls := "Strikehall", name := "worthAt", desc := "(I)J" } : Jvm.MethodName) ({ cls := "Strikehall", name := "worthAt", desc := "(I)J" } : Jvm.MethodName)) ∈ lw_U := lw_inU 12 (by decide +kernel) (by decide +kernel)
theorem hU_13 : (Jvm.Cond.selects "Strikehall" ({ cls := "Strikehall", name := "moneyAt", desc := "(I)J" } : Jvm.MethodName) ({ cls := "Strikehall", name := "moneyAt", desc := "(I)J" } : Jvm.MethodName)) ∈ lw_U := lw_inU 13 (by decide +kernel) (by decide +kernel)
theorem hU_14 : (Jvm.Cond.selects "Strikehall$Contract" ({ cls := "Strikehall$Contract", name := "lotsAt", desc := "(I)I" } : Jvm.MethodName) ({ cls := "Strikehall$Contract", name := "lotsAt", desc := "(I)I" } : Jvm.MethodName)) ∈ lw_U := lw_inU 14 (by decide +kernel) (by decide +kernel)
theorem hU_15 : (Jvm.Cond.selects "Strikehall$Share" ({ cls := "Strikehall$Share", name := "markAt", desc := "(LStrikehall$Contract;I)I" } : Jvm.MethodName) ({ cls := "Strikehall$Share", name := "markAt", desc := "(LStrikehall$Contract;I)I" } : Jvm.MethodName)) ∈ lw_U := lw_inU 15 (by decide +kernel) (by decide +kernel)
theorem hU_16 : (Jvm.Cond.selects "Strikehall$Share" ({ cls := "Strikehall$Share", name := "numberAt", desc := "(LStrikehall$Contract;I)J" } : Jvm.MethodName) ({ cls := "Strikehall$Share", name := "numberAt", desc := "(LStrikehall$Contract;I)J" } : Jvm.MethodName)) ∈ lw_U := lw_inU 16 (by decide +kernel) (by decide +kernel)
theorem hU_17 : (Jvm.Cond.selects "Strikehall$Share" ({ cls := "Strikehall$Share", name := "lowestAfter", desc := "(II)I" } : Jvm.MethodName) ({ cls := "Strikehall$Share", name := "lowestAfter", desc := "(II)I" } : Jvm.MethodName)) ∈ lw_U := lw_inU 17 (by decide +kernel) (by decide +kernel)
theorem hU_18 : (Jvm.Cond.selects "Strikehall$Share" ({ cls := "Strikehall$Share", name := "dividendOn", desc := "(I)I" } : Jvm.MethodName) ({ cls := "Strikehall$Share", name := "dividendOn", desc := "(I)I" } : Jvm.MethodName)) ∈ lw_U := lw_inU 18 (by decide +kernel) (by decide +kernel)
theorem hU_19 : (Jvm.Cond.selects "Strikehall$Contract" ({ cls := "Strikehall$Contract", name := "paysAt", desc := "(I)I" } : Jvm.MethodName) ({ cls := "Strikehall$Contract", name := "paysAt", desc := "(I)I" } : Jvm.MethodName)) ∈ lw_U := lw_inU 19 (by decide +kernel) (by decide +kernel)
theorem hU_20 : (Jvm.Cond.selects "Strikehall$Share" ({ cls := "Strikehall$Share", name := "belowOf", desc := "(LStrikehall$Contract;)J" } : Jvm.MethodName) ({ cls := "Strikehall$Share", name := "belowOf", desc := "(LStrikehall$Contract;)J" } : Jvm.MethodName)) ∈ lw_U := lw_inU 20 (by decide +kernel) (by decide +kernel)
theorem hU_21 : (Jvm.Cond.selects "java/lang/Throwable" ({ cls := "java/lang/Throwable", name := "fillInStackTrace", desc := "(I)Ljava/lang/Throwable;" } : Jvm.MethodName) ({ cls := "java/lang/Throwable", name := "fillInStackTrace", desc := "(I)Ljava/lang/Throwable;" } : Jvm.MethodName)) ∈ lw_U := lw_inU 21 (by decide +kernel) (by decide +kernel)
theorem hU_22 : (Jvm.Cond.selects "Strikehall" ({ cls := "Strikehall", name := "addProfit", desc := "(IJ)V" } : Jvm.MethodName) ({ cls := "Strikehall", name := "addProfit", desc := "(IJ)V" } : Jvm.MethodName)) ∈ lw_U := lw_inU 22 (by decide +kernel) (by decide +kernel)
theorem hU_23 : (Jvm.Cond.selects "Strikehall$Share" ({ cls := "Strikehall$Share", name := "tellDividend", desc := "(II)V" } : Jvm.MethodName) ({ cls := "Strikehall$Share", name := "tellDividend", desc := "(II)V" } : Jvm.MethodName)) ∈ lw_U := lw_inU 23 (by decide +kernel) (by decide +kernel)
theorem hU_24 : (Jvm.Cond.selects "java/util/ArrayList" ({ cls := "java/util/ArrayList", name := "add", desc := "(Ljava/lang/Object;[Ljava/lang/Object;I)V" } : Jvm.MethodName) ({ cls := "java/util/ArrayList", name := "add", desc := "(Ljava/lang/Object;[Ljava/lang/Object;I)V" } : Jvm.MethodName)) ∈ lw_U := lw_inU 24 (by decide +kernel) (by decide +kernel)
theorem hU_25 : (Jvm.Cond.selects "java/util/ArrayList" ({ cls := "java/util/ArrayList", name := "grow", desc := "()[Ljava/lang/Object;" } : Jvm.MethodName) ({ cls := "java/util/ArrayList", name := "grow", desc := "()[Ljava/lang/Object;" } : Jvm.MethodName)) ∈ lw_U := lw_inU 25 (by decide +kernel) (by decide +kernel)
theorem hU_26 : (Jvm.Cond.selects "java/util/ArrayList" ({ cls := "java/util/ArrayList", name := "grow", desc := "(I)[Ljava/lang/Object;" } : Jvm.MethodName) ({ cls := "java/util/ArrayList", name := "grow", desc := "(I)[Ljava/lang/Object;" } : Jvm.MethodName)) ∈ lw_U := lw_inU 26 (by decide +kernel) (by decide +kernel)
theorem hU_27 : (Jvm.Cond.selects "Strikehall" ({ cls := "Strikehall", name := "contractOf", desc := "(I)LStrikehall$Contract;" } : Jvm.MethodName) ({ cls := "Strikehall", name := "contractOf", desc := "(I)LStrikehall$Contract;" } : Jvm.MethodName)) ∈ lw_U := lw_inU 27 (by decide +kernel) (by decide +kernel)
theorem hU_28 : (Jvm.Cond.selects "Strikehall" ({ cls := "Strikehall", name := "checkNotOver", desc := "(LStrikehall$Contract;)V" } : Jvm.MethodName) ({ cls := "Strikehall", name := "checkNotOver", desc := "(LStrikehall$Contract;)V" } : Jvm.MethodName)) ∈ lw_U := lw_inU 28 (by decide +kernel) (by decide +kernel)
theorem hU_29 : (Jvm.Cond.selects "Strikehall" ({ cls := "Strikehall", name := "buy", desc := "(ILStrikehall$Contract;II)I" } : Jvm.MethodName) ({ cls := "Strikehall", name := "buy", desc := "(ILStrikehall$Contract;II)I" } : Jvm.MethodName)) ∈ lw_U := lw_inU 29 (by decide +kernel) (by decide +kernel)
theorem hU_30 : (Jvm.Cond.selects "Strikehall" ({ cls := "Strikehall", name := "deal", desc := "(ILStrikehall$Contract;II)V" } : Jvm.MethodName) ({ cls := "Strikehall", name := "deal", desc := "(ILStrikehall$Contract;II)V" } : Jvm.MethodName)) ∈ lw_U := lw_inU 30 (by decide +kernel) (by decide +kernel)
theorem hU_31 : (Jvm.Cond.selects "Strikehall$Contract" ({ cls := "Strikehall$Contract", name := "addLots", desc := "(II)V" } : Jvm.MethodName) ({ cls := "Strikehall$Contract", name := "addLots", desc := "(II)V" } : Jvm.MethodName)) ∈ lw_U := lw_inU 31 (by decide +kernel) (by decide +kernel)
theorem hU_32 : (Jvm.Cond.selects "Strikehall" ({ cls := "Strikehall", name := "addMoney", desc := "(IJ)V" } : Jvm.MethodName) ({ cls := "Strikehall", name := "addMoney", desc := "(IJ)V" } : Jvm.MethodName)) ∈ lw_U := lw_inU 32 (by decide +kernel) (by decide +kernel)
theorem hU_33 : (Jvm.Cond.selects "Strikehall$Contract" ({ cls := "Strikehall$Contract", name := "useQuote", desc := "(II)V" } : Jvm.MethodName) ({ cls := "Strikehall$Contract", name := "useQuote", desc := "(II)V" } : Jvm.MethodName)) ∈ lw_U := lw_inU 33 (by decide +kernel) (by decide +kernel)
theorem hU_34 : (Jvm.Cond.selects "Strikehall" ({ cls := "Strikehall", name := "sell", desc := "(ILStrikehall$Contract;II)I" } : Jvm.MethodName) ({ cls := "Strikehall", name := "sell", desc := "(ILStrikehall$Contract;II)I" } : Jvm.MethodName)) ∈ lw_U := lw_inU 34 (by decide +kernel) (by decide +kernel)
theorem hU_35 : (Jvm.Cond.selects "Strikehall" ({ cls := "Strikehall", name := "exerciseLots", desc := "(ILStrikehall$Contract;I)V" } : Jvm.MethodName) ({ cls := "Strikehall", name := "exerciseLots", desc := "(ILStrikehall$Contract;I)V" } : Jvm.MethodName)) ∈ lw_U := lw_inU 35 (by decide +kernel) (by decide +kernel)
theorem hU_36 : (Jvm.Cond.selects "Strikehall$Contract" ({ cls := "Strikehall$Contract", name := "owed", desc := "()I" } : Jvm.MethodName) ({ cls := "Strikehall$Contract", name := "owed", desc := "()I" } : Jvm.MethodName)) ∈ lw_U := lw_inU 36 (by decide +kernel) (by decide +kernel)
theorem hU_37 : (Jvm.Cond.selects "Strikehall$Lottery" ({ cls := "Strikehall$Lottery", name := "drawOf", desc := "(I)I" } : Jvm.MethodName) ({ cls := "Strikehall$Lottery", name := "drawOf", desc := "(I)I" } : Jvm.MethodName)) ∈ lw_U := lw_inU 37 (by decide +kernel) (by decide +kernel)
theorem hU_38 : (Jvm.Cond.selects "Strikehall$Contract" ({ cls := "Strikehall$Contract", name := "owerOf", desc := "(I)I" } : Jvm.MethodName) ({ cls := "Strikehall$Contract", name := "owerOf", desc := "(I)I" } : Jvm.MethodName)) ∈ lw_U := lw_inU 38 (by decide +kernel) (by decide +kernel)
theorem hU_39 : (Jvm.Cond.selects "Strikehall$Contract" ({ cls := "Strikehall$Contract", name := "setNotice", desc := "(IZ)Z" } : Jvm.MethodName) ({ cls := "Strikehall$Contract", name := "setNotice", desc := "(IZ)Z" } : Jvm.MethodName)) ∈ lw_U := lw_inU 39 (by decide +kernel) (by decide +kernel)
theorem hU_40 : (Jvm.Cond.selects "Strikehall" ({ cls := "Strikehall", name := "expire", desc := "(LStrikehall$Contract;)V" } : Jvm.MethodName) ({ cls := "Strikehall", name := "expire", desc := "(LStrikehall$Contract;)V" } : Jvm.MethodName)) ∈ lw_U := lw_inU 40 (by decide +kernel) (by decide +kernel)
theorem hU_41 : (Jvm.Cond.selects "Strikehall$Contract" ({ cls := "Strikehall$Contract", name := "hasNotice", desc := "(I)Z" } : Jvm.MethodName) ({ cls := "Strikehall$Contract", name := "hasNotice", desc := "(I)Z" } : Jvm.MethodName)) ∈ lw_U := lw_inU 41 (by decide +kernel) (by decide +kernel)
theorem hU_42 : (Jvm.Cond.selects "Strikehall$Contract" ({ cls := "Strikehall$Contract", name := "dropLots", desc := "()V" } : Jvm.MethodName) ({ cls := "Strikehall$Contract", name := "dropLots", desc := "()V" } : Jvm.MethodName)) ∈ lw_U := lw_inU 42 (by decide +kernel) (by decide +kernel)
theorem hU_43 : (Jvm.Cond.selects "StrikehallModel" ({ cls := "StrikehallModel", name := "worthAt", desc := "(I)J" } : Jvm.MethodName) ({ cls := "StrikehallModel", name := "worthAt", desc := "(I)J" } : Jvm.MethodName)) ∈ lw_U := lw_inU 43 (by decide +kernel) (by decide +kernel)
theorem hU_44 : (Jvm.Cond.selects "StrikehallModel" ({ cls := "StrikehallModel", name := "markAt", desc := "(II)J" } : Jvm.MethodName) ({ cls := "StrikehallModel", name := "markAt", desc := "(II)J" } : Jvm.MethodName)) ∈ lw_U := lw_inU 44 (by decide +kernel) (by decide +kernel)
theorem hU_45 : (Jvm.Cond.selects "StrikehallModel" ({ cls := "StrikehallModel", name := "finds", desc := "(II)V" } : Jvm.MethodName) ({ cls := "StrikehallModel", name := "finds", desc := "(II)V" } : Jvm.MethodName)) ∈ lw_U := lw_inU 45 (by decide +kernel) (by decide +kernel)
theorem hU_46 : (Jvm.Cond.selects "StrikehallModel" ({ cls := "StrikehallModel", name := "priceOf", desc := "(III)J" } : Jvm.MethodName) ({ cls := "StrikehallModel", name := "priceOf", desc := "(III)J" } : Jvm.MethodName)) ∈ lw_U := lw_inU 46 (by decide +kernel) (by decide +kernel)
theorem hU_47 : (Jvm.Cond.selects "StrikehallModel" ({ cls := "StrikehallModel", name := "pays", desc := "(IJ)J" } : Jvm.MethodName) ({ cls := "StrikehallModel", name := "pays", desc := "(IJ)J" } : Jvm.MethodName)) ∈ lw_U := lw_inU 47 (by decide +kernel) (by decide +kernel)
theorem hU_48 : (Jvm.Cond.selects "StrikehallModel" ({ cls := "StrikehallModel", name := "isContract", desc := "(I)Z" } : Jvm.MethodName) ({ cls := "StrikehallModel", name := "isContract", desc := "(I)Z" } : Jvm.MethodName)) ∈ lw_U := lw_inU 48 (by decide +kernel) (by decide +kernel)
theorem hU_49 : (Jvm.Cond.selects "StrikehallModel" ({ cls := "StrikehallModel", name := "firstFault", desc := "()I" } : Jvm.MethodName) ({ cls := "StrikehallModel", name := "firstFault", desc := "()I" } : Jvm.MethodName)) ∈ lw_U := lw_inU 49 (by decide +kernel) (by decide +kernel)
theorem hU_50 : (Jvm.Cond.selects "StrikehallModel" ({ cls := "StrikehallModel", name := "hasBoth", desc := "(I)Z" } : Jvm.MethodName) ({ cls := "StrikehallModel", name := "hasBoth", desc := "(I)Z" } : Jvm.MethodName)) ∈ lw_U := lw_inU 50 (by decide +kernel) (by decide +kernel)
theorem hU_51 : (Jvm.Cond.selects "StrikehallModel" ({ cls := "StrikehallModel", name := "faultOf", desc := "(II)I" } : Jvm.MethodName) ({ cls := "StrikehallModel", name := "faultOf", desc := "(II)I" } : Jvm.MethodName)) ∈ lw_U := lw_inU 51 (by decide +kernel) (by decide +kernel)
theorem hU_52 : (Jvm.Cond.selects "StrikehallModel" ({ cls := "StrikehallModel", name := "isAlike", desc := "(IIZ)Z" } : Jvm.MethodName) ({ cls := "StrikehallModel", name := "isAlike", desc := "(IIZ)Z" } : Jvm.MethodName)) ∈ lw_U := lw_inU 52 (by decide +kernel) (by decide +kernel)
theorem hU_53 : (Jvm.Cond.selects "StrikehallModel" ({ cls := "StrikehallModel", name := "isMiddle", desc := "(II)Z" } : Jvm.MethodName) ({ cls := "StrikehallModel", name := "isMiddle", desc := "(II)Z" } : Jvm.MethodName)) ∈ lw_U := lw_inU 53 (by decide +kernel) (by decide +kernel)
theorem hU_54 : (Jvm.Cond.selects "StrikehallModel" ({ cls := "StrikehallModel", name := "hasQuote", desc := "(I)Z" } : Jvm.MethodName) ({ cls := "StrikehallModel", name := "hasQuote", desc := "(I)Z" } : Jvm.MethodName)) ∈ lw_U := lw_inU 54 (by decide +kernel) (by decide +kernel)
theorem hU_55 : (Jvm.Cond.selects "StrikehallModel" ({ cls := "StrikehallModel", name := "deals", desc := "(IIII)V" } : Jvm.MethodName) ({ cls := "StrikehallModel", name := "deals", desc := "(IIII)V" } : Jvm.MethodName)) ∈ lw_U := lw_inU 55 (by decide +kernel) (by decide +kernel)
theorem hU_56 : (Jvm.Cond.selects "StrikehallModel" ({ cls := "StrikehallModel", name := "exercisesOne", desc := "(IIJ)V" } : Jvm.MethodName) ({ cls := "StrikehallModel", name := "exercisesOne", desc := "(IIJ)V" } : Jvm.MethodName)) ∈ lw_U := lw_inU 56 (by decide +kernel) (by decide +kernel)
theorem hU_57 : (Jvm.Cond.selects "StrikehallModel" ({ cls := "StrikehallModel", name := "owed", desc := "(I)I" } : Jvm.MethodName) ({ cls := "StrikehallModel", name := "owed", desc := "(I)I" } : Jvm.MethodName)) ∈ lw_U := lw_inU 57 (by decide +kernel) (by decide +kernel)
theorem hU_58 : (Jvm.Cond.selects "StrikehallModel" ({ cls := "StrikehallModel", name := "draw", desc := "(I)I" } : Jvm.MethodName) ({ cls := "StrikehallModel", name := "draw", desc := "(I)I" } : Jvm.MethodName)) ∈ lw_U := lw_inU 58 (by decide +kernel) (by decide +kernel)
theorem hU_59 : (Jvm.Cond.selects "StrikehallModel" ({ cls := "StrikehallModel", name := "expires", desc := "(I)V" } : Jvm.MethodName) ({ cls := "StrikehallModel", name := "expires", desc := "(I)V" } : Jvm.MethodName)) ∈ lw_U := lw_inU 59 (by decide +kernel) (by decide +kernel)
theorem hU_60 : (Jvm.Cond.initialized "StrikehallLaw") ∈ lw_U := lw_inU 60 (by decide +kernel) (by decide +kernel)
theorem hU_61 : (Jvm.Cond.initialized "Strikehall") ∈ lw_U := lw_inU 61 (by decide +kernel) (by decide +kernel)
theorem hU_62 : (Jvm.Cond.initialized "Strikehall$Share") ∈ lw_U := lw_inU 62 (by decide +kernel) (by decide +kernel)
theorem hU_63 : (Jvm.Cond.initialized "Strikehall$Lottery") ∈ lw_U := lw_inU 63 (by decide +kernel) (by decide +kernel)
theorem hU_64 : (Jvm.Cond.initialized "java/util/AbstractCollection") ∈ lw_U := lw_inU 64 (by decide +kernel) (by decide +kernel)
theorem hU_65 : (Jvm.Cond.initialized "java/util/AbstractList") ∈ lw_U := lw_inU 65 (by decide +kernel) (by decide +kernel)
theorem hU_66 : (Jvm.Cond.initialized "java/util/ArrayList") ∈ lw_U := lw_inU 66 (by decide +kernel) (by decide +kernel)
theorem hU_67 : (Jvm.Cond.initialized "StrikehallModel") ∈ lw_U := lw_inU 67 (by decide +kernel) (by decide +kernel)
theorem hU_68 : (Jvm.Cond.initialized "java/lang/Throwable") ∈ lw_U := lw_inU 68 (by decide +kernel) (by decide +kernel)
theorem hU_69 : (Jvm.Cond.initialized "java/lang/Exception") ∈ lw_U := lw_inU 69 (by decide +kernel) (by decide +kernel)
theorem hU_70 : (Jvm.Cond.initialized "java/lang/RuntimeException") ∈ lw_U := lw_inU 70 (by decide +kernel) (by decide +kernel)
theorem hU_71 : (Jvm.Cond.initialized "java/lang/IllegalArgumentException") ∈ lw_U := lw_inU 71 (by decide +kernel) (by decide +kernel)
theorem hU_72 : (Jvm.Cond.initialized "java/util/Objects") ∈ lw_U := lw_inU 72 (by decide +kernel) (by decide +kernel)
theorem hU_73 : (Jvm.Cond.initialized "jdk/internal/util/Preconditions") ∈ lw_U := lw_inU 73 (by decide +kernel) (by decide +kernel)
theorem hU_74 : (Jvm.Cond.initialized "java/lang/Math") ∈ lw_U := lw_inU 74 (by decide +kernel) (by decide +kernel)
theorem hU_75 : (Jvm.Cond.initialized "java/lang/IllegalStateException") ∈ lw_U := lw_inU 75 (by decide +kernel) (by decide +kernel)
theorem hU_76 : (Jvm.Cond.initialized "Strikehall$Contract") ∈ lw_U := lw_inU 76 (by decide +kernel) (by decide +kernel)
theorem hU_77 : (Jvm.Cond.initialized "jdk/internal/util/ArraysSupport") ∈ lw_U := lw_inU 77 (by decide +kernel) (by decide +kernel)
theorem hU_78 : (Jvm.Cond.initialized "java/util/Arrays") ∈ lw_U := lw_inU 78 (by decide +kernel) (by decide +kernel)
theorem hU_79 : (Jvm.Cond.initialized "java/lang/System") ∈ lw_U := lw_inU 79 (by decide +kernel) (by decide +kernel)
theorem hU_80 : (Jvm.Cond.initialized "java/lang/IndexOutOfBoundsException") ∈ lw_U := lw_inU 80 (by decide +kernel) (by decide +kernel)
theorem hU_81 : (Jvm.Cond.classLink "StrikehallLaw" (8 : Nat) "Strikehall") ∈ lw_U := lw_inU 81 (by decide +kernel) (by decide +kernel)
theorem hU_82 : (Jvm.Cond.instantiable "Strikehall" (8 : Nat)) ∈ lw_U := lw_inU 82 (by decide +kernel) (by decide +kernel)
theorem hU_83 : (Jvm.Cond.methodLink "StrikehallLaw" (86 : Nat) ({ cls := "Strikehall", name := "<init>", desc := "()V" } : Jvm.MethodName)) ∈ lw_U := lw_inU 83 (by decide +kernel) (by decide +kernel)
theorem hU_84 : (Jvm.Cond.instanceMethod ({ cls := "Strikehall", name := "<init>", desc := "()V" } : Jvm.MethodName)) ∈ lw_U := lw_inU 84 (by decide +kernel) (by decide +kernel)
theorem hU_85 : (Jvm.Cond.code ({ cls := "Strikehall", name := "<init>", desc := "()V" } : Jvm.MethodName) prog_1_method_1_code (1 : Nat) (Option.none : Option Jvm.ClassFile.FieldType)) ∈ lw_U := lw_inU 85 (by decide +kernel) (by decide +kernel)
theorem hU_86 : (Jvm.Cond.methodLink "Strikehall" (3 : Nat) ({ cls := "java/lang/Object", name := "<init>", desc := "()V" } : Jvm.MethodName)) ∈ lw_U := lw_inU 86 (by decide +kernel) (by decide +kernel)
theorem hU_87 : (Jvm.Cond.instanceMethod ({ cls := "java/lang/Object", name := "<init>", desc := "()V" } : Jvm.MethodName)) ∈ lw_U := lw_inU 87 (by decide +kernel) (by decide +kernel)
theorem hU_88 : (Jvm.Cond.code ({ cls := "java/lang/Object", name := "<init>", desc := "()V" } : Jvm.MethodName) object_method_1_code (1 : Nat) (Option.none : Option Jvm.ClassFile.FieldType)) ∈ lw_U := lw_inU 88 (by decide +kernel) (by decide +kernel)
theorem hU_89 : (Jvm.Cond.classLink "Strikehall" (9 : Nat) "Strikehall$Share") ∈ lw_U := lw_inU 89 (by decide +kernel) (by decide +kernel)
theorem hU_90 : (Jvm.Cond.instantiable "Strikehall$Share" (6 : Nat)) ∈ lw_U := lw_inU 90 (by decide +kernel) (by decide +kernel)
theorem hU_92 : (Jvm.Cond.instanceMethod ({ cls := "Strikehall$Share", name := "<init>", desc := "()V" } : Jvm.MethodName)) ∈ lw_U := lw_inU 92 (by decide +kernel) (by decide +kernel)
theorem hU_93 : (Jvm.Cond.code ({ cls := "Strikehall$Share", name := "<init>", desc := "()V" } : Jvm.MethodName) prog_4_method_1_code (1 : Nat) (Option.none : Option Jvm.ClassFile.FieldType)) ∈ lw_U := lw_inU 93 (by decide +kernel) (by decide +kernel)
theorem hU_94 : (Jvm.Cond.methodLink "Strikehall$Share" (3 : Nat) ({ cls := "java/lang/Object", name := "<init>", desc := "()V" } : Jvm.MethodName)) ∈ lw_U := lw_inU 94 (by decide +kernel) (by decide +kernel)
theorem hU_95 : (Jvm.Cond.fieldLink "Strikehall$Share" (9 : Nat) "Strikehall$Share" "dividends" "[I") ∈ lw_U := lw_inU 95 (by decide +kernel) (by decide +kernel)
theorem hU_96 : (Jvm.Cond.fieldLink "Strikehall$Share" (15 : Nat) "Strikehall$Share" "row" "[J") ∈ lw_U := lw_inU 96 (by decide +kernel) (by decide +kernel)
theorem hU_97 : (Jvm.Cond.fieldLink "Strikehall$Share" (19 : Nat) "Strikehall$Share" "price" "I") ∈ lw_U := lw_inU 97 (by decide +kernel) (by decide +kernel)
theorem hU_99 : (Jvm.Cond.fieldLink "Strikehall$Share" (23 : Nat) "Strikehall$Share" "up" "I") ∈ lw_U := lw_inU 99 (by decide +kernel) (by decide +kernel)
theorem hU_101 : (Jvm.Cond.fieldLink "Strikehall$Share" (26 : Nat) "Strikehall$Share" "down" "I") ∈ lw_U := lw_inU 101 (by decide +kernel) (by decide +kernel)
theorem hU_103 : (Jvm.Cond.fieldLink "Strikehall$Share" (29 : Nat) "Strikehall$Share" "today" "I") ∈ lw_U := lw_inU 103 (by decide +kernel) (by decide +kernel)
theorem hU_117 : (Jvm.Cond.superclass "Strikehall$Share" "java/lang/Object") ∈ lw_U := lw_inU 117 (by decide +kernel) (by decide +kernel)
theorem hU_118 : (Jvm.Cond.arrayClass Jvm.ClassFile.FieldType.int) ∈ lw_U := lw_inU 118 (by decide +kernel) (by decide +kernel)
theorem hU_119 : (Jvm.Cond.arrayClass Jvm.ClassFile.FieldType.long) ∈ lw_U := lw_inU 119 (by decide +kernel) (by decide +kernel)
theorem hU_120 : (Jvm.Cond.classLink "Strikehall" (16 : Nat) "Strikehall$Lottery") ∈ lw_U := lw_inU 120 (by decide +kernel) (by decide +kernel)
theorem hU_121 : (Jvm.Cond.instantiable "Strikehall$Lottery" (1 : Nat)) ∈ lw_U := lw_inU 121 (by decide +kernel) (by decide +kernel)
theorem hU_123 : (Jvm.Cond.instanceMethod ({ cls := "Strikehall$Lottery", name := "<init>", desc := "()V" } : Jvm.MethodName)) ∈ lw_U := lw_inU 123 (by decide +kernel) (by decide +kernel)
theorem hU_124 : (Jvm.Cond.code ({ cls := "Strikehall$Lottery", name := "<init>", desc := "()V" } : Jvm.MethodName) prog_3_method_1_code (1 : Nat) (Option.none : Option Jvm.ClassFile.FieldType)) ∈ lw_U := lw_inU 124 (by decide +kernel) (by decide +kernel)
theorem hU_125 : (Jvm.Cond.methodLink "Strikehall$Lottery" (1 : Nat) ({ cls := "java/lang/Object", name := "<init>", desc := "()V" } : Jvm.MethodName)) ∈ lw_U := lw_inU 125 (by decide +kernel) (by decide +kernel)
theorem hU_126 : (Jvm.Cond.fieldLink "Strikehall$Lottery" (7 : Nat) "Strikehall$Lottery" "state" "J") ∈ lw_U := lw_inU 126 (by decide +kernel) (by decide +kernel)
theorem hU_130 : (Jvm.Cond.superclass "Strikehall$Lottery" "java/lang/Object") ∈ lw_U := lw_inU 130 (by decide +kernel) (by decide +kernel)
theorem hU_131 : (Jvm.Cond.classLink "Strikehall" (23 : Nat) "java/util/ArrayList") ∈ lw_U := lw_inU 131 (by decide +kernel) (by decide +kernel)
theorem hU_132 : (Jvm.Cond.instantiable "java/util/ArrayList" (3 : Nat)) ∈ lw_U := lw_inU 132 (by decide +kernel) (by decide +kernel)
theorem hU_133 : (Jvm.Cond.methodLink "Strikehall" (25 : Nat) ({ cls := "java/util/ArrayList", name := "<init>", desc := "()V" } : Jvm.MethodName)) ∈ lw_U := lw_inU 133 (by decide +kernel) (by decide +kernel)
theorem hU_134 : (Jvm.Cond.instanceMethod ({ cls := "java/util/ArrayList", name := "<init>", desc := "()V" } : Jvm.MethodName)) ∈ lw_U := lw_inU 134 (by decide +kernel) (by decide +kernel)
theorem hU_135 : (Jvm.Cond.code ({ cls := "java/util/ArrayList", name := "<init>", desc := "()V" } : Jvm.MethodName) prog_21_method_2_code (1 : Nat) (Option.none : Option Jvm.ClassFile.FieldType)) ∈ lw_U := lw_inU 135 (by decide +kernel) (by decide +kernel)
theorem hU_136 : (Jvm.Cond.methodLink "java/util/ArrayList" (1 : Nat) ({ cls := "java/util/AbstractList", name := "<init>", desc := "()V" } : Jvm.MethodName)) ∈ lw_U := lw_inU 136 (by decide +kernel) (by decide +kernel)
theorem hU_137 : (Jvm.Cond.instanceMethod ({ cls := "java/util/AbstractList", name := "<init>", desc := "()V" } : Jvm.MethodName)) ∈ lw_U := lw_inU 137 (by decide +kernel) (by decide +kernel)
theorem hU_138 : (Jvm.Cond.code ({ cls := "java/util/AbstractList", name := "<init>", desc := "()V" } : Jvm.MethodName) prog_20_method_1_code (1 : Nat) (Option.none : Option Jvm.ClassFile.FieldType)) ∈ lw_U := lw_inU 138 (by decide +kernel) (by decide +kernel)
theorem hU_139 : (Jvm.Cond.methodLink "java/util/AbstractList" (1 : Nat) ({ cls := "java/util/AbstractCollection", name := "<init>", desc := "()V" } : Jvm.MethodName)) ∈ lw_U := lw_inU 139 (by decide +kernel) (by decide +kernel)
theorem hU_140 : (Jvm.Cond.instanceMethod ({ cls := "java/util/AbstractCollection", name := "<init>", desc := "()V" } : Jvm.MethodName)) ∈ lw_U := lw_inU 140 (by decide +kernel) (by decide +kernel)
theorem hU_141 : (Jvm.Cond.code ({ cls := "java/util/AbstractCollection", name := "<init>", desc := "()V" } : Jvm.MethodName) prog_19_method_1_code (1 : Nat) (Option.none : Option Jvm.ClassFile.FieldType)) ∈ lw_U := lw_inU 141 (by decide +kernel) (by decide +kernel)
theorem hU_142 : (Jvm.Cond.methodLink "java/util/AbstractCollection" (1 : Nat) ({ cls := "java/lang/Object", name := "<init>", desc := "()V" } : Jvm.MethodName)) ∈ lw_U := lw_inU 142 (by decide +kernel) (by decide +kernel)
theorem hU_143 : (Jvm.Cond.fieldLink "java/util/ArrayList" (39 : Nat) "java/util/ArrayList" "DEFAULTCAPACITY_EMPTY_ELEMENTDATA" "[Ljava/lang/Object;") ∈ lw_U := lw_inU 143 (by decide +kernel) (by decide +kernel)
theorem hU_145 : (Jvm.Cond.fieldLink "java/util/ArrayList" (9 : Nat) "java/util/ArrayList" "elementData" "[Ljava/lang/Object;") ∈ lw_U := lw_inU 145 (by decide +kernel) (by decide +kernel)
theorem hU_146 : (Jvm.Cond.fieldLink "java/util/ArrayList" (48 : Nat) "java/util/ArrayList" "size" "I") ∈ lw_U := lw_inU 146 (by decide +kernel) (by decide +kernel)
theorem hU_147 : (Jvm.Cond.fieldLink "java/util/AbstractList" (7 : Nat) "java/util/AbstractList" "modCount" "I") ∈ lw_U := lw_inU 147 (by decide +kernel) (by decide +kernel)
theorem hU_148 : (Jvm.Cond.fieldLink "java/util/ArrayList" (63 : Nat) "java/util/ArrayList" "modCount" "I") ∈ lw_U := lw_inU 148 (by decide +kernel) (by decide +kernel)
theorem hU_149 : (Jvm.Cond.sameField "java/util/ArrayList" "java/util/AbstractList" "modCount" "I") ∈ lw_U := lw_inU 149 (by decide +kernel) (by decide +kernel)
theorem hU_156 : (Jvm.Cond.superclass "java/util/ArrayList" "java/util/AbstractList") ∈ lw_U := lw_inU 156 (by decide +kernel) (by decide +kernel)
theorem hU_157 : (Jvm.Cond.fieldLink "Strikehall" (12 : Nat) "Strikehall" "share" "LStrikehall$Share;") ∈ lw_U := lw_inU 157 (by decide +kernel) (by decide +kernel)
theorem hU_158 : (Jvm.Cond.fieldLink "Strikehall" (19 : Nat) "Strikehall" "lottery" "LStrikehall$Lottery;") ∈ lw_U := lw_inU 158 (by decide +kernel) (by decide +kernel)
theorem hU_159 : (Jvm.Cond.fieldLink "Strikehall" (26 : Nat) "Strikehall" "contracts" "Ljava/util/ArrayList;") ∈ lw_U := lw_inU 159 (by decide +kernel) (by decide +kernel)
theorem hU_160 : (Jvm.Cond.fieldLink "Strikehall" (30 : Nat) "Strikehall" "purses" "[J") ∈ lw_U := lw_inU 160 (by decide +kernel) (by decide +kernel)
theorem hU_161 : (Jvm.Cond.fieldLink "Strikehall" (34 : Nat) "Strikehall" "profits" "[J") ∈ lw_U := lw_inU 161 (by decide +kernel) (by decide +kernel)
theorem hU_162 : (Jvm.Cond.fieldLink "Strikehall" (37 : Nat) "Strikehall" "mostLots" "I") ∈ lw_U := lw_inU 162 (by decide +kernel) (by decide +kernel)
theorem hU_163 : (Jvm.Cond.fieldLink "Strikehall" (41 : Nat) "Strikehall" "heldShares" "I") ∈ lw_U := lw_inU 163 (by decide +kernel) (by decide +kernel)
theorem hU_164 : (Jvm.Cond.fieldLink "Strikehall" (44 : Nat) "Strikehall" "shareCost" "I") ∈ lw_U := lw_inU 164 (by decide +kernel) (by decide +kernel)
theorem hU_181 : (Jvm.Cond.superclass "Strikehall" "java/lang/Object") ∈ lw_U := lw_inU 181 (by decide +kernel) (by decide +kernel)
theorem hU_182 : (Jvm.Cond.methodLink "StrikehallLaw" (115 : Nat) ({ cls := "Strikehall", name := "kill", desc := "()I" } : Jvm.MethodName)) ∈ lw_U := lw_inU 182 (by decide +kernel) (by decide +kernel)
theorem hU_183 : (Jvm.Cond.instanceMethod ({ cls := "Strikehall", name := "kill", desc := "()I" } : Jvm.MethodName)) ∈ lw_U := lw_inU 183 (by decide +kernel) (by decide +kernel)
theorem hU_184 : (Jvm.Cond.selects "Strikehall" ({ cls := "Strikehall", name := "kill", desc := "()I" } : Jvm.MethodName) ({ cls := "Strikehall", name := "kill", desc := "()I" } : Jvm.MethodName)) ∈ lw_U := lw_inU 184 (by decide +kernel) (by decide +kernel)
theorem hU_185 : (Jvm.Cond.code ({ cls := "Strikehall", name := "kill", desc := "()I" } : Jvm.MethodName) prog_1_method_7_code (4 : Nat) (Option.some Jvm.ClassFile.FieldType.int)) ∈ lw_U := lw_inU 185 (by decide +kernel) (by decide +kernel)
theorem hU_186 : (Jvm.Cond.methodLink "Strikehall" (85 : Nat) ({ cls := "java/util/ArrayList", name := "size", desc := "()I" } : Jvm.MethodName)) ∈ lw_U := lw_inU 186 (by decide +kernel) (by decide +kernel)
theorem hU_187 : (Jvm.Cond.instanceMethod ({ cls := "java/util/ArrayList", name := "size", desc := "()I" } : Jvm.MethodName)) ∈ lw_U := lw_inU 187 (by decide +kernel) (by decide +kernel)
theorem hU_188 : (Jvm.Cond.selects "java/util/ArrayList" ({ cls := "java/util/ArrayList", name := "size", desc := "()I" } : Jvm.MethodName) ({ cls := "java/util/ArrayList", name := "size", desc := "()I" } : Jvm.MethodName)) ∈ lw_U := lw_inU 188 (by decide +kernel) (by decide +kernel)
theorem hU_189 : (Jvm.Cond.code ({ cls := "java/util/ArrayList", name := "size", desc := "()I" } : Jvm.MethodName) prog_21_method_8_code (1 : Nat) (Option.some Jvm.ClassFile.FieldType.int)) ∈ lw_U := lw_inU 189 (by decide +kernel) (by decide +kernel)
theorem hU_190 : (Jvm.Cond.methodLink "Strikehall" (119 : Nat) ({ cls := "java/util/ArrayList", name := "get", desc := "(I)Ljava/lang/Object;" } : Jvm.MethodName)) ∈ lw_U := lw_inU 190 (by decide +kernel) (by decide +kernel)
theorem hU_191 : (Jvm.Cond.instanceMethod ({ cls := "java/util/ArrayList", name := "get", desc := "(I)Ljava/lang/Object;" } : Jvm.MethodName)) ∈ lw_U := lw_inU 191 (by decide +kernel) (by decide +kernel)
theorem hU_192 : (Jvm.Cond.selects "java/util/ArrayList" ({ cls := "java/util/ArrayList", name := "get", desc := "(I)Ljava/lang/Object;" } : Jvm.MethodName) ({ cls := "java/util/ArrayList", name := "get", desc := "(I)Ljava/lang/Object;" } : Jvm.MethodName)) ∈ lw_U := lw_inU 192 (by decide +kernel) (by decide +kernel)
theorem hU_193 : (Jvm.Cond.code ({ cls := "java/util/ArrayList", name := "get", desc := "(I)Ljava/lang/Object;" } : Jvm.MethodName) prog_21_method_20_code (2 : Nat) (Option.some (Jvm.ClassFile.FieldType.object "java/lang/Object"))) ∈ lw_U := lw_inU 193 (by decide +kernel) (by decide +kernel)
theorem hU_194 : (Jvm.Cond.methodLink "java/util/ArrayList" (118 : Nat) ({ cls := "java/util/Objects", name := "checkIndex", desc := "(II)I" } : Jvm.MethodName)) ∈ lw_U := lw_inU 194 (by decide +kernel) (by decide +kernel)
theorem hU_195 : (Jvm.Cond.static ({ cls := "java/util/Objects", name := "checkIndex", desc := "(II)I" } : Jvm.MethodName)) ∈ lw_U := lw_inU 195 (by decide +kernel) (by decide +kernel)
theorem hU_196 : (Jvm.Cond.code ({ cls := "java/util/Objects", name := "checkIndex", desc := "(II)I" } : Jvm.MethodName) prog_25_method_17_code (2 : Nat) (Option.some Jvm.ClassFile.FieldType.int)) ∈ lw_U := lw_inU 196 (by decide +kernel) (by decide +kernel)
theorem hU_197 : (Jvm.Cond.methodLink "java/util/Objects" (105 : Nat) ({ cls := "jdk/internal/util/Preconditions", name := "checkIndex", desc := "(IILjava/util/function/BiFunction;)I" } : Jvm.MethodName)) ∈ lw_U := lw_inU 197 (by decide +kernel) (by decide +kernel)
theorem hU_198 : (Jvm.Cond.static ({ cls := "jdk/internal/util/Preconditions", name := "checkIndex", desc := "(IILjava/util/function/BiFunction;)I" } : Jvm.MethodName)) ∈ lw_U := lw_inU 198 (by decide +kernel) (by decide +kernel)
theorem hU_199 : (Jvm.Cond.code ({ cls := "jdk/internal/util/Preconditions", name := "checkIndex", desc := "(IILjava/util/function/BiFunction;)I" } : Jvm.MethodName) prog_29_method_11_code (3 : Nat) (Option.some Jvm.ClassFile.FieldType.int)) ∈ lw_U := lw_inU 199 (by decide +kernel) (by decide +kernel)
theorem hU_200 : (Jvm.Cond.methodLink "java/util/ArrayList" (123 : Nat) ({ cls := "java/util/ArrayList", name := "elementData", desc := "(I)Ljava/lang/Object;" } : Jvm.MethodName)) ∈ lw_U := lw_inU 200 (by decide +kernel) (by decide +kernel)
theorem hU_201 : (Jvm.Cond.instanceMethod ({ cls := "java/util/ArrayList", name := "elementData", desc := "(I)Ljava/lang/Object;" } : Jvm.MethodName)) ∈ lw_U := lw_inU 201 (by decide +kernel) (by decide +kernel)
theorem hU_202 : (Jvm.Cond.selects "java/util/ArrayList" ({ cls := "java/util/ArrayList", name := "elementData", desc := "(I)Ljava/lang/Object;" } : Jvm.MethodName) ({ cls := "java/util/ArrayList", name := "elementData", desc := "(I)Ljava/lang/Object;" } : Jvm.MethodName)) ∈ lw_U := lw_inU 202 (by decide +kernel) (by decide +kernel)
theorem hU_203 : (Jvm.Cond.code ({ cls := "java/util/ArrayList", name := "elementData", desc := "(I)Ljava/lang/Object;" } : Jvm.MethodName) prog_21_method_18_code (2 : Nat) (Option.some (Jvm.ClassFile.FieldType.object "java/lang/Object"))) ∈ lw_U := lw_inU 203 (by decide +kernel) (by decide +kernel)
theorem hU_204 : (Jvm.Cond.classLink "Strikehall" (96 : Nat) "Strikehall$Contract") ∈ lw_U := lw_inU 204 (by decide +kernel) (by decide +kernel)
theorem hU_207 : (Jvm.Cond.instanceMethod ({ cls := "Strikehall$Contract", name := "hasQuote", desc := "()Z" } : Jvm.MethodName)) ∈ lw_U := lw_inU 207 (by decide +kernel) (by decide +kernel)
theorem hU_208 : (Jvm.Cond.instantiable "Strikehall$Contract" (10 : Nat)) ∈ lw_U := lw_inU 208 (by decide +kernel) (by decide +kernel)
theorem hU_209 : (Jvm.Cond.code ({ cls := "Strikehall$Contract", name := "hasQuote", desc := "()Z" } : Jvm.MethodName) prog_2_method_7_code (1 : Nat) (Option.some Jvm.ClassFile.FieldType.boolean)) ∈ lw_U := lw_inU 209 (by decide +kernel) (by decide +kernel)
theorem hU_212 : (Jvm.Cond.instanceMethod ({ cls := "Strikehall$Contract", name := "takeQuoteAway", desc := "()V" } : Jvm.MethodName)) ∈ lw_U := lw_inU 212 (by decide +kernel) (by decide +kernel)
theorem hU_213 : (Jvm.Cond.code ({ cls := "Strikehall$Contract", name := "takeQuoteAway", desc := "()V" } : Jvm.MethodName) prog_2_method_5_code (1 : Nat) (Option.none : Option Jvm.ClassFile.FieldType)) ∈ lw_U := lw_inU 213 (by decide +kernel) (by decide +kernel)
theorem hU_214 : (Jvm.Cond.methodLink "Strikehall$Contract" (54 : Nat) ({ cls := "Strikehall$Contract", name := "tellQuote", desc := "(III)V" } : Jvm.MethodName)) ∈ lw_U := lw_inU 214 (by decide +kernel) (by decide +kernel)
theorem hU_216 : (Jvm.Cond.instanceMethod ({ cls := "Strikehall$Contract", name := "tellQuote", desc := "(III)V" } : Jvm.MethodName)) ∈ lw_U := lw_inU 216 (by decide +kernel) (by decide +kernel)
theorem hU_217 : (Jvm.Cond.code ({ cls := "Strikehall$Contract", name := "tellQuote", desc := "(III)V" } : Jvm.MethodName) prog_2_method_3_code (4 : Nat) (Option.none : Option Jvm.ClassFile.FieldType)) ∈ lw_U := lw_inU 217 (by decide +kernel) (by decide +kernel)
theorem hU_218 : (Jvm.Cond.methodLink "Strikehall$Contract" (51 : Nat) ({ cls := "Strikehall$Contract", name := "dropUsedUp", desc := "()V" } : Jvm.MethodName)) ∈ lw_U := lw_inU 218 (by decide +kernel) (by decide +kernel)
theorem hU_220 : (Jvm.Cond.instanceMethod ({ cls := "Strikehall$Contract", name := "dropUsedUp", desc := "()V" } : Jvm.MethodName)) ∈ lw_U := lw_inU 220 (by decide +kernel) (by decide +kernel)
theorem hU_221 : (Jvm.Cond.code ({ cls := "Strikehall$Contract", name := "dropUsedUp", desc := "()V" } : Jvm.MethodName) prog_2_method_6_code (1 : Nat) (Option.none : Option Jvm.ClassFile.FieldType)) ∈ lw_U := lw_inU 221 (by decide +kernel) (by decide +kernel)
theorem hU_222 : (Jvm.Cond.methodLink "Strikehall$Contract" (58 : Nat) ({ cls := "Strikehall$Contract", name := "hasQuote", desc := "()Z" } : Jvm.MethodName)) ∈ lw_U := lw_inU 222 (by decide +kernel) (by decide +kernel)
theorem hU_223 : (Jvm.Cond.methodLink "StrikehallLaw" (154 : Nat) ({ cls := "Strikehall", name := "fault", desc := "()I" } : Jvm.MethodName)) ∈ lw_U := lw_inU 223 (by decide +kernel) (by decide +kernel)
theorem hU_224 : (Jvm.Cond.instanceMethod ({ cls := "Strikehall", name := "fault", desc := "()I" } : Jvm.MethodName)) ∈ lw_U := lw_inU 224 (by decide +kernel) (by decide +kernel)
theorem hU_225 : (Jvm.Cond.selects "Strikehall" ({ cls := "Strikehall", name := "fault", desc := "()I" } : Jvm.MethodName) ({ cls := "Strikehall", name := "fault", desc := "()I" } : Jvm.MethodName)) ∈ lw_U := lw_inU 225 (by decide +kernel) (by decide +kernel)
theorem hU_226 : (Jvm.Cond.code ({ cls := "Strikehall", name := "fault", desc := "()I" } : Jvm.MethodName) prog_1_method_18_code (1 : Nat) (Option.some Jvm.ClassFile.FieldType.int)) ∈ lw_U := lw_inU 226 (by decide +kernel) (by decide +kernel)
theorem hU_227 : (Jvm.Cond.methodLink "Strikehall" (116 : Nat) ({ cls := "Strikehall", name := "firstFault", desc := "()I" } : Jvm.MethodName)) ∈ lw_U := lw_inU 227 (by decide +kernel) (by decide +kernel)
theorem hU_229 : (Jvm.Cond.instanceMethod ({ cls := "Strikehall", name := "firstFault", desc := "()I" } : Jvm.MethodName)) ∈ lw_U := lw_inU 229 (by decide +kernel) (by decide +kernel)
theorem hU_230 : (Jvm.Cond.code ({ cls := "Strikehall", name := "firstFault", desc := "()I" } : Jvm.MethodName) prog_1_method_44_code (1 : Nat) (Option.some Jvm.ClassFile.FieldType.int)) ∈ lw_U := lw_inU 230 (by decide +kernel) (by decide +kernel)
theorem hU_231 : (Jvm.Cond.methodLink "Strikehall" (290 : Nat) ({ cls := "Strikehall", name := "hasCrossedQuote", desc := "()Z" } : Jvm.MethodName)) ∈ lw_U := lw_inU 231 (by decide +kernel) (by decide +kernel)
theorem hU_233 : (Jvm.Cond.instanceMethod ({ cls := "Strikehall", name := "hasCrossedQuote", desc := "()Z" } : Jvm.MethodName)) ∈ lw_U := lw_inU 233 (by decide +kernel) (by decide +kernel)
theorem hU_234 : (Jvm.Cond.code ({ cls := "Strikehall", name := "hasCrossedQuote", desc := "()Z" } : Jvm.MethodName) prog_1_method_45_code (3 : Nat) (Option.some Jvm.ClassFile.FieldType.boolean)) ∈ lw_U := lw_inU 234 (by decide +kernel) (by decide +kernel)
theorem hU_237 : (Jvm.Cond.instanceMethod ({ cls := "Strikehall$Contract", name := "isQuotedBoth", desc := "()Z" } : Jvm.MethodName)) ∈ lw_U := lw_inU 237 (by decide +kernel) (by decide +kernel)
theorem hU_238 : (Jvm.Cond.code ({ cls := "Strikehall$Contract", name := "isQuotedBoth", desc := "()Z" } : Jvm.MethodName) prog_2_method_8_code (1 : Nat) (Option.some Jvm.ClassFile.FieldType.boolean)) ∈ lw_U := lw_inU 238 (by decide +kernel) (by decide +kernel)
theorem hU_239 : (Jvm.Cond.methodLink "Strikehall" (293 : Nat) ({ cls := "Strikehall", name := "hasStrikesFault", desc := "()Z" } : Jvm.MethodName)) ∈ lw_U := lw_inU 239 (by decide +kernel) (by decide +kernel)
theorem hU_241 : (Jvm.Cond.instanceMethod ({ cls := "Strikehall", name := "hasStrikesFault", desc := "()Z" } : Jvm.MethodName)) ∈ lw_U := lw_inU 241 (by decide +kernel) (by decide +kernel)
theorem hU_242 : (Jvm.Cond.code ({ cls := "Strikehall", name := "hasStrikesFault", desc := "()Z" } : Jvm.MethodName) prog_1_method_46_code (3 : Nat) (Option.some Jvm.ClassFile.FieldType.boolean)) ∈ lw_U := lw_inU 242 (by decide +kernel) (by decide +kernel)
theorem hU_243 : (Jvm.Cond.methodLink "Strikehall" (305 : Nat) ({ cls := "Strikehall", name := "isStrikesFault", desc := "(LStrikehall$Contract;LStrikehall$Contract;)Z" } : Jvm.MethodName)) ∈ lw_U := lw_inU 243 (by decide +kernel) (by decide +kernel)
theorem hU_244 : (Jvm.Cond.static ({ cls := "Strikehall", name := "isStrikesFault", desc := "(LStrikehall$Contract;LStrikehall$Contract;)Z" } : Jvm.MethodName)) ∈ lw_U := lw_inU 244 (by decide +kernel) (by decide +kernel)
theorem hU_245 : (Jvm.Cond.code ({ cls := "Strikehall", name := "isStrikesFault", desc := "(LStrikehall$Contract;LStrikehall$Contract;)Z" } : Jvm.MethodName) prog_1_method_51_code (2 : Nat) (Option.some Jvm.ClassFile.FieldType.boolean)) ∈ lw_U := lw_inU 245 (by decide +kernel) (by decide +kernel)
theorem hU_246 : (Jvm.Cond.methodLink "Strikehall" (309 : Nat) ({ cls := "Strikehall", name := "isStrikePair", desc := "(LStrikehall$Contract;LStrikehall$Contract;)Z" } : Jvm.MethodName)) ∈ lw_U := lw_inU 246 (by decide +kernel) (by decide +kernel)
theorem hU_247 : (Jvm.Cond.static ({ cls := "Strikehall", name := "isStrikePair", desc := "(LStrikehall$Contract;LStrikehall$Contract;)Z" } : Jvm.MethodName)) ∈ lw_U := lw_inU 247 (by decide +kernel) (by decide +kernel)
theorem hU_248 : (Jvm.Cond.code ({ cls := "Strikehall", name := "isStrikePair", desc := "(LStrikehall$Contract;LStrikehall$Contract;)Z" } : Jvm.MethodName) prog_1_method_50_code (2 : Nat) (Option.some Jvm.ClassFile.FieldType.boolean)) ∈ lw_U := lw_inU 248 (by decide +kernel) (by decide +kernel)
theorem hU_249 : (Jvm.Cond.methodLink "Strikehall" (296 : Nat) ({ cls := "Strikehall", name := "hasMiddleFault", desc := "()Z" } : Jvm.MethodName)) ∈ lw_U := lw_inU 249 (by decide +kernel) (by decide +kernel)
theorem hU_251 : (Jvm.Cond.instanceMethod ({ cls := "Strikehall", name := "hasMiddleFault", desc := "()Z" } : Jvm.MethodName)) ∈ lw_U := lw_inU 251 (by decide +kernel) (by decide +kernel)
theorem hU_252 : (Jvm.Cond.code ({ cls := "Strikehall", name := "hasMiddleFault", desc := "()Z" } : Jvm.MethodName) prog_1_method_47_code (3 : Nat) (Option.some Jvm.ClassFile.FieldType.boolean)) ∈ lw_U := lw_inU 252 (by decide +kernel) (by decide +kernel)
theorem hU_253 : (Jvm.Cond.methodLink "Strikehall" (312 : Nat) ({ cls := "Strikehall", name := "hasMiddleFaultWith", desc := "(LStrikehall$Contract;LStrikehall$Contract;)Z" } : Jvm.MethodName)) ∈ lw_U := lw_inU 253 (by decide +kernel) (by decide +kernel)
theorem hU_255 : (Jvm.Cond.instanceMethod ({ cls := "Strikehall", name := "hasMiddleFaultWith", desc := "(LStrikehall$Contract;LStrikehall$Contract;)Z" } : Jvm.MethodName)) ∈ lw_U := lw_inU 255 (by decide +kernel) (by decide +kernel)
theorem hU_256 : (Jvm.Cond.code ({ cls := "Strikehall", name := "hasMiddleFaultWith", desc := "(LStrikehall$Contract;LStrikehall$Contract;)Z" } : Jvm.MethodName) prog_1_method_48_code (4 : Nat) (Option.some Jvm.ClassFile.FieldType.boolean)) ∈ lw_U := lw_inU 256 (by decide +kernel) (by decide +kernel)
theorem hU_257 : (Jvm.Cond.methodLink "Strikehall" (315 : Nat) ({ cls := "Strikehall", name := "isMiddleFault", desc := "(LStrikehall$Contract;LStrikehall$Contract;LStrikehall$Contract;)Z" } : Jvm.MethodName)) ∈ lw_U := lw_inU 257 (by decide +kernel) (by decide +kernel)
theorem hU_258 : (Jvm.Cond.static ({ cls := "Strikehall", name := "isMiddleFault", desc := "(LStrikehall$Contract;LStrikehall$Contract;LStrikehall$Contract;)Z" } : Jvm.MethodName)) ∈ lw_U := lw_inU 258 (by decide +kernel) (by decide +kernel)
theorem hU_259 : (Jvm.Cond.code ({ cls := "Strikehall", name := "isMiddleFault", desc := "(LStrikehall$Contract;LStrikehall$Contract;LStrikehall$Contract;)Z" } : Jvm.MethodName) prog_1_method_52_code (3 : Nat) (Option.some Jvm.ClassFile.FieldType.boolean)) ∈ lw_U := lw_inU 259 (by decide +kernel) (by decide +kernel)
theorem hU_260 : (Jvm.Cond.methodLink "Strikehall" (299 : Nat) ({ cls := "Strikehall", name := "hasExpiriesFault", desc := "()Z" } : Jvm.MethodName)) ∈ lw_U := lw_inU 260 (by decide +kernel) (by decide +kernel)
theorem hU_262 : (Jvm.Cond.instanceMethod ({ cls := "Strikehall", name := "hasExpiriesFault", desc := "()Z" } : Jvm.MethodName)) ∈ lw_U := lw_inU 262 (by decide +kernel) (by decide +kernel)
theorem hU_263 : (Jvm.Cond.code ({ cls := "Strikehall", name := "hasExpiriesFault", desc := "()Z" } : Jvm.MethodName) prog_1_method_49_code (3 : Nat) (Option.some Jvm.ClassFile.FieldType.boolean)) ∈ lw_U := lw_inU 263 (by decide +kernel) (by decide +kernel)
theorem hU_264 : (Jvm.Cond.methodLink "Strikehall" (319 : Nat) ({ cls := "Strikehall", name := "isExpiriesFault", desc := "(LStrikehall$Contract;LStrikehall$Contract;)Z" } : Jvm.MethodName)) ∈ lw_U := lw_inU 264 (by decide +kernel) (by decide +kernel)
theorem hU_265 : (Jvm.Cond.static ({ cls := "Strikehall", name := "isExpiriesFault", desc := "(LStrikehall$Contract;LStrikehall$Contract;)Z" } : Jvm.MethodName)) ∈ lw_U := lw_inU 265 (by decide +kernel) (by decide +kernel)
theorem hU_266 : (Jvm.Cond.code ({ cls := "Strikehall", name := "isExpiriesFault", desc := "(LStrikehall$Contract;LStrikehall$Contract;)Z" } : Jvm.MethodName) prog_1_method_53_code (2 : Nat) (Option.some Jvm.ClassFile.FieldType.boolean)) ∈ lw_U := lw_inU 266 (by decide +kernel) (by decide +kernel)
theorem hU_267 : (Jvm.Cond.methodLink "StrikehallLaw" (167 : Nat) ({ cls := "Strikehall", name := "worth", desc := "()J" } : Jvm.MethodName)) ∈ lw_U := lw_inU 267 (by decide +kernel) (by decide +kernel)
theorem hU_268 : (Jvm.Cond.instanceMethod ({ cls := "Strikehall", name := "worth", desc := "()J" } : Jvm.MethodName)) ∈ lw_U := lw_inU 268 (by decide +kernel) (by decide +kernel)
theorem hU_269 : (Jvm.Cond.selects "Strikehall" ({ cls := "Strikehall", name := "worth", desc := "()J" } : Jvm.MethodName) ({ cls := "Strikehall", name := "worth", desc := "()J" } : Jvm.MethodName)) ∈ lw_U := lw_inU 269 (by decide +kernel) (by decide +kernel)
theorem hU_270 : (Jvm.Cond.code ({ cls := "Strikehall", name := "worth", desc := "()J" } : Jvm.MethodName) prog_1_method_22_code (1 : Nat) (Option.some Jvm.ClassFile.FieldType.long)) ∈ lw_U := lw_inU 270 (by decide +kernel) (by decide +kernel)
theorem hU_271 : (Jvm.Cond.methodLink "Strikehall" (51 : Nat) ({ cls := "Strikehall", name := "worthNow", desc := "()J" } : Jvm.MethodName)) ∈ lw_U := lw_inU 271 (by decide +kernel) (by decide +kernel)
theorem hU_273 : (Jvm.Cond.instanceMethod ({ cls := "Strikehall", name := "worthNow", desc := "()J" } : Jvm.MethodName)) ∈ lw_U := lw_inU 273 (by decide +kernel) (by decide +kernel)
theorem hU_274 : (Jvm.Cond.code ({ cls := "Strikehall", name := "worthNow", desc := "()J" } : Jvm.MethodName) prog_1_method_33_code (1 : Nat) (Option.some Jvm.ClassFile.FieldType.long)) ∈ lw_U := lw_inU 274 (by decide +kernel) (by decide +kernel)
theorem hU_275 : (Jvm.Cond.methodLink "Strikehall" (242 : Nat) ({ cls := "Strikehall", name := "worthAt", desc := "(I)J" } : Jvm.MethodName)) ∈ lw_U := lw_inU 275 (by decide +kernel) (by decide +kernel)
theorem hU_277 : (Jvm.Cond.instanceMethod ({ cls := "Strikehall", name := "worthAt", desc := "(I)J" } : Jvm.MethodName)) ∈ lw_U := lw_inU 277 (by decide +kernel) (by decide +kernel)
theorem hU_278 : (Jvm.Cond.code ({ cls := "Strikehall", name := "worthAt", desc := "(I)J" } : Jvm.MethodName) prog_1_method_34_code (7 : Nat) (Option.some Jvm.ClassFile.FieldType.long)) ∈ lw_U := lw_inU 278 (by decide +kernel) (by decide +kernel)
theorem hU_279 : (Jvm.Cond.methodLink "Strikehall" (233 : Nat) ({ cls := "Strikehall", name := "moneyAt", desc := "(I)J" } : Jvm.MethodName)) ∈ lw_U := lw_inU 279 (by decide +kernel) (by decide +kernel)
theorem hU_281 : (Jvm.Cond.instanceMethod ({ cls := "Strikehall", name := "moneyAt", desc := "(I)J" } : Jvm.MethodName)) ∈ lw_U := lw_inU 281 (by decide +kernel) (by decide +kernel)
theorem hU_282 : (Jvm.Cond.code ({ cls := "Strikehall", name := "moneyAt", desc := "(I)J" } : Jvm.MethodName) prog_1_method_30_code (2 : Nat) (Option.some Jvm.ClassFile.FieldType.long)) ∈ lw_U := lw_inU 282 (by decide +kernel) (by decide +kernel)
theorem hU_283 : (Jvm.Cond.constantLong "Strikehall" (256 : Nat) (1000 : Int64)) ∈ lw_U := lw_inU 283 (by decide +kernel) (by decide +kernel)
theorem hU_286 : (Jvm.Cond.instanceMethod ({ cls := "Strikehall$Contract", name := "lotsAt", desc := "(I)I" } : Jvm.MethodName)) ∈ lw_U := lw_inU 286 (by decide +kernel) (by decide +kernel)
theorem hU_287 : (Jvm.Cond.code ({ cls := "Strikehall$Contract", name := "lotsAt", desc := "(I)I" } : Jvm.MethodName) prog_2_method_9_code (2 : Nat) (Option.some Jvm.ClassFile.FieldType.int)) ∈ lw_U := lw_inU 287 (by decide +kernel) (by decide +kernel)
theorem hU_290 : (Jvm.Cond.instanceMethod ({ cls := "Strikehall$Share", name := "markAt", desc := "(LStrikehall$Contract;I)I" } : Jvm.MethodName)) ∈ lw_U := lw_inU 290 (by decide +kernel) (by decide +kernel)
theorem hU_291 : (Jvm.Cond.code ({ cls := "Strikehall$Share", name := "markAt", desc := "(LStrikehall$Contract;I)I" } : Jvm.MethodName) prog_4_method_5_code (3 : Nat) (Option.some Jvm.ClassFile.FieldType.int)) ∈ lw_U := lw_inU 291 (by decide +kernel) (by decide +kernel)
theorem hU_292 : (Jvm.Cond.methodLink "Strikehall$Share" (47 : Nat) ({ cls := "Strikehall$Share", name := "numberAt", desc := "(LStrikehall$Contract;I)J" } : Jvm.MethodName)) ∈ lw_U := lw_inU 292 (by decide +kernel) (by decide +kernel)
theorem hU_294 : (Jvm.Cond.instanceMethod ({ cls := "Strikehall$Share", name := "numberAt", desc := "(LStrikehall$Contract;I)J" } : Jvm.MethodName)) ∈ lw_U := lw_inU 294 (by decide +kernel) (by decide +kernel)
theorem hU_295 : (Jvm.Cond.code ({ cls := "Strikehall$Share", name := "numberAt", desc := "(LStrikehall$Contract;I)J" } : Jvm.MethodName) prog_4_method_6_code (10 : Nat) (Option.some Jvm.ClassFile.FieldType.long)) ∈ lw_U := lw_inU 295 (by decide +kernel) (by decide +kernel)
theorem hU_296 : (Jvm.Cond.methodLink "Strikehall$Share" (59 : Nat) ({ cls := "Strikehall$Share", name := "lowestAfter", desc := "(II)I" } : Jvm.MethodName)) ∈ lw_U := lw_inU 296 (by decide +kernel) (by decide +kernel)
theorem hU_298 : (Jvm.Cond.instanceMethod ({ cls := "Strikehall$Share", name := "lowestAfter", desc := "(II)I" } : Jvm.MethodName)) ∈ lw_U := lw_inU 298 (by decide +kernel) (by decide +kernel)
theorem hU_299 : (Jvm.Cond.code ({ cls := "Strikehall$Share", name := "lowestAfter", desc := "(II)I" } : Jvm.MethodName) prog_4_method_7_code (5 : Nat) (Option.some Jvm.ClassFile.FieldType.int)) ∈ lw_U := lw_inU 299 (by decide +kernel) (by decide +kernel)
theorem hU_300 : (Jvm.Cond.methodLink "Strikehall$Share" (66 : Nat) ({ cls := "Strikehall$Share", name := "dividendOn", desc := "(I)I" } : Jvm.MethodName)) ∈ lw_U := lw_inU 300 (by decide +kernel) (by decide +kernel)
theorem hU_302 : (Jvm.Cond.instanceMethod ({ cls := "Strikehall$Share", name := "dividendOn", desc := "(I)I" } : Jvm.MethodName)) ∈ lw_U := lw_inU 302 (by decide +kernel) (by decide +kernel)
theorem hU_303 : (Jvm.Cond.code ({ cls := "Strikehall$Share", name := "dividendOn", desc := "(I)I" } : Jvm.MethodName) prog_4_method_2_code (2 : Nat) (Option.some Jvm.ClassFile.FieldType.int)) ∈ lw_U := lw_inU 303 (by decide +kernel) (by decide +kernel)
theorem hU_306 : (Jvm.Cond.instanceMethod ({ cls := "Strikehall$Contract", name := "paysAt", desc := "(I)I" } : Jvm.MethodName)) ∈ lw_U := lw_inU 306 (by decide +kernel) (by decide +kernel)
theorem hU_307 : (Jvm.Cond.code ({ cls := "Strikehall$Contract", name := "paysAt", desc := "(I)I" } : Jvm.MethodName) prog_2_method_2_code (2 : Nat) (Option.some Jvm.ClassFile.FieldType.int)) ∈ lw_U := lw_inU 307 (by decide +kernel) (by decide +kernel)
theorem hU_308 : (Jvm.Cond.methodLink "Strikehall$Contract" (45 : Nat) ({ cls := "java/lang/Math", name := "max", desc := "(II)I" } : Jvm.MethodName)) ∈ lw_U := lw_inU 308 (by decide +kernel) (by decide +kernel)
theorem hU_309 : (Jvm.Cond.static ({ cls := "java/lang/Math", name := "max", desc := "(II)I" } : Jvm.MethodName)) ∈ lw_U := lw_inU 309 (by decide +kernel) (by decide +kernel)
theorem hU_310 : (Jvm.Cond.code ({ cls := "java/lang/Math", name := "max", desc := "(II)I" } : Jvm.MethodName) prog_14_method_65_code (2 : Nat) (Option.some Jvm.ClassFile.FieldType.int)) ∈ lw_U := lw_inU 310 (by decide +kernel) (by decide +kernel)
theorem hU_311 : (Jvm.Cond.methodLink "Strikehall$Share" (73 : Nat) ({ cls := "java/lang/Math", name := "max", desc := "(JJ)J" } : Jvm.MethodName)) ∈ lw_U := lw_inU 311 (by decide +kernel) (by decide +kernel)
theorem hU_312 : (Jvm.Cond.static ({ cls := "java/lang/Math", name := "max", desc := "(JJ)J" } : Jvm.MethodName)) ∈ lw_U := lw_inU 312 (by decide +kernel) (by decide +kernel)
theorem hU_313 : (Jvm.Cond.code ({ cls := "java/lang/Math", name := "max", desc := "(JJ)J" } : Jvm.MethodName) prog_14_method_66_code (4 : Nat) (Option.some Jvm.ClassFile.FieldType.long)) ∈ lw_U := lw_inU 313 (by decide +kernel) (by decide +kernel)
theorem hU_314 : (Jvm.Cond.methodLink "Strikehall$Share" (51 : Nat) ({ cls := "Strikehall$Share", name := "belowOf", desc := "(LStrikehall$Contract;)J" } : Jvm.MethodName)) ∈ lw_U := lw_inU 314 (by decide +kernel) (by decide +kernel)
theorem hU_316 : (Jvm.Cond.instanceMethod ({ cls := "Strikehall$Share", name := "belowOf", desc := "(LStrikehall$Contract;)J" } : Jvm.MethodName)) ∈ lw_U := lw_inU 316 (by decide +kernel) (by decide +kernel)
theorem hU_317 : (Jvm.Cond.code ({ cls := "Strikehall$Share", name := "belowOf", desc := "(LStrikehall$Contract;)J" } : Jvm.MethodName) prog_4_method_4_code (2 : Nat) (Option.some Jvm.ClassFile.FieldType.long)) ∈ lw_U := lw_inU 317 (by decide +kernel) (by decide +kernel)
theorem hU_318 : (Jvm.Cond.methodLink "Strikehall$Share" (37 : Nat) ({ cls := "java/lang/Math", name := "min", desc := "(II)I" } : Jvm.MethodName)) ∈ lw_U := lw_inU 318 (by decide +kernel) (by decide +kernel)
theorem hU_319 : (Jvm.Cond.static ({ cls := "java/lang/Math", name := "min", desc := "(II)I" } : Jvm.MethodName)) ∈ lw_U := lw_inU 319 (by decide +kernel) (by decide +kernel)
theorem hU_320 : (Jvm.Cond.code ({ cls := "java/lang/Math", name := "min", desc := "(II)I" } : Jvm.MethodName) prog_14_method_69_code (2 : Nat) (Option.some Jvm.ClassFile.FieldType.int)) ∈ lw_U := lw_inU 320 (by decide +kernel) (by decide +kernel)
theorem hU_322 : (Jvm.Cond.static ({ cls := "Strikehall", name := "power", desc := "(JI)J" } : Jvm.MethodName)) ∈ lw_U := lw_inU 322 (by decide +kernel) (by decide +kernel)
theorem hU_323 : (Jvm.Cond.code ({ cls := "Strikehall", name := "power", desc := "(JI)J" } : Jvm.MethodName) prog_1_method_42_code (6 : Nat) (Option.some Jvm.ClassFile.FieldType.long)) ∈ lw_U := lw_inU 323 (by decide +kernel) (by decide +kernel)
theorem hU_325 : (Jvm.Cond.static ({ cls := "Strikehall", name := "thousandTimes", desc := "(JJ)I" } : Jvm.MethodName)) ∈ lw_U := lw_inU 325 (by decide +kernel) (by decide +kernel)
theorem hU_326 : (Jvm.Cond.code ({ cls := "Strikehall", name := "thousandTimes", desc := "(JJ)I" } : Jvm.MethodName) prog_1_method_41_code (4 : Nat) (Option.some Jvm.ClassFile.FieldType.int)) ∈ lw_U := lw_inU 326 (by decide +kernel) (by decide +kernel)
theorem hU_327 : (Jvm.Cond.methodLink "StrikehallLaw" (90 : Nat) ({ cls := "StrikehallLaw", name := "steps", desc := "(LStrikehall;II)I" } : Jvm.MethodName)) ∈ lw_U := lw_inU 327 (by decide +kernel) (by decide +kernel)
theorem hU_328 : (Jvm.Cond.static ({ cls := "StrikehallLaw", name := "steps", desc := "(LStrikehall;II)I" } : Jvm.MethodName)) ∈ lw_U := lw_inU 328 (by decide +kernel) (by decide +kernel)
theorem hU_329 : (Jvm.Cond.codeWith ({ cls := "StrikehallLaw", name := "steps", desc := "(LStrikehall;II)I" } : Jvm.MethodName) method_3_code (4 : Nat) (Option.some Jvm.ClassFile.FieldType.int) [((0 : Nat), (6 : Nat), (9 : Nat), (13 : Nat))]) ∈ lw_U := lw_inU 329 (by decide +kernel) (by decide +kernel)
theorem hU_330 : (Jvm.Cond.classLink "StrikehallLaw" (13 : Nat) "java/lang/IllegalArgumentException") ∈ lw_U := lw_inU 330 (by decide +kernel) (by decide +kernel)
theorem hU_331 : (Jvm.Cond.methodLink "StrikehallLaw" (7 : Nat) ({ cls := "Strikehall", name := "steps", desc := "(II)V" } : Jvm.MethodName)) ∈ lw_U := lw_inU 331 (by decide +kernel) (by decide +kernel)
theorem hU_332 : (Jvm.Cond.instanceMethod ({ cls := "Strikehall", name := "steps", desc := "(II)V" } : Jvm.MethodName)) ∈ lw_U := lw_inU 332 (by decide +kernel) (by decide +kernel)
theorem hU_333 : (Jvm.Cond.selects "Strikehall" ({ cls := "Strikehall", name := "steps", desc := "(II)V" } : Jvm.MethodName) ({ cls := "Strikehall", name := "steps", desc := "(II)V" } : Jvm.MethodName)) ∈ lw_U := lw_inU 333 (by decide +kernel) (by decide +kernel)
theorem hU_334 : (Jvm.Cond.code ({ cls := "Strikehall", name := "steps", desc := "(II)V" } : Jvm.MethodName) prog_1_method_2_code (5 : Nat) (Option.none : Option Jvm.ClassFile.FieldType)) ∈ lw_U := lw_inU 334 (by decide +kernel) (by decide +kernel)
theorem hU_335 : (Jvm.Cond.methodLink "Strikehall" (47 : Nat) ({ cls := "Strikehall", name := "checkRange", desc := "(III)V" } : Jvm.MethodName)) ∈ lw_U := lw_inU 335 (by decide +kernel) (by decide +kernel)
theorem hU_336 : (Jvm.Cond.static ({ cls := "Strikehall", name := "checkRange", desc := "(III)V" } : Jvm.MethodName)) ∈ lw_U := lw_inU 336 (by decide +kernel) (by decide +kernel)
theorem hU_337 : (Jvm.Cond.code ({ cls := "Strikehall", name := "checkRange", desc := "(III)V" } : Jvm.MethodName) prog_1_method_25_code (3 : Nat) (Option.none : Option Jvm.ClassFile.FieldType)) ∈ lw_U := lw_inU 337 (by decide +kernel) (by decide +kernel)
theorem hU_338 : (Jvm.Cond.classLink "Strikehall" (134 : Nat) "java/lang/IllegalArgumentException") ∈ lw_U := lw_inU 338 (by decide +kernel) (by decide +kernel)
theorem hU_339 : (Jvm.Cond.instantiable "java/lang/IllegalArgumentException" (6 : Nat)) ∈ lw_U := lw_inU 339 (by decide +kernel) (by decide +kernel)
theorem hU_347 : (Jvm.Cond.selects "java/lang/IllegalArgumentException" ({ cls := "java/lang/Throwable", name := "fillInStackTrace", desc := "(I)Ljava/lang/Throwable;" } : Jvm.MethodName) ({ cls := "java/lang/Throwable", name := "fillInStackTrace", desc := "(I)Ljava/lang/Throwable;" } : Jvm.MethodName)) ∈ lw_U := lw_inU 347 (by decide +kernel) (by decide +kernel)
theorem hU_348 : (Jvm.Cond.selects "java/lang/IllegalArgumentException" ({ cls := "java/lang/Throwable", name := "fillInStackTrace", desc := "()Ljava/lang/Throwable;" } : Jvm.MethodName) ({ cls := "java/lang/Throwable", name := "fillInStackTrace", desc := "()Ljava/lang/Throwable;" } : Jvm.MethodName)) ∈ lw_U := lw_inU 348 (by decide +kernel) (by decide +kernel)
theorem hU_359 : (Jvm.Cond.fieldLink "java/lang/Throwable" (198 : Nat) "java/lang/Throwable" "backtrace" "Ljava/lang/Object;") ∈ lw_U := lw_inU 359 (by decide +kernel) (by decide +kernel)
theorem hU_360 : (Jvm.Cond.superclass "java/lang/Throwable" "java/lang/Object") ∈ lw_U := lw_inU 360 (by decide +kernel) (by decide +kernel)
theorem hU_361 : (Jvm.Cond.instanceMethod ({ cls := "java/lang/Throwable", name := "<init>", desc := "()V" } : Jvm.MethodName)) ∈ lw_U := lw_inU 361 (by decide +kernel) (by decide +kernel)
theorem hU_362 : (Jvm.Cond.code ({ cls := "java/lang/Throwable", name := "<init>", desc := "()V" } : Jvm.MethodName) prog_18_method_1_code (1 : Nat) (Option.none : Option Jvm.ClassFile.FieldType)) ∈ lw_U := lw_inU 362 (by decide +kernel) (by decide +kernel)
theorem hU_363 : (Jvm.Cond.methodLink "java/lang/Throwable" (1 : Nat) ({ cls := "java/lang/Object", name := "<init>", desc := "()V" } : Jvm.MethodName)) ∈ lw_U := lw_inU 363 (by decide +kernel) (by decide +kernel)
theorem hU_364 : (Jvm.Cond.fieldLink "java/lang/Throwable" (13 : Nat) "java/lang/Throwable" "UNASSIGNED_STACK" "[Ljava/lang/StackTraceElement;") ∈ lw_U := lw_inU 364 (by decide +kernel) (by decide +kernel)
theorem hU_366 : (Jvm.Cond.fieldLink "java/lang/Throwable" (20 : Nat) "java/lang/Throwable" "SUPPRESSED_SENTINEL" "Ljava/util/List;") ∈ lw_U := lw_inU 366 (by decide +kernel) (by decide +kernel)
theorem hU_368 : (Jvm.Cond.methodLink "java/lang/Throwable" (27 : Nat) ({ cls := "java/lang/Throwable", name := "fillInStackTrace", desc := "()Ljava/lang/Throwable;" } : Jvm.MethodName)) ∈ lw_U := lw_inU 368 (by decide +kernel) (by decide +kernel)
theorem hU_369 : (Jvm.Cond.instanceMethod ({ cls := "java/lang/Throwable", name := "fillInStackTrace", desc := "()Ljava/lang/Throwable;" } : Jvm.MethodName)) ∈ lw_U := lw_inU 369 (by decide +kernel) (by decide +kernel)
theorem hU_371 : (Jvm.Cond.selects "java/lang/IllegalStateException" ({ cls := "java/lang/Throwable", name := "fillInStackTrace", desc := "()Ljava/lang/Throwable;" } : Jvm.MethodName) ({ cls := "java/lang/Throwable", name := "fillInStackTrace", desc := "()Ljava/lang/Throwable;" } : Jvm.MethodName)) ∈ lw_U := lw_inU 371 (by decide +kernel) (by decide +kernel)
theorem hU_372 : (Jvm.Cond.selects "java/lang/IndexOutOfBoundsException" ({ cls := "java/lang/Throwable", name := "fillInStackTrace", desc := "()Ljava/lang/Throwable;" } : Jvm.MethodName) ({ cls := "java/lang/Throwable", name := "fillInStackTrace", desc := "()Ljava/lang/Throwable;" } : Jvm.MethodName)) ∈ lw_U := lw_inU 372 (by decide +kernel) (by decide +kernel)
theorem hU_374 : (Jvm.Cond.methodLink "java/lang/Throwable" (202 : Nat) ({ cls := "java/lang/Throwable", name := "fillInStackTrace", desc := "(I)Ljava/lang/Throwable;" } : Jvm.MethodName)) ∈ lw_U := lw_inU 374 (by decide +kernel) (by decide +kernel)
theorem hU_376 : (Jvm.Cond.instanceMethod ({ cls := "java/lang/Throwable", name := "fillInStackTrace", desc := "(I)Ljava/lang/Throwable;" } : Jvm.MethodName)) ∈ lw_U := lw_inU 376 (by decide +kernel) (by decide +kernel)
theorem hU_377 : (Jvm.Cond.instantiable "java/lang/Throwable" (6 : Nat)) ∈ lw_U := lw_inU 377 (by decide +kernel) (by decide +kernel)
theorem hU_378 : (Jvm.Cond.native ({ cls := "java/lang/Throwable", name := "fillInStackTrace", desc := "(I)Ljava/lang/Throwable;" } : Jvm.MethodName)) ∈ lw_U := lw_inU 378 (by decide +kernel) (by decide +kernel)
theorem hU_380 : (Jvm.Cond.methodLink "Strikehall" (138 : Nat) ({ cls := "java/lang/IllegalArgumentException", name := "<init>", desc := "(Ljava/lang/String;)V" } : Jvm.MethodName)) ∈ lw_U := lw_inU 380 (by decide +kernel) (by decide +kernel)
theorem hU_381 : (Jvm.Cond.instanceMethod ({ cls := "java/lang/IllegalArgumentException", name := "<init>", desc := "(Ljava/lang/String;)V" } : Jvm.MethodName)) ∈ lw_U := lw_inU 381 (by decide +kernel) (by decide +kernel)
theorem hU_382 : (Jvm.Cond.code ({ cls := "java/lang/IllegalArgumentException", name := "<init>", desc := "(Ljava/lang/String;)V" } : Jvm.MethodName) prog_10_method_2_code (2 : Nat) (Option.none : Option Jvm.ClassFile.FieldType)) ∈ lw_U := lw_inU 382 (by decide +kernel) (by decide +kernel)
theorem hU_383 : (Jvm.Cond.methodLink "java/lang/IllegalArgumentException" (7 : Nat) ({ cls := "java/lang/RuntimeException", name := "<init>", desc := "(Ljava/lang/String;)V" } : Jvm.MethodName)) ∈ lw_U := lw_inU 383 (by decide +kernel) (by decide +kernel)
theorem hU_384 : (Jvm.Cond.instanceMethod ({ cls := "java/lang/RuntimeException", name := "<init>", desc := "(Ljava/lang/String;)V" } : Jvm.MethodName)) ∈ lw_U := lw_inU 384 (by decide +kernel) (by decide +kernel)
theorem hU_385 : (Jvm.Cond.code ({ cls := "java/lang/RuntimeException", name := "<init>", desc := "(Ljava/lang/String;)V" } : Jvm.MethodName) prog_15_method_2_code (2 : Nat) (Option.none : Option Jvm.ClassFile.FieldType)) ∈ lw_U := lw_inU 385 (by decide +kernel) (by decide +kernel)
theorem hU_386 : (Jvm.Cond.methodLink "java/lang/RuntimeException" (7 : Nat) ({ cls := "java/lang/Exception", name := "<init>", desc := "(Ljava/lang/String;)V" } : Jvm.MethodName)) ∈ lw_U := lw_inU 386 (by decide +kernel) (by decide +kernel)
theorem hU_387 : (Jvm.Cond.instanceMethod ({ cls := "java/lang/Exception", name := "<init>", desc := "(Ljava/lang/String;)V" } : Jvm.MethodName)) ∈ lw_U := lw_inU 387 (by decide +kernel) (by decide +kernel)
theorem hU_388 : (Jvm.Cond.code ({ cls := "java/lang/Exception", name := "<init>", desc := "(Ljava/lang/String;)V" } : Jvm.MethodName) prog_9_method_2_code (2 : Nat) (Option.none : Option Jvm.ClassFile.FieldType)) ∈ lw_U := lw_inU 388 (by decide +kernel) (by decide +kernel)
theorem hU_389 : (Jvm.Cond.methodLink "java/lang/Exception" (7 : Nat) ({ cls := "java/lang/Throwable", name := "<init>", desc := "(Ljava/lang/String;)V" } : Jvm.MethodName)) ∈ lw_U := lw_inU 389 (by decide +kernel) (by decide +kernel)
theorem hU_390 : (Jvm.Cond.instanceMethod ({ cls := "java/lang/Throwable", name := "<init>", desc := "(Ljava/lang/String;)V" } : Jvm.MethodName)) ∈ lw_U := lw_inU 390 (by decide +kernel) (by decide +kernel)
theorem hU_391 : (Jvm.Cond.code ({ cls := "java/lang/Throwable", name := "<init>", desc := "(Ljava/lang/String;)V" } : Jvm.MethodName) prog_18_method_2_code (2 : Nat) (Option.none : Option Jvm.ClassFile.FieldType)) ∈ lw_U := lw_inU 391 (by decide +kernel) (by decide +kernel)
theorem hU_392 : (Jvm.Cond.fieldLink "java/lang/Throwable" (198 : Nat) "java/lang/Throwable" "backtrace" "Ljava/lang/Object;") ∈ lw_U := lw_inU 392 (by decide +kernel) (by decide +kernel)
theorem hU_393 : (Jvm.Cond.fieldLink "java/lang/Throwable" (31 : Nat) "java/lang/Throwable" "detailMessage" "Ljava/lang/String;") ∈ lw_U := lw_inU 393 (by decide +kernel) (by decide +kernel)
theorem hU_394 : (Jvm.Cond.fieldLink "java/lang/Throwable" (7 : Nat) "java/lang/Throwable" "cause" "Ljava/lang/Throwable;") ∈ lw_U := lw_inU 394 (by decide +kernel) (by decide +kernel)
theorem hU_395 : (Jvm.Cond.fieldLink "java/lang/Throwable" (17 : Nat) "java/lang/Throwable" "stackTrace" "[Ljava/lang/StackTraceElement;") ∈ lw_U := lw_inU 395 (by decide +kernel) (by decide +kernel)
theorem hU_396 : (Jvm.Cond.fieldLink "java/lang/Throwable" (24 : Nat) "java/lang/Throwable" "suppressedExceptions" "Ljava/util/List;") ∈ lw_U := lw_inU 396 (by decide +kernel) (by decide +kernel)
theorem hU_404 : (Jvm.Cond.superclass "java/lang/IllegalArgumentException" "java/lang/RuntimeException") ∈ lw_U := lw_inU 404 (by decide +kernel) (by decide +kernel)
theorem hU_405 : (Jvm.Cond.arrayClass Jvm.ClassFile.FieldType.byte) ∈ lw_U := lw_inU 405 (by decide +kernel) (by decide +kernel)
theorem hU_406 : (Jvm.Cond.methodLink "Strikehall" (61 : Nat) ({ cls := "Strikehall", name := "addProfit", desc := "(IJ)V" } : Jvm.MethodName)) ∈ lw_U := lw_inU 406 (by decide +kernel) (by decide +kernel)
theorem hU_408 : (Jvm.Cond.instanceMethod ({ cls := "Strikehall", name := "addProfit", desc := "(IJ)V" } : Jvm.MethodName)) ∈ lw_U := lw_inU 408 (by decide +kernel) (by decide +kernel)
theorem hU_409 : (Jvm.Cond.code ({ cls := "Strikehall", name := "addProfit", desc := "(IJ)V" } : Jvm.MethodName) prog_1_method_32_code (4 : Nat) (Option.none : Option Jvm.ClassFile.FieldType)) ∈ lw_U := lw_inU 409 (by decide +kernel) (by decide +kernel)
theorem hU_410 : (Jvm.Cond.methodLink "StrikehallLaw" (99 : Nat) ({ cls := "StrikehallLaw", name := "move", desc := "(LStrikehall;I[J)I" } : Jvm.MethodName)) ∈ lw_U := lw_inU 410 (by decide +kernel) (by decide +kernel)
theorem hU_411 : (Jvm.Cond.static ({ cls := "StrikehallLaw", name := "move", desc := "(LStrikehall;I[J)I" } : Jvm.MethodName)) ∈ lw_U := lw_inU 411 (by decide +kernel) (by decide +kernel)
theorem hU_412 : (Jvm.Cond.codeWith ({ cls := "StrikehallLaw", name := "move", desc := "(LStrikehall;I[J)I" } : Jvm.MethodName) method_4_code (4 : Nat) (Option.some Jvm.ClassFile.FieldType.int) [((0 : Nat), (8 : Nat), (11 : Nat), (13 : Nat))]) ∈ lw_U := lw_inU 412 (by decide +kernel) (by decide +kernel)
theorem hU_413 : (Jvm.Cond.methodLink "StrikehallLaw" (15 : Nat) ({ cls := "Strikehall", name := "move", desc := "(I)J" } : Jvm.MethodName)) ∈ lw_U := lw_inU 413 (by decide +kernel) (by decide +kernel)
theorem hU_414 : (Jvm.Cond.instanceMethod ({ cls := "Strikehall", name := "move", desc := "(I)J" } : Jvm.MethodName)) ∈ lw_U := lw_inU 414 (by decide +kernel) (by decide +kernel)
theorem hU_415 : (Jvm.Cond.selects "Strikehall" ({ cls := "Strikehall", name := "move", desc := "(I)J" } : Jvm.MethodName) ({ cls := "Strikehall", name := "move", desc := "(I)J" } : Jvm.MethodName)) ∈ lw_U := lw_inU 415 (by decide +kernel) (by decide +kernel)
theorem hU_416 : (Jvm.Cond.code ({ cls := "Strikehall", name := "move", desc := "(I)J" } : Jvm.MethodName) prog_1_method_3_code (6 : Nat) (Option.some Jvm.ClassFile.FieldType.long)) ∈ lw_U := lw_inU 416 (by decide +kernel) (by decide +kernel)
theorem hU_417 : (Jvm.Cond.methodLink "StrikehallLaw" (103 : Nat) ({ cls := "StrikehallLaw", name := "dividend", desc := "(LStrikehall;II[J)I" } : Jvm.MethodName)) ∈ lw_U := lw_inU 417 (by decide +kernel) (by decide +kernel)
theorem hU_418 : (Jvm.Cond.static ({ cls := "StrikehallLaw", name := "dividend", desc := "(LStrikehall;II[J)I" } : Jvm.MethodName)) ∈ lw_U := lw_inU 418 (by decide +kernel) (by decide +kernel)
theorem hU_419 : (Jvm.Cond.codeWith ({ cls := "StrikehallLaw", name := "dividend", desc := "(LStrikehall;II[J)I" } : Jvm.MethodName) method_5_code (5 : Nat) (Option.some Jvm.ClassFile.FieldType.int) [((0 : Nat), (10 : Nat), (13 : Nat), (13 : Nat))]) ∈ lw_U := lw_inU 419 (by decide +kernel) (by decide +kernel)
theorem hU_420 : (Jvm.Cond.methodLink "StrikehallLaw" (19 : Nat) ({ cls := "Strikehall", name := "dividend", desc := "(II)I" } : Jvm.MethodName)) ∈ lw_U := lw_inU 420 (by decide +kernel) (by decide +kernel)
theorem hU_421 : (Jvm.Cond.instanceMethod ({ cls := "Strikehall", name := "dividend", desc := "(II)I" } : Jvm.MethodName)) ∈ lw_U := lw_inU 421 (by decide +kernel) (by decide +kernel)
theorem hU_422 : (Jvm.Cond.selects "Strikehall" ({ cls := "Strikehall", name := "dividend", desc := "(II)I" } : Jvm.MethodName) ({ cls := "Strikehall", name := "dividend", desc := "(II)I" } : Jvm.MethodName)) ∈ lw_U := lw_inU 422 (by decide +kernel) (by decide +kernel)
theorem hU_423 : (Jvm.Cond.code ({ cls := "Strikehall", name := "dividend", desc := "(II)I" } : Jvm.MethodName) prog_1_method_4_code (6 : Nat) (Option.some Jvm.ClassFile.FieldType.int)) ∈ lw_U := lw_inU 423 (by decide +kernel) (by decide +kernel)
theorem hU_427 : (Jvm.Cond.instanceMethod ({ cls := "Strikehall$Share", name := "tellDividend", desc := "(II)V" } : Jvm.MethodName)) ∈ lw_U := lw_inU 427 (by decide +kernel) (by decide +kernel)
theorem hU_428 : (Jvm.Cond.code ({ cls := "Strikehall$Share", name := "tellDividend", desc := "(II)V" } : Jvm.MethodName) prog_4_method_3_code (3 : Nat) (Option.none : Option Jvm.ClassFile.FieldType)) ∈ lw_U := lw_inU 428 (by decide +kernel) (by decide +kernel)
theorem hU_429 : (Jvm.Cond.methodLink "StrikehallLaw" (107 : Nat) ({ cls := "StrikehallLaw", name := "contract", desc := "(LStrikehall;IIIZ[J)I" } : Jvm.MethodName)) ∈ lw_U := lw_inU 429 (by decide +kernel) (by decide +kernel)
theorem hU_430 : (Jvm.Cond.static ({ cls := "StrikehallLaw", name := "contract", desc := "(LStrikehall;IIIZ[J)I" } : Jvm.MethodName)) ∈ lw_U := lw_inU 430 (by decide +kernel) (by decide +kernel)
theorem hU_431 : (Jvm.Cond.codeWith ({ cls := "StrikehallLaw", name := "contract", desc := "(LStrikehall;IIIZ[J)I" } : Jvm.MethodName) method_6_code (7 : Nat) (Option.some Jvm.ClassFile.FieldType.int) [((0 : Nat), (14 : Nat), (17 : Nat), (13 : Nat)), ((0 : Nat), (14 : Nat), (21 : Nat), (27 : Nat))]) ∈ lw_U := lw_inU 431 (by decide +kernel) (by decide +kernel)
theorem hU_432 : (Jvm.Cond.classLink "StrikehallLaw" (27 : Nat) "java/lang/IllegalStateException") ∈ lw_U := lw_inU 432 (by decide +kernel) (by decide +kernel)
theorem hU_433 : (Jvm.Cond.methodLink "StrikehallLaw" (23 : Nat) ({ cls := "Strikehall", name := "contract", desc := "(IIIZ)I" } : Jvm.MethodName)) ∈ lw_U := lw_inU 433 (by decide +kernel) (by decide +kernel)
theorem hU_434 : (Jvm.Cond.instanceMethod ({ cls := "Strikehall", name := "contract", desc := "(IIIZ)I" } : Jvm.MethodName)) ∈ lw_U := lw_inU 434 (by decide +kernel) (by decide +kernel)
theorem hU_435 : (Jvm.Cond.selects "Strikehall" ({ cls := "Strikehall", name := "contract", desc := "(IIIZ)I" } : Jvm.MethodName) ({ cls := "Strikehall", name := "contract", desc := "(IIIZ)I" } : Jvm.MethodName)) ∈ lw_U := lw_inU 435 (by decide +kernel) (by decide +kernel)
theorem hU_436 : (Jvm.Cond.code ({ cls := "Strikehall", name := "contract", desc := "(IIIZ)I" } : Jvm.MethodName) prog_1_method_5_code (6 : Nat) (Option.some Jvm.ClassFile.FieldType.int)) ∈ lw_U := lw_inU 436 (by decide +kernel) (by decide +kernel)
theorem hU_437 : (Jvm.Cond.methodLink "Strikehall" (79 : Nat) ({ cls := "java/lang/Math", name := "min", desc := "(II)I" } : Jvm.MethodName)) ∈ lw_U := lw_inU 437 (by decide +kernel) (by decide +kernel)
theorem hU_438 : (Jvm.Cond.classLink "Strikehall" (89 : Nat) "java/lang/IllegalStateException") ∈ lw_U := lw_inU 438 (by decide +kernel) (by decide +kernel)
theorem hU_439 : (Jvm.Cond.instantiable "java/lang/IllegalStateException" (6 : Nat)) ∈ lw_U := lw_inU 439 (by decide +kernel) (by decide +kernel)
theorem hU_441 : (Jvm.Cond.selects "java/lang/IllegalStateException" ({ cls := "java/lang/Throwable", name := "fillInStackTrace", desc := "(I)Ljava/lang/Throwable;" } : Jvm.MethodName) ({ cls := "java/lang/Throwable", name := "fillInStackTrace", desc := "(I)Ljava/lang/Throwable;" } : Jvm.MethodName)) ∈ lw_U := lw_inU 441 (by decide +kernel) (by decide +kernel)
theorem hU_448 : (Jvm.Cond.methodLink "Strikehall" (93 : Nat) ({ cls := "java/lang/IllegalStateException", name := "<init>", desc := "(Ljava/lang/String;)V" } : Jvm.MethodName)) ∈ lw_U := lw_inU 448 (by decide +kernel) (by decide +kernel)
theorem hU_449 : (Jvm.Cond.instanceMethod ({ cls := "java/lang/IllegalStateException", name := "<init>", desc := "(Ljava/lang/String;)V" } : Jvm.MethodName)) ∈ lw_U := lw_inU 449 (by decide +kernel) (by decide +kernel)
theorem hU_450 : (Jvm.Cond.code ({ cls := "java/lang/IllegalStateException", name := "<init>", desc := "(Ljava/lang/String;)V" } : Jvm.MethodName) prog_11_method_2_code (2 : Nat) (Option.none : Option Jvm.ClassFile.FieldType)) ∈ lw_U := lw_inU 450 (by decide +kernel) (by decide +kernel)
theorem hU_451 : (Jvm.Cond.methodLink "java/lang/IllegalStateException" (7 : Nat) ({ cls := "java/lang/RuntimeException", name := "<init>", desc := "(Ljava/lang/String;)V" } : Jvm.MethodName)) ∈ lw_U := lw_inU 451 (by decide +kernel) (by decide +kernel)
theorem hU_453 : (Jvm.Cond.superclass "java/lang/IllegalStateException" "java/lang/RuntimeException") ∈ lw_U := lw_inU 453 (by decide +kernel) (by decide +kernel)
theorem hU_455 : (Jvm.Cond.instanceMethod ({ cls := "Strikehall$Contract", name := "<init>", desc := "(IIIZ)V" } : Jvm.MethodName)) ∈ lw_U := lw_inU 455 (by decide +kernel) (by decide +kernel)
theorem hU_456 : (Jvm.Cond.code ({ cls := "Strikehall$Contract", name := "<init>", desc := "(IIIZ)V" } : Jvm.MethodName) prog_2_method_1_code (5 : Nat) (Option.none : Option Jvm.ClassFile.FieldType)) ∈ lw_U := lw_inU 456 (by decide +kernel) (by decide +kernel)
theorem hU_457 : (Jvm.Cond.methodLink "Strikehall$Contract" (3 : Nat) ({ cls := "java/lang/Object", name := "<init>", desc := "()V" } : Jvm.MethodName)) ∈ lw_U := lw_inU 457 (by decide +kernel) (by decide +kernel)
theorem hU_458 : (Jvm.Cond.fieldLink "Strikehall$Contract" (32 : Nat) "Strikehall$Contract" "kind" "I") ∈ lw_U := lw_inU 458 (by decide +kernel) (by decide +kernel)
theorem hU_460 : (Jvm.Cond.fieldLink "Strikehall$Contract" (35 : Nat) "Strikehall$Contract" "strike" "I") ∈ lw_U := lw_inU 460 (by decide +kernel) (by decide +kernel)
theorem hU_462 : (Jvm.Cond.fieldLink "Strikehall$Contract" (38 : Nat) "Strikehall$Contract" "expiry" "I") ∈ lw_U := lw_inU 462 (by decide +kernel) (by decide +kernel)
theorem hU_465 : (Jvm.Cond.fieldLink "Strikehall$Contract" (41 : Nat) "Strikehall$Contract" "isAmerican" "Z") ∈ lw_U := lw_inU 465 (by decide +kernel) (by decide +kernel)
theorem hU_468 : (Jvm.Cond.fieldLink "Strikehall$Contract" (9 : Nat) "Strikehall$Contract" "held" "[I") ∈ lw_U := lw_inU 468 (by decide +kernel) (by decide +kernel)
theorem hU_469 : (Jvm.Cond.fieldLink "Strikehall$Contract" (15 : Nat) "Strikehall$Contract" "notices" "[Z") ∈ lw_U := lw_inU 469 (by decide +kernel) (by decide +kernel)
theorem hU_470 : (Jvm.Cond.fieldLink "Strikehall$Contract" (19 : Nat) "Strikehall$Contract" "bid" "I") ∈ lw_U := lw_inU 470 (by decide +kernel) (by decide +kernel)
theorem hU_472 : (Jvm.Cond.fieldLink "Strikehall$Contract" (23 : Nat) "Strikehall$Contract" "ask" "I") ∈ lw_U := lw_inU 472 (by decide +kernel) (by decide +kernel)
theorem hU_474 : (Jvm.Cond.fieldLink "Strikehall$Contract" (26 : Nat) "Strikehall$Contract" "bidLeft" "I") ∈ lw_U := lw_inU 474 (by decide +kernel) (by decide +kernel)
theorem hU_476 : (Jvm.Cond.fieldLink "Strikehall$Contract" (29 : Nat) "Strikehall$Contract" "askLeft" "I") ∈ lw_U := lw_inU 476 (by decide +kernel) (by decide +kernel)
theorem hU_498 : (Jvm.Cond.superclass "Strikehall$Contract" "java/lang/Object") ∈ lw_U := lw_inU 498 (by decide +kernel) (by decide +kernel)
theorem hU_499 : (Jvm.Cond.arrayClass Jvm.ClassFile.FieldType.boolean) ∈ lw_U := lw_inU 499 (by decide +kernel) (by decide +kernel)
theorem hU_500 : (Jvm.Cond.methodLink "Strikehall" (101 : Nat) ({ cls := "java/util/ArrayList", name := "add", desc := "(Ljava/lang/Object;)Z" } : Jvm.MethodName)) ∈ lw_U := lw_inU 500 (by decide +kernel) (by decide +kernel)
theorem hU_501 : (Jvm.Cond.instanceMethod ({ cls := "java/util/ArrayList", name := "add", desc := "(Ljava/lang/Object;)Z" } : Jvm.MethodName)) ∈ lw_U := lw_inU 501 (by decide +kernel) (by decide +kernel)
theorem hU_502 : (Jvm.Cond.selects "java/util/ArrayList" ({ cls := "java/util/ArrayList", name := "add", desc := "(Ljava/lang/Object;)Z" } : Jvm.MethodName) ({ cls := "java/util/ArrayList", name := "add", desc := "(Ljava/lang/Object;)Z" } : Jvm.MethodName)) ∈ lw_U := lw_inU 502 (by decide +kernel) (by decide +kernel)
theorem hU_503 : (Jvm.Cond.code ({ cls := "java/util/ArrayList", name := "add", desc := "(Ljava/lang/Object;)Z" } : Jvm.MethodName) prog_21_method_25_code (2 : Nat) (Option.some Jvm.ClassFile.FieldType.boolean)) ∈ lw_U := lw_inU 503 (by decide +kernel) (by decide +kernel)
theorem hU_504 : (Jvm.Cond.methodLink "java/util/ArrayList" (131 : Nat) ({ cls := "java/util/ArrayList", name := "add", desc := "(Ljava/lang/Object;[Ljava/lang/Object;I)V" } : Jvm.MethodName)) ∈ lw_U := lw_inU 504 (by decide +kernel) (by decide +kernel)
theorem hU_506 : (Jvm.Cond.instanceMethod ({ cls := "java/util/ArrayList", name := "add", desc := "(Ljava/lang/Object;[Ljava/lang/Object;I)V" } : Jvm.MethodName)) ∈ lw_U := lw_inU 506 (by decide +kernel) (by decide +kernel)
theorem hU_507 : (Jvm.Cond.code ({ cls := "java/util/ArrayList", name := "add", desc := "(Ljava/lang/Object;[Ljava/lang/Object;I)V" } : Jvm.MethodName) prog_21_method_24_code (4 : Nat) (Option.none : Option Jvm.ClassFile.FieldType)) ∈ lw_U := lw_inU 507 (by decide +kernel) (by decide +kernel)
theorem hU_508 : (Jvm.Cond.methodLink "java/util/ArrayList" (129 : Nat) ({ cls := "java/util/ArrayList", name := "grow", desc := "()[Ljava/lang/Object;" } : Jvm.MethodName)) ∈ lw_U := lw_inU 508 (by decide +kernel) (by decide +kernel)
theorem hU_510 : (Jvm.Cond.instanceMethod ({ cls := "java/util/ArrayList", name := "grow", desc := "()[Ljava/lang/Object;" } : Jvm.MethodName)) ∈ lw_U := lw_inU 510 (by decide +kernel) (by decide +kernel)
theorem hU_511 : (Jvm.Cond.code ({ cls := "java/util/ArrayList", name := "grow", desc := "()[Ljava/lang/Object;" } : Jvm.MethodName) prog_21_method_7_code (1 : Nat) (Option.some (Jvm.ClassFile.FieldType.array (Jvm.ClassFile.FieldType.object "java/lang/Object")))) ∈ lw_U := lw_inU 511 (by decide +kernel) (by decide +kernel)
theorem hU_512 : (Jvm.Cond.methodLink "java/util/ArrayList" (69 : Nat) ({ cls := "java/util/ArrayList", name := "grow", desc := "(I)[Ljava/lang/Object;" } : Jvm.MethodName)) ∈ lw_U := lw_inU 512 (by decide +kernel) (by decide +kernel)
theorem hU_514 : (Jvm.Cond.instanceMethod ({ cls := "java/util/ArrayList", name := "grow", desc := "(I)[Ljava/lang/Object;" } : Jvm.MethodName)) ∈ lw_U := lw_inU 514 (by decide +kernel) (by decide +kernel)
theorem hU_515 : (Jvm.Cond.code ({ cls := "java/util/ArrayList", name := "grow", desc := "(I)[Ljava/lang/Object;" } : Jvm.MethodName) prog_21_method_6_code (4 : Nat) (Option.some (Jvm.ClassFile.FieldType.array (Jvm.ClassFile.FieldType.object "java/lang/Object")))) ∈ lw_U := lw_inU 515 (by decide +kernel) (by decide +kernel)
theorem hU_516 : (Jvm.Cond.methodLink "java/util/ArrayList" (73 : Nat) ({ cls := "jdk/internal/util/ArraysSupport", name := "newLength", desc := "(III)I" } : Jvm.MethodName)) ∈ lw_U := lw_inU 516 (by decide +kernel) (by decide +kernel)
theorem hU_517 : (Jvm.Cond.static ({ cls := "jdk/internal/util/ArraysSupport", name := "newLength", desc := "(III)I" } : Jvm.MethodName)) ∈ lw_U := lw_inU 517 (by decide +kernel) (by decide +kernel)
theorem hU_518 : (Jvm.Cond.code ({ cls := "jdk/internal/util/ArraysSupport", name := "newLength", desc := "(III)I" } : Jvm.MethodName) prog_28_method_27_code (4 : Nat) (Option.some Jvm.ClassFile.FieldType.int)) ∈ lw_U := lw_inU 518 (by decide +kernel) (by decide +kernel)
theorem hU_519 : (Jvm.Cond.methodLink "jdk/internal/util/ArraysSupport" (194 : Nat) ({ cls := "java/lang/Math", name := "max", desc := "(II)I" } : Jvm.MethodName)) ∈ lw_U := lw_inU 519 (by decide +kernel) (by decide +kernel)
theorem hU_520 : (Jvm.Cond.constant "jdk/internal/util/ArraysSupport" (200 : Nat) (2147483639 : Int32)) ∈ lw_U := lw_inU 520 (by decide +kernel) (by decide +kernel)
theorem hU_521 : (Jvm.Cond.methodLink "jdk/internal/util/ArraysSupport" (201 : Nat) ({ cls := "jdk/internal/util/ArraysSupport", name := "hugeLength", desc := "(II)I" } : Jvm.MethodName)) ∈ lw_U := lw_inU 521 (by decide +kernel) (by decide +kernel)
theorem hU_522 : (Jvm.Cond.static ({ cls := "jdk/internal/util/ArraysSupport", name := "hugeLength", desc := "(II)I" } : Jvm.MethodName)) ∈ lw_U := lw_inU 522 (by decide +kernel) (by decide +kernel)
theorem hU_523 : (Jvm.Cond.code ({ cls := "jdk/internal/util/ArraysSupport", name := "hugeLength", desc := "(II)I" } : Jvm.MethodName) prog_28_method_28_code (3 : Nat) (Option.some Jvm.ClassFile.FieldType.int)) ∈ lw_U := lw_inU 523 (by decide +kernel) (by decide +kernel)
theorem hU_524 : (Jvm.Cond.methodLink "java/util/ArrayList" (66 : Nat) ({ cls := "java/util/Arrays", name := "copyOf", desc := "([Ljava/lang/Object;I)[Ljava/lang/Object;" } : Jvm.MethodName)) ∈ lw_U := lw_inU 524 (by decide +kernel) (by decide +kernel)
theorem hU_525 : (Jvm.Cond.static ({ cls := "java/util/Arrays", name := "copyOf", desc := "([Ljava/lang/Object;I)[Ljava/lang/Object;" } : Jvm.MethodName)) ∈ lw_U := lw_inU 525 (by decide +kernel) (by decide +kernel)
theorem hU_526 : (Jvm.Cond.code ({ cls := "java/util/Arrays", name := "copyOf", desc := "([Ljava/lang/Object;I)[Ljava/lang/Object;" } : Jvm.MethodName) prog_22_method_119_code (2 : Nat) (Option.some (Jvm.ClassFile.FieldType.array (Jvm.ClassFile.FieldType.object "java/lang/Object")))) ∈ lw_U := lw_inU 526 (by decide +kernel) (by decide +kernel)
theorem hU_527 : (Jvm.Cond.methodLink "java/util/Arrays" (86 : Nat) ({ cls := "java/lang/Object", name := "getClass", desc := "()Ljava/lang/Class;" } : Jvm.MethodName)) ∈ lw_U := lw_inU 527 (by decide +kernel) (by decide +kernel)
theorem hU_528 : (Jvm.Cond.instanceMethod ({ cls := "java/lang/Object", name := "getClass", desc := "()Ljava/lang/Class;" } : Jvm.MethodName)) ∈ lw_U := lw_inU 528 (by decide +kernel) (by decide +kernel)
theorem hU_530 : (Jvm.Cond.selects "Strikehall" ({ cls := "java/lang/Object", name := "getClass", desc := "()Ljava/lang/Class;" } : Jvm.MethodName) ({ cls := "java/lang/Object", name := "getClass", desc := "()Ljava/lang/Class;" } : Jvm.MethodName)) ∈ lw_U := lw_inU 530 (by decide +kernel) (by decide +kernel)
theorem hU_531 : (Jvm.Cond.selects "Strikehall$Contract" ({ cls := "java/lang/Object", name := "getClass", desc := "()Ljava/lang/Class;" } : Jvm.MethodName) ({ cls := "java/lang/Object", name := "getClass", desc := "()Ljava/lang/Class;" } : Jvm.MethodName)) ∈ lw_U := lw_inU 531 (by decide +kernel) (by decide +kernel)
theorem hU_532 : (Jvm.Cond.selects "Strikehall$Lottery" ({ cls := "java/lang/Object", name := "getClass", desc := "()Ljava/lang/Class;" } : Jvm.MethodName) ({ cls := "java/lang/Object", name := "getClass", desc := "()Ljava/lang/Class;" } : Jvm.MethodName)) ∈ lw_U := lw_inU 532 (by decide +kernel) (by decide +kernel)
theorem hU_533 : (Jvm.Cond.selects "Strikehall$Share" ({ cls := "java/lang/Object", name := "getClass", desc := "()Ljava/lang/Class;" } : Jvm.MethodName) ({ cls := "java/lang/Object", name := "getClass", desc := "()Ljava/lang/Class;" } : Jvm.MethodName)) ∈ lw_U := lw_inU 533 (by decide +kernel) (by decide +kernel)
theorem hU_534 : (Jvm.Cond.selects "StrikehallModel" ({ cls := "java/lang/Object", name := "getClass", desc := "()Ljava/lang/Class;" } : Jvm.MethodName) ({ cls := "java/lang/Object", name := "getClass", desc := "()Ljava/lang/Class;" } : Jvm.MethodName)) ∈ lw_U := lw_inU 534 (by decide +kernel) (by decide +kernel)
theorem hU_535 : (Jvm.Cond.selects "java/lang/IllegalArgumentException" ({ cls := "java/lang/Object", name := "getClass", desc := "()Ljava/lang/Class;" } : Jvm.MethodName) ({ cls := "java/lang/Object", name := "getClass", desc := "()Ljava/lang/Class;" } : Jvm.MethodName)) ∈ lw_U := lw_inU 535 (by decide +kernel) (by decide +kernel)
theorem hU_536 : (Jvm.Cond.selects "java/lang/IllegalStateException" ({ cls := "java/lang/Object", name := "getClass", desc := "()Ljava/lang/Class;" } : Jvm.MethodName) ({ cls := "java/lang/Object", name := "getClass", desc := "()Ljava/lang/Class;" } : Jvm.MethodName)) ∈ lw_U := lw_inU 536 (by decide +kernel) (by decide +kernel)
theorem hU_537 : (Jvm.Cond.selects "java/lang/IndexOutOfBoundsException" ({ cls := "java/lang/Object", name := "getClass", desc := "()Ljava/lang/Class;" } : Jvm.MethodName) ({ cls := "java/lang/Object", name := "getClass", desc := "()Ljava/lang/Class;" } : Jvm.MethodName)) ∈ lw_U := lw_inU 537 (by decide +kernel) (by decide +kernel)
theorem hU_538 : (Jvm.Cond.selects "java/util/ArrayList" ({ cls := "java/lang/Object", name := "getClass", desc := "()Ljava/lang/Class;" } : Jvm.MethodName) ({ cls := "java/lang/Object", name := "getClass", desc := "()Ljava/lang/Class;" } : Jvm.MethodName)) ∈ lw_U := lw_inU 538 (by decide +kernel) (by decide +kernel)
theorem hU_539 : (Jvm.Cond.native ({ cls := "java/lang/Object", name := "getClass", desc := "()Ljava/lang/Class;" } : Jvm.MethodName)) ∈ lw_U := lw_inU 539 (by decide +kernel) (by decide +kernel)
theorem hU_540 : (Jvm.Cond.methodLink "java/util/Arrays" (300 : Nat) ({ cls := "java/util/Arrays", name := "copyOf", desc := "([Ljava/lang/Object;ILjava/lang/Class;)[Ljava/lang/Object;" } : Jvm.MethodName)) ∈ lw_U := lw_inU 540 (by decide +kernel) (by decide +kernel)
theorem hU_541 : (Jvm.Cond.static ({ cls := "java/util/Arrays", name := "copyOf", desc := "([Ljava/lang/Object;ILjava/lang/Class;)[Ljava/lang/Object;" } : Jvm.MethodName)) ∈ lw_U := lw_inU 541 (by decide +kernel) (by decide +kernel)
theorem hU_542 : (Jvm.Cond.code ({ cls := "java/util/Arrays", name := "copyOf", desc := "([Ljava/lang/Object;ILjava/lang/Class;)[Ljava/lang/Object;" } : Jvm.MethodName) prog_22_method_120_code (4 : Nat) (Option.some (Jvm.ClassFile.FieldType.array (Jvm.ClassFile.FieldType.object "java/lang/Object")))) ∈ lw_U := lw_inU 542 (by decide +kernel) (by decide +kernel)
theorem hU_543 : (Jvm.Cond.classLink "java/util/Arrays" (110 : Nat) "[Ljava/lang/Object;") ∈ lw_U := lw_inU 543 (by decide +kernel) (by decide +kernel)
theorem hU_545 : (Jvm.Cond.classLink "java/util/Arrays" (2 : Nat) "java/lang/Object") ∈ lw_U := lw_inU 545 (by decide +kernel) (by decide +kernel)
theorem hU_546 : (Jvm.Cond.methodLink "java/util/Arrays" (304 : Nat) ({ cls := "java/lang/Math", name := "min", desc := "(II)I" } : Jvm.MethodName)) ∈ lw_U := lw_inU 546 (by decide +kernel) (by decide +kernel)
theorem hU_547 : (Jvm.Cond.methodLink "java/util/Arrays" (150 : Nat) ({ cls := "java/lang/System", name := "arraycopy", desc := "(Ljava/lang/Object;ILjava/lang/Object;II)V" } : Jvm.MethodName)) ∈ lw_U := lw_inU 547 (by decide +kernel) (by decide +kernel)
theorem hU_548 : (Jvm.Cond.static ({ cls := "java/lang/System", name := "arraycopy", desc := "(Ljava/lang/Object;ILjava/lang/Object;II)V" } : Jvm.MethodName)) ∈ lw_U := lw_inU 548 (by decide +kernel) (by decide +kernel)
theorem hU_549 : (Jvm.Cond.native ({ cls := "java/lang/System", name := "arraycopy", desc := "(Ljava/lang/Object;ILjava/lang/Object;II)V" } : Jvm.MethodName)) ∈ lw_U := lw_inU 549 (by decide +kernel) (by decide +kernel)
theorem hU_550 : (Jvm.Cond.methodLink "java/util/ArrayList" (79 : Nat) ({ cls := "java/lang/Math", name := "max", desc := "(II)I" } : Jvm.MethodName)) ∈ lw_U := lw_inU 550 (by decide +kernel) (by decide +kernel)
theorem hU_551 : (Jvm.Cond.classLink "java/util/ArrayList" (7 : Nat) "java/lang/Object") ∈ lw_U := lw_inU 551 (by decide +kernel) (by decide +kernel)
theorem hU_552 : (Jvm.Cond.methodLink "StrikehallLaw" (111 : Nat) ({ cls := "StrikehallLaw", name := "quote", desc := "(LStrikehall;IIII[J)I" } : Jvm.MethodName)) ∈ lw_U := lw_inU 552 (by decide +kernel) (by decide +kernel)
theorem hU_553 : (Jvm.Cond.static ({ cls := "StrikehallLaw", name := "quote", desc := "(LStrikehall;IIII[J)I" } : Jvm.MethodName)) ∈ lw_U := lw_inU 553 (by decide +kernel) (by decide +kernel)
theorem hU_554 : (Jvm.Cond.codeWith ({ cls := "StrikehallLaw", name := "quote", desc := "(LStrikehall;IIII[J)I" } : Jvm.MethodName) method_7_code (7 : Nat) (Option.some Jvm.ClassFile.FieldType.int) [((0 : Nat), (14 : Nat), (17 : Nat), (33 : Nat)), ((0 : Nat), (14 : Nat), (21 : Nat), (13 : Nat)), ((0 : Nat), (14 : Nat), (25 : Nat), (27 : Nat))]) ∈ lw_U := lw_inU 554 (by decide +kernel) (by decide +kernel)
theorem hU_555 : (Jvm.Cond.classLink "StrikehallLaw" (33 : Nat) "java/lang/IndexOutOfBoundsException") ∈ lw_U := lw_inU 555 (by decide +kernel) (by decide +kernel)
theorem hU_556 : (Jvm.Cond.methodLink "StrikehallLaw" (29 : Nat) ({ cls := "Strikehall", name := "quote", desc := "(IIII)I" } : Jvm.MethodName)) ∈ lw_U := lw_inU 556 (by decide +kernel) (by decide +kernel)
theorem hU_557 : (Jvm.Cond.instanceMethod ({ cls := "Strikehall", name := "quote", desc := "(IIII)I" } : Jvm.MethodName)) ∈ lw_U := lw_inU 557 (by decide +kernel) (by decide +kernel)
theorem hU_558 : (Jvm.Cond.selects "Strikehall" ({ cls := "Strikehall", name := "quote", desc := "(IIII)I" } : Jvm.MethodName) ({ cls := "Strikehall", name := "quote", desc := "(IIII)I" } : Jvm.MethodName)) ∈ lw_U := lw_inU 558 (by decide +kernel) (by decide +kernel)
theorem hU_559 : (Jvm.Cond.code ({ cls := "Strikehall", name := "quote", desc := "(IIII)I" } : Jvm.MethodName) prog_1_method_6_code (6 : Nat) (Option.some Jvm.ClassFile.FieldType.int)) ∈ lw_U := lw_inU 559 (by decide +kernel) (by decide +kernel)
theorem hU_560 : (Jvm.Cond.methodLink "Strikehall" (105 : Nat) ({ cls := "Strikehall", name := "contractOf", desc := "(I)LStrikehall$Contract;" } : Jvm.MethodName)) ∈ lw_U := lw_inU 560 (by decide +kernel) (by decide +kernel)
theorem hU_562 : (Jvm.Cond.instanceMethod ({ cls := "Strikehall", name := "contractOf", desc := "(I)LStrikehall$Contract;" } : Jvm.MethodName)) ∈ lw_U := lw_inU 562 (by decide +kernel) (by decide +kernel)
theorem hU_563 : (Jvm.Cond.code ({ cls := "Strikehall", name := "contractOf", desc := "(I)LStrikehall$Contract;" } : Jvm.MethodName) prog_1_method_29_code (2 : Nat) (Option.some (Jvm.ClassFile.FieldType.object "Strikehall$Contract"))) ∈ lw_U := lw_inU 563 (by decide +kernel) (by decide +kernel)
theorem hU_564 : (Jvm.Cond.classLink "Strikehall" (237 : Nat) "java/lang/IndexOutOfBoundsException") ∈ lw_U := lw_inU 564 (by decide +kernel) (by decide +kernel)
theorem hU_565 : (Jvm.Cond.instantiable "java/lang/IndexOutOfBoundsException" (6 : Nat)) ∈ lw_U := lw_inU 565 (by decide +kernel) (by decide +kernel)
theorem hU_567 : (Jvm.Cond.selects "java/lang/IndexOutOfBoundsException" ({ cls := "java/lang/Throwable", name := "fillInStackTrace", desc := "(I)Ljava/lang/Throwable;" } : Jvm.MethodName) ({ cls := "java/lang/Throwable", name := "fillInStackTrace", desc := "(I)Ljava/lang/Throwable;" } : Jvm.MethodName)) ∈ lw_U := lw_inU 567 (by decide +kernel) (by decide +kernel)
theorem hU_574 : (Jvm.Cond.methodLink "Strikehall" (241 : Nat) ({ cls := "java/lang/IndexOutOfBoundsException", name := "<init>", desc := "(Ljava/lang/String;)V" } : Jvm.MethodName)) ∈ lw_U := lw_inU 574 (by decide +kernel) (by decide +kernel)
theorem hU_575 : (Jvm.Cond.instanceMethod ({ cls := "java/lang/IndexOutOfBoundsException", name := "<init>", desc := "(Ljava/lang/String;)V" } : Jvm.MethodName)) ∈ lw_U := lw_inU 575 (by decide +kernel) (by decide +kernel)
theorem hU_576 : (Jvm.Cond.code ({ cls := "java/lang/IndexOutOfBoundsException", name := "<init>", desc := "(Ljava/lang/String;)V" } : Jvm.MethodName) prog_12_method_2_code (2 : Nat) (Option.none : Option Jvm.ClassFile.FieldType)) ∈ lw_U := lw_inU 576 (by decide +kernel) (by decide +kernel)
theorem hU_577 : (Jvm.Cond.methodLink "java/lang/IndexOutOfBoundsException" (7 : Nat) ({ cls := "java/lang/RuntimeException", name := "<init>", desc := "(Ljava/lang/String;)V" } : Jvm.MethodName)) ∈ lw_U := lw_inU 577 (by decide +kernel) (by decide +kernel)
theorem hU_579 : (Jvm.Cond.superclass "java/lang/IndexOutOfBoundsException" "java/lang/RuntimeException") ∈ lw_U := lw_inU 579 (by decide +kernel) (by decide +kernel)
theorem hU_580 : (Jvm.Cond.methodLink "Strikehall" (109 : Nat) ({ cls := "Strikehall", name := "checkNotOver", desc := "(LStrikehall$Contract;)V" } : Jvm.MethodName)) ∈ lw_U := lw_inU 580 (by decide +kernel) (by decide +kernel)
theorem hU_582 : (Jvm.Cond.instanceMethod ({ cls := "Strikehall", name := "checkNotOver", desc := "(LStrikehall$Contract;)V" } : Jvm.MethodName)) ∈ lw_U := lw_inU 582 (by decide +kernel) (by decide +kernel)
theorem hU_583 : (Jvm.Cond.code ({ cls := "Strikehall", name := "checkNotOver", desc := "(LStrikehall$Contract;)V" } : Jvm.MethodName) prog_1_method_27_code (2 : Nat) (Option.none : Option Jvm.ClassFile.FieldType)) ∈ lw_U := lw_inU 583 (by decide +kernel) (by decide +kernel)
theorem hU_586 : (Jvm.Cond.methodLink "StrikehallLaw" (119 : Nat) ({ cls := "StrikehallLaw", name := "limit", desc := "(LStrikehall;I[J)I" } : Jvm.MethodName)) ∈ lw_U := lw_inU 586 (by decide +kernel) (by decide +kernel)
theorem hU_587 : (Jvm.Cond.static ({ cls := "StrikehallLaw", name := "limit", desc := "(LStrikehall;I[J)I" } : Jvm.MethodName)) ∈ lw_U := lw_inU 587 (by decide +kernel) (by decide +kernel)
theorem hU_588 : (Jvm.Cond.codeWith ({ cls := "StrikehallLaw", name := "limit", desc := "(LStrikehall;I[J)I" } : Jvm.MethodName) method_8_code (4 : Nat) (Option.some Jvm.ClassFile.FieldType.int) [((0 : Nat), (9 : Nat), (12 : Nat), (13 : Nat))]) ∈ lw_U := lw_inU 588 (by decide +kernel) (by decide +kernel)
theorem hU_589 : (Jvm.Cond.methodLink "StrikehallLaw" (35 : Nat) ({ cls := "Strikehall", name := "limit", desc := "(I)I" } : Jvm.MethodName)) ∈ lw_U := lw_inU 589 (by decide +kernel) (by decide +kernel)
theorem hU_590 : (Jvm.Cond.instanceMethod ({ cls := "Strikehall", name := "limit", desc := "(I)I" } : Jvm.MethodName)) ∈ lw_U := lw_inU 590 (by decide +kernel) (by decide +kernel)
theorem hU_591 : (Jvm.Cond.selects "Strikehall" ({ cls := "Strikehall", name := "limit", desc := "(I)I" } : Jvm.MethodName) ({ cls := "Strikehall", name := "limit", desc := "(I)I" } : Jvm.MethodName)) ∈ lw_U := lw_inU 591 (by decide +kernel) (by decide +kernel)
theorem hU_592 : (Jvm.Cond.code ({ cls := "Strikehall", name := "limit", desc := "(I)I" } : Jvm.MethodName) prog_1_method_8_code (3 : Nat) (Option.some Jvm.ClassFile.FieldType.int)) ∈ lw_U := lw_inU 592 (by decide +kernel) (by decide +kernel)
theorem hU_593 : (Jvm.Cond.methodLink "StrikehallLaw" (122 : Nat) ({ cls := "StrikehallLaw", name := "order", desc := "(LStrikehall;IIII[J)I" } : Jvm.MethodName)) ∈ lw_U := lw_inU 593 (by decide +kernel) (by decide +kernel)
theorem hU_594 : (Jvm.Cond.static ({ cls := "StrikehallLaw", name := "order", desc := "(LStrikehall;IIII[J)I" } : Jvm.MethodName)) ∈ lw_U := lw_inU 594 (by decide +kernel) (by decide +kernel)
theorem hU_595 : (Jvm.Cond.codeWith ({ cls := "StrikehallLaw", name := "order", desc := "(LStrikehall;IIII[J)I" } : Jvm.MethodName) method_9_code (7 : Nat) (Option.some Jvm.ClassFile.FieldType.int) [((0 : Nat), (14 : Nat), (17 : Nat), (33 : Nat)), ((0 : Nat), (14 : Nat), (21 : Nat), (13 : Nat)), ((0 : Nat), (14 : Nat), (25 : Nat), (27 : Nat))]) ∈ lw_U := lw_inU 595 (by decide +kernel) (by decide +kernel)
theorem hU_596 : (Jvm.Cond.methodLink "StrikehallLaw" (39 : Nat) ({ cls := "Strikehall", name := "order", desc := "(IIII)I" } : Jvm.MethodName)) ∈ lw_U := lw_inU 596 (by decide +kernel) (by decide +kernel)
theorem hU_597 : (Jvm.Cond.instanceMethod ({ cls := "Strikehall", name := "order", desc := "(IIII)I" } : Jvm.MethodName)) ∈ lw_U := lw_inU 597 (by decide +kernel) (by decide +kernel)
theorem hU_598 : (Jvm.Cond.selects "Strikehall" ({ cls := "Strikehall", name := "order", desc := "(IIII)I" } : Jvm.MethodName) ({ cls := "Strikehall", name := "order", desc := "(IIII)I" } : Jvm.MethodName)) ∈ lw_U := lw_inU 598 (by decide +kernel) (by decide +kernel)
theorem hU_599 : (Jvm.Cond.code ({ cls := "Strikehall", name := "order", desc := "(IIII)I" } : Jvm.MethodName) prog_1_method_9_code (9 : Nat) (Option.some Jvm.ClassFile.FieldType.int)) ∈ lw_U := lw_inU 599 (by decide +kernel) (by decide +kernel)
theorem hU_600 : (Jvm.Cond.methodLink "Strikehall" (130 : Nat) ({ cls := "Strikehall", name := "checkCustomer", desc := "(I)V" } : Jvm.MethodName)) ∈ lw_U := lw_inU 600 (by decide +kernel) (by decide +kernel)
theorem hU_601 : (Jvm.Cond.static ({ cls := "Strikehall", name := "checkCustomer", desc := "(I)V" } : Jvm.MethodName)) ∈ lw_U := lw_inU 601 (by decide +kernel) (by decide +kernel)
theorem hU_602 : (Jvm.Cond.code ({ cls := "Strikehall", name := "checkCustomer", desc := "(I)V" } : Jvm.MethodName) prog_1_method_26_code (1 : Nat) (Option.none : Option Jvm.ClassFile.FieldType)) ∈ lw_U := lw_inU 602 (by decide +kernel) (by decide +kernel)
theorem hU_605 : (Jvm.Cond.methodLink "Strikehall" (139 : Nat) ({ cls := "Strikehall", name := "buy", desc := "(ILStrikehall$Contract;II)I" } : Jvm.MethodName)) ∈ lw_U := lw_inU 605 (by decide +kernel) (by decide +kernel)
theorem hU_607 : (Jvm.Cond.instanceMethod ({ cls := "Strikehall", name := "buy", desc := "(ILStrikehall$Contract;II)I" } : Jvm.MethodName)) ∈ lw_U := lw_inU 607 (by decide +kernel) (by decide +kernel)
theorem hU_608 : (Jvm.Cond.code ({ cls := "Strikehall", name := "buy", desc := "(ILStrikehall$Contract;II)I" } : Jvm.MethodName) prog_1_method_35_code (7 : Nat) (Option.some Jvm.ClassFile.FieldType.int)) ∈ lw_U := lw_inU 608 (by decide +kernel) (by decide +kernel)
theorem hU_609 : (Jvm.Cond.methodLink "Strikehall" (258 : Nat) ({ cls := "java/lang/Math", name := "max", desc := "(II)I" } : Jvm.MethodName)) ∈ lw_U := lw_inU 609 (by decide +kernel) (by decide +kernel)
theorem hU_610 : (Jvm.Cond.methodLink "Strikehall" (260 : Nat) ({ cls := "Strikehall", name := "deal", desc := "(ILStrikehall$Contract;II)V" } : Jvm.MethodName)) ∈ lw_U := lw_inU 610 (by decide +kernel) (by decide +kernel)
theorem hU_612 : (Jvm.Cond.instanceMethod ({ cls := "Strikehall", name := "deal", desc := "(ILStrikehall$Contract;II)V" } : Jvm.MethodName)) ∈ lw_U := lw_inU 612 (by decide +kernel) (by decide +kernel)
theorem hU_613 : (Jvm.Cond.code ({ cls := "Strikehall", name := "deal", desc := "(ILStrikehall$Contract;II)V" } : Jvm.MethodName) prog_1_method_37_code (7 : Nat) (Option.none : Option Jvm.ClassFile.FieldType)) ∈ lw_U := lw_inU 613 (by decide +kernel) (by decide +kernel)
theorem hU_616 : (Jvm.Cond.instanceMethod ({ cls := "Strikehall$Contract", name := "addLots", desc := "(II)V" } : Jvm.MethodName)) ∈ lw_U := lw_inU 616 (by decide +kernel) (by decide +kernel)
theorem hU_617 : (Jvm.Cond.code ({ cls := "Strikehall$Contract", name := "addLots", desc := "(II)V" } : Jvm.MethodName) prog_2_method_10_code (3 : Nat) (Option.none : Option Jvm.ClassFile.FieldType)) ∈ lw_U := lw_inU 617 (by decide +kernel) (by decide +kernel)
theorem hU_618 : (Jvm.Cond.methodLink "Strikehall" (150 : Nat) ({ cls := "Strikehall", name := "addMoney", desc := "(IJ)V" } : Jvm.MethodName)) ∈ lw_U := lw_inU 618 (by decide +kernel) (by decide +kernel)
theorem hU_620 : (Jvm.Cond.instanceMethod ({ cls := "Strikehall", name := "addMoney", desc := "(IJ)V" } : Jvm.MethodName)) ∈ lw_U := lw_inU 620 (by decide +kernel) (by decide +kernel)
theorem hU_621 : (Jvm.Cond.code ({ cls := "Strikehall", name := "addMoney", desc := "(IJ)V" } : Jvm.MethodName) prog_1_method_31_code (4 : Nat) (Option.none : Option Jvm.ClassFile.FieldType)) ∈ lw_U := lw_inU 621 (by decide +kernel) (by decide +kernel)
theorem hU_624 : (Jvm.Cond.instanceMethod ({ cls := "Strikehall$Contract", name := "useQuote", desc := "(II)V" } : Jvm.MethodName)) ∈ lw_U := lw_inU 624 (by decide +kernel) (by decide +kernel)
theorem hU_625 : (Jvm.Cond.code ({ cls := "Strikehall$Contract", name := "useQuote", desc := "(II)V" } : Jvm.MethodName) prog_2_method_4_code (3 : Nat) (Option.none : Option Jvm.ClassFile.FieldType)) ∈ lw_U := lw_inU 625 (by decide +kernel) (by decide +kernel)
theorem hU_626 : (Jvm.Cond.methodLink "Strikehall" (143 : Nat) ({ cls := "Strikehall", name := "sell", desc := "(ILStrikehall$Contract;II)I" } : Jvm.MethodName)) ∈ lw_U := lw_inU 626 (by decide +kernel) (by decide +kernel)
theorem hU_628 : (Jvm.Cond.instanceMethod ({ cls := "Strikehall", name := "sell", desc := "(ILStrikehall$Contract;II)I" } : Jvm.MethodName)) ∈ lw_U := lw_inU 628 (by decide +kernel) (by decide +kernel)
theorem hU_629 : (Jvm.Cond.code ({ cls := "Strikehall", name := "sell", desc := "(ILStrikehall$Contract;II)I" } : Jvm.MethodName) prog_1_method_36_code (7 : Nat) (Option.some Jvm.ClassFile.FieldType.int)) ∈ lw_U := lw_inU 629 (by decide +kernel) (by decide +kernel)
theorem hU_630 : (Jvm.Cond.methodLink "StrikehallLaw" (125 : Nat) ({ cls := "StrikehallLaw", name := "hedge", desc := "(LStrikehall;II[J)I" } : Jvm.MethodName)) ∈ lw_U := lw_inU 630 (by decide +kernel) (by decide +kernel)
theorem hU_631 : (Jvm.Cond.static ({ cls := "StrikehallLaw", name := "hedge", desc := "(LStrikehall;II[J)I" } : Jvm.MethodName)) ∈ lw_U := lw_inU 631 (by decide +kernel) (by decide +kernel)
theorem hU_632 : (Jvm.Cond.codeWith ({ cls := "StrikehallLaw", name := "hedge", desc := "(LStrikehall;II[J)I" } : Jvm.MethodName) method_10_code (5 : Nat) (Option.some Jvm.ClassFile.FieldType.int) [((0 : Nat), (10 : Nat), (13 : Nat), (13 : Nat))]) ∈ lw_U := lw_inU 632 (by decide +kernel) (by decide +kernel)
theorem hU_633 : (Jvm.Cond.methodLink "StrikehallLaw" (42 : Nat) ({ cls := "Strikehall", name := "hedge", desc := "(II)I" } : Jvm.MethodName)) ∈ lw_U := lw_inU 633 (by decide +kernel) (by decide +kernel)
theorem hU_634 : (Jvm.Cond.instanceMethod ({ cls := "Strikehall", name := "hedge", desc := "(II)I" } : Jvm.MethodName)) ∈ lw_U := lw_inU 634 (by decide +kernel) (by decide +kernel)
theorem hU_635 : (Jvm.Cond.selects "Strikehall" ({ cls := "Strikehall", name := "hedge", desc := "(II)I" } : Jvm.MethodName) ({ cls := "Strikehall", name := "hedge", desc := "(II)I" } : Jvm.MethodName)) ∈ lw_U := lw_inU 635 (by decide +kernel) (by decide +kernel)
theorem hU_636 : (Jvm.Cond.code ({ cls := "Strikehall", name := "hedge", desc := "(II)I" } : Jvm.MethodName) prog_1_method_10_code (5 : Nat) (Option.some Jvm.ClassFile.FieldType.int)) ∈ lw_U := lw_inU 636 (by decide +kernel) (by decide +kernel)
theorem hU_637 : (Jvm.Cond.constant "Strikehall" (146 : Nat) (-100000 : Int32)) ∈ lw_U := lw_inU 637 (by decide +kernel) (by decide +kernel)
theorem hU_638 : (Jvm.Cond.constant "Strikehall" (147 : Nat) (100000 : Int32)) ∈ lw_U := lw_inU 638 (by decide +kernel) (by decide +kernel)
theorem hU_639 : (Jvm.Cond.constantLong "Strikehall" (148 : Nat) (-1000 : Int64)) ∈ lw_U := lw_inU 639 (by decide +kernel) (by decide +kernel)
theorem hU_640 : (Jvm.Cond.methodLink "Strikehall" (153 : Nat) ({ cls := "java/lang/Math", name := "abs", desc := "(I)I" } : Jvm.MethodName)) ∈ lw_U := lw_inU 640 (by decide +kernel) (by decide +kernel)
theorem hU_641 : (Jvm.Cond.static ({ cls := "java/lang/Math", name := "abs", desc := "(I)I" } : Jvm.MethodName)) ∈ lw_U := lw_inU 641 (by decide +kernel) (by decide +kernel)
theorem hU_642 : (Jvm.Cond.code ({ cls := "java/lang/Math", name := "abs", desc := "(I)I" } : Jvm.MethodName) prog_14_method_59_code (1 : Nat) (Option.some Jvm.ClassFile.FieldType.int)) ∈ lw_U := lw_inU 642 (by decide +kernel) (by decide +kernel)
theorem hU_643 : (Jvm.Cond.methodLink "StrikehallLaw" (128 : Nat) ({ cls := "StrikehallLaw", name := "seed", desc := "(LStrikehall;I)I" } : Jvm.MethodName)) ∈ lw_U := lw_inU 643 (by decide +kernel) (by decide +kernel)
theorem hU_644 : (Jvm.Cond.static ({ cls := "StrikehallLaw", name := "seed", desc := "(LStrikehall;I)I" } : Jvm.MethodName)) ∈ lw_U := lw_inU 644 (by decide +kernel) (by decide +kernel)
theorem hU_645 : (Jvm.Cond.codeWith ({ cls := "StrikehallLaw", name := "seed", desc := "(LStrikehall;I)I" } : Jvm.MethodName) method_11_code (3 : Nat) (Option.some Jvm.ClassFile.FieldType.int) [((0 : Nat), (5 : Nat), (8 : Nat), (13 : Nat))]) ∈ lw_U := lw_inU 645 (by decide +kernel) (by decide +kernel)
theorem hU_646 : (Jvm.Cond.methodLink "StrikehallLaw" (45 : Nat) ({ cls := "Strikehall", name := "seed", desc := "(I)V" } : Jvm.MethodName)) ∈ lw_U := lw_inU 646 (by decide +kernel) (by decide +kernel)
theorem hU_647 : (Jvm.Cond.instanceMethod ({ cls := "Strikehall", name := "seed", desc := "(I)V" } : Jvm.MethodName)) ∈ lw_U := lw_inU 647 (by decide +kernel) (by decide +kernel)
theorem hU_648 : (Jvm.Cond.selects "Strikehall" ({ cls := "Strikehall", name := "seed", desc := "(I)V" } : Jvm.MethodName) ({ cls := "Strikehall", name := "seed", desc := "(I)V" } : Jvm.MethodName)) ∈ lw_U := lw_inU 648 (by decide +kernel) (by decide +kernel)
theorem hU_649 : (Jvm.Cond.code ({ cls := "Strikehall", name := "seed", desc := "(I)V" } : Jvm.MethodName) prog_1_method_11_code (2 : Nat) (Option.none : Option Jvm.ClassFile.FieldType)) ∈ lw_U := lw_inU 649 (by decide +kernel) (by decide +kernel)
theorem hU_651 : (Jvm.Cond.methodLink "StrikehallLaw" (132 : Nat) ({ cls := "StrikehallLaw", name := "exercise", desc := "(LStrikehall;III[J)I" } : Jvm.MethodName)) ∈ lw_U := lw_inU 651 (by decide +kernel) (by decide +kernel)
theorem hU_652 : (Jvm.Cond.static ({ cls := "StrikehallLaw", name := "exercise", desc := "(LStrikehall;III[J)I" } : Jvm.MethodName)) ∈ lw_U := lw_inU 652 (by decide +kernel) (by decide +kernel)
theorem hU_653 : (Jvm.Cond.codeWith ({ cls := "StrikehallLaw", name := "exercise", desc := "(LStrikehall;III[J)I" } : Jvm.MethodName) method_12_code (6 : Nat) (Option.some Jvm.ClassFile.FieldType.int) [((0 : Nat), (12 : Nat), (15 : Nat), (33 : Nat)), ((0 : Nat), (12 : Nat), (19 : Nat), (13 : Nat)), ((0 : Nat), (12 : Nat), (23 : Nat), (27 : Nat))]) ∈ lw_U := lw_inU 653 (by decide +kernel) (by decide +kernel)
theorem hU_654 : (Jvm.Cond.methodLink "StrikehallLaw" (49 : Nat) ({ cls := "Strikehall", name := "exercise", desc := "(III)I" } : Jvm.MethodName)) ∈ lw_U := lw_inU 654 (by decide +kernel) (by decide +kernel)
theorem hU_655 : (Jvm.Cond.instanceMethod ({ cls := "Strikehall", name := "exercise", desc := "(III)I" } : Jvm.MethodName)) ∈ lw_U := lw_inU 655 (by decide +kernel) (by decide +kernel)
theorem hU_656 : (Jvm.Cond.selects "Strikehall" ({ cls := "Strikehall", name := "exercise", desc := "(III)I" } : Jvm.MethodName) ({ cls := "Strikehall", name := "exercise", desc := "(III)I" } : Jvm.MethodName)) ∈ lw_U := lw_inU 656 (by decide +kernel) (by decide +kernel)
theorem hU_657 : (Jvm.Cond.code ({ cls := "Strikehall", name := "exercise", desc := "(III)I" } : Jvm.MethodName) prog_1_method_12_code (8 : Nat) (Option.some Jvm.ClassFile.FieldType.int)) ∈ lw_U := lw_inU 657 (by decide +kernel) (by decide +kernel)
theorem hU_658 : (Jvm.Cond.methodLink "Strikehall" (162 : Nat) ({ cls := "Strikehall", name := "placeOf", desc := "(I)I" } : Jvm.MethodName)) ∈ lw_U := lw_inU 658 (by decide +kernel) (by decide +kernel)
theorem hU_659 : (Jvm.Cond.static ({ cls := "Strikehall", name := "placeOf", desc := "(I)I" } : Jvm.MethodName)) ∈ lw_U := lw_inU 659 (by decide +kernel) (by decide +kernel)
theorem hU_660 : (Jvm.Cond.code ({ cls := "Strikehall", name := "placeOf", desc := "(I)I" } : Jvm.MethodName) prog_1_method_28_code (1 : Nat) (Option.some Jvm.ClassFile.FieldType.int)) ∈ lw_U := lw_inU 660 (by decide +kernel) (by decide +kernel)
theorem hU_663 : (Jvm.Cond.methodLink "Strikehall" (179 : Nat) ({ cls := "Strikehall", name := "exerciseLots", desc := "(ILStrikehall$Contract;I)V" } : Jvm.MethodName)) ∈ lw_U := lw_inU 663 (by decide +kernel) (by decide +kernel)
theorem hU_665 : (Jvm.Cond.instanceMethod ({ cls := "Strikehall", name := "exerciseLots", desc := "(ILStrikehall$Contract;I)V" } : Jvm.MethodName)) ∈ lw_U := lw_inU 665 (by decide +kernel) (by decide +kernel)
theorem hU_666 : (Jvm.Cond.code ({ cls := "Strikehall", name := "exerciseLots", desc := "(ILStrikehall$Contract;I)V" } : Jvm.MethodName) prog_1_method_38_code (8 : Nat) (Option.none : Option Jvm.ClassFile.FieldType)) ∈ lw_U := lw_inU 666 (by decide +kernel) (by decide +kernel)
theorem hU_670 : (Jvm.Cond.instanceMethod ({ cls := "Strikehall$Contract", name := "owed", desc := "()I" } : Jvm.MethodName)) ∈ lw_U := lw_inU 670 (by decide +kernel) (by decide +kernel)
theorem hU_671 : (Jvm.Cond.code ({ cls := "Strikehall$Contract", name := "owed", desc := "()I" } : Jvm.MethodName) prog_2_method_14_code (3 : Nat) (Option.some Jvm.ClassFile.FieldType.int)) ∈ lw_U := lw_inU 671 (by decide +kernel) (by decide +kernel)
theorem hU_674 : (Jvm.Cond.instanceMethod ({ cls := "Strikehall$Lottery", name := "drawOf", desc := "(I)I" } : Jvm.MethodName)) ∈ lw_U := lw_inU 674 (by decide +kernel) (by decide +kernel)
theorem hU_675 : (Jvm.Cond.code ({ cls := "Strikehall$Lottery", name := "drawOf", desc := "(I)I" } : Jvm.MethodName) prog_3_method_2_code (2 : Nat) (Option.some Jvm.ClassFile.FieldType.int)) ∈ lw_U := lw_inU 675 (by decide +kernel) (by decide +kernel)
theorem hU_676 : (Jvm.Cond.constantLong "Strikehall$Lottery" (13 : Nat) (1103515245 : Int64)) ∈ lw_U := lw_inU 676 (by decide +kernel) (by decide +kernel)
theorem hU_677 : (Jvm.Cond.constantLong "Strikehall$Lottery" (15 : Nat) (12345 : Int64)) ∈ lw_U := lw_inU 677 (by decide +kernel) (by decide +kernel)
theorem hU_678 : (Jvm.Cond.constantLong "Strikehall$Lottery" (17 : Nat) (2147483648 : Int64)) ∈ lw_U := lw_inU 678 (by decide +kernel) (by decide +kernel)
theorem hU_679 : (Jvm.Cond.constantLong "Strikehall$Lottery" (19 : Nat) (65536 : Int64)) ∈ lw_U := lw_inU 679 (by decide +kernel) (by decide +kernel)
theorem hU_682 : (Jvm.Cond.instanceMethod ({ cls := "Strikehall$Contract", name := "owerOf", desc := "(I)I" } : Jvm.MethodName)) ∈ lw_U := lw_inU 682 (by decide +kernel) (by decide +kernel)
theorem hU_683 : (Jvm.Cond.code ({ cls := "Strikehall$Contract", name := "owerOf", desc := "(I)I" } : Jvm.MethodName) prog_2_method_15_code (4 : Nat) (Option.some Jvm.ClassFile.FieldType.int)) ∈ lw_U := lw_inU 683 (by decide +kernel) (by decide +kernel)
theorem hU_684 : (Jvm.Cond.methodLink "StrikehallLaw" (136 : Nat) ({ cls := "StrikehallLaw", name := "contrary", desc := "(LStrikehall;IIZ[J)I" } : Jvm.MethodName)) ∈ lw_U := lw_inU 684 (by decide +kernel) (by decide +kernel)
theorem hU_685 : (Jvm.Cond.static ({ cls := "StrikehallLaw", name := "contrary", desc := "(LStrikehall;IIZ[J)I" } : Jvm.MethodName)) ∈ lw_U := lw_inU 685 (by decide +kernel) (by decide +kernel)
theorem hU_686 : (Jvm.Cond.codeWith ({ cls := "StrikehallLaw", name := "contrary", desc := "(LStrikehall;IIZ[J)I" } : Jvm.MethodName) method_13_code (6 : Nat) (Option.some Jvm.ClassFile.FieldType.int) [((0 : Nat), (19 : Nat), (22 : Nat), (33 : Nat)), ((0 : Nat), (19 : Nat), (26 : Nat), (27 : Nat))]) ∈ lw_U := lw_inU 686 (by decide +kernel) (by decide +kernel)
theorem hU_687 : (Jvm.Cond.methodLink "StrikehallLaw" (53 : Nat) ({ cls := "Strikehall", name := "contrary", desc := "(IIZ)Z" } : Jvm.MethodName)) ∈ lw_U := lw_inU 687 (by decide +kernel) (by decide +kernel)
theorem hU_688 : (Jvm.Cond.instanceMethod ({ cls := "Strikehall", name := "contrary", desc := "(IIZ)Z" } : Jvm.MethodName)) ∈ lw_U := lw_inU 688 (by decide +kernel) (by decide +kernel)
theorem hU_689 : (Jvm.Cond.selects "Strikehall" ({ cls := "Strikehall", name := "contrary", desc := "(IIZ)Z" } : Jvm.MethodName) ({ cls := "Strikehall", name := "contrary", desc := "(IIZ)Z" } : Jvm.MethodName)) ∈ lw_U := lw_inU 689 (by decide +kernel) (by decide +kernel)
theorem hU_690 : (Jvm.Cond.code ({ cls := "Strikehall", name := "contrary", desc := "(IIZ)Z" } : Jvm.MethodName) prog_1_method_13_code (5 : Nat) (Option.some Jvm.ClassFile.FieldType.boolean)) ∈ lw_U := lw_inU 690 (by decide +kernel) (by decide +kernel)
theorem hU_693 : (Jvm.Cond.instanceMethod ({ cls := "Strikehall$Contract", name := "setNotice", desc := "(IZ)Z" } : Jvm.MethodName)) ∈ lw_U := lw_inU 693 (by decide +kernel) (by decide +kernel)
theorem hU_694 : (Jvm.Cond.code ({ cls := "Strikehall$Contract", name := "setNotice", desc := "(IZ)Z" } : Jvm.MethodName) prog_2_method_13_code (3 : Nat) (Option.some Jvm.ClassFile.FieldType.boolean)) ∈ lw_U := lw_inU 694 (by decide +kernel) (by decide +kernel)
theorem hU_695 : (Jvm.Cond.methodLink "StrikehallLaw" (140 : Nat) ({ cls := "StrikehallLaw", name := "close", desc := "(LStrikehall;[J)I" } : Jvm.MethodName)) ∈ lw_U := lw_inU 695 (by decide +kernel) (by decide +kernel)
theorem hU_696 : (Jvm.Cond.static ({ cls := "StrikehallLaw", name := "close", desc := "(LStrikehall;[J)I" } : Jvm.MethodName)) ∈ lw_U := lw_inU 696 (by decide +kernel) (by decide +kernel)
theorem hU_697 : (Jvm.Cond.codeWith ({ cls := "StrikehallLaw", name := "close", desc := "(LStrikehall;[J)I" } : Jvm.MethodName) method_14_code (3 : Nat) (Option.some Jvm.ClassFile.FieldType.int) [((0 : Nat), (8 : Nat), (11 : Nat), (27 : Nat))]) ∈ lw_U := lw_inU 697 (by decide +kernel) (by decide +kernel)
theorem hU_698 : (Jvm.Cond.methodLink "StrikehallLaw" (57 : Nat) ({ cls := "Strikehall", name := "close", desc := "()I" } : Jvm.MethodName)) ∈ lw_U := lw_inU 698 (by decide +kernel) (by decide +kernel)
theorem hU_699 : (Jvm.Cond.instanceMethod ({ cls := "Strikehall", name := "close", desc := "()I" } : Jvm.MethodName)) ∈ lw_U := lw_inU 699 (by decide +kernel) (by decide +kernel)
theorem hU_700 : (Jvm.Cond.selects "Strikehall" ({ cls := "Strikehall", name := "close", desc := "()I" } : Jvm.MethodName) ({ cls := "Strikehall", name := "close", desc := "()I" } : Jvm.MethodName)) ∈ lw_U := lw_inU 700 (by decide +kernel) (by decide +kernel)
theorem hU_701 : (Jvm.Cond.code ({ cls := "Strikehall", name := "close", desc := "()I" } : Jvm.MethodName) prog_1_method_14_code (5 : Nat) (Option.some Jvm.ClassFile.FieldType.int)) ∈ lw_U := lw_inU 701 (by decide +kernel) (by decide +kernel)
theorem hU_703 : (Jvm.Cond.methodLink "Strikehall" (192 : Nat) ({ cls := "Strikehall", name := "expire", desc := "(LStrikehall$Contract;)V" } : Jvm.MethodName)) ∈ lw_U := lw_inU 703 (by decide +kernel) (by decide +kernel)
theorem hU_705 : (Jvm.Cond.instanceMethod ({ cls := "Strikehall", name := "expire", desc := "(LStrikehall$Contract;)V" } : Jvm.MethodName)) ∈ lw_U := lw_inU 705 (by decide +kernel) (by decide +kernel)
theorem hU_706 : (Jvm.Cond.code ({ cls := "Strikehall", name := "expire", desc := "(LStrikehall$Contract;)V" } : Jvm.MethodName) prog_1_method_39_code (3 : Nat) (Option.none : Option Jvm.ClassFile.FieldType)) ∈ lw_U := lw_inU 706 (by decide +kernel) (by decide +kernel)
theorem hU_709 : (Jvm.Cond.instanceMethod ({ cls := "Strikehall$Contract", name := "hasNotice", desc := "(I)Z" } : Jvm.MethodName)) ∈ lw_U := lw_inU 709 (by decide +kernel) (by decide +kernel)
theorem hU_710 : (Jvm.Cond.code ({ cls := "Strikehall$Contract", name := "hasNotice", desc := "(I)Z" } : Jvm.MethodName) prog_2_method_12_code (2 : Nat) (Option.some Jvm.ClassFile.FieldType.boolean)) ∈ lw_U := lw_inU 710 (by decide +kernel) (by decide +kernel)
theorem hU_713 : (Jvm.Cond.instanceMethod ({ cls := "Strikehall$Contract", name := "dropLots", desc := "()V" } : Jvm.MethodName)) ∈ lw_U := lw_inU 713 (by decide +kernel) (by decide +kernel)
theorem hU_714 : (Jvm.Cond.code ({ cls := "Strikehall$Contract", name := "dropLots", desc := "()V" } : Jvm.MethodName) prog_2_method_11_code (2 : Nat) (Option.none : Option Jvm.ClassFile.FieldType)) ∈ lw_U := lw_inU 714 (by decide +kernel) (by decide +kernel)
theorem hU_715 : (Jvm.Cond.methodLink "StrikehallLaw" (144 : Nat) ({ cls := "StrikehallLaw", name := "value", desc := "(LStrikehall;IZ[J)I" } : Jvm.MethodName)) ∈ lw_U := lw_inU 715 (by decide +kernel) (by decide +kernel)
theorem hU_716 : (Jvm.Cond.static ({ cls := "StrikehallLaw", name := "value", desc := "(LStrikehall;IZ[J)I" } : Jvm.MethodName)) ∈ lw_U := lw_inU 716 (by decide +kernel) (by decide +kernel)
theorem hU_717 : (Jvm.Cond.codeWith ({ cls := "StrikehallLaw", name := "value", desc := "(LStrikehall;IZ[J)I" } : Jvm.MethodName) method_15_code (5 : Nat) (Option.some Jvm.ClassFile.FieldType.int) [((0 : Nat), (9 : Nat), (12 : Nat), (33 : Nat))]) ∈ lw_U := lw_inU 717 (by decide +kernel) (by decide +kernel)
theorem hU_718 : (Jvm.Cond.methodLink "StrikehallLaw" (61 : Nat) ({ cls := "Strikehall", name := "value", desc := "(IZ)J" } : Jvm.MethodName)) ∈ lw_U := lw_inU 718 (by decide +kernel) (by decide +kernel)
theorem hU_719 : (Jvm.Cond.instanceMethod ({ cls := "Strikehall", name := "value", desc := "(IZ)J" } : Jvm.MethodName)) ∈ lw_U := lw_inU 719 (by decide +kernel) (by decide +kernel)
theorem hU_720 : (Jvm.Cond.selects "Strikehall" ({ cls := "Strikehall", name := "value", desc := "(IZ)J" } : Jvm.MethodName) ({ cls := "Strikehall", name := "value", desc := "(IZ)J" } : Jvm.MethodName)) ∈ lw_U := lw_inU 720 (by decide +kernel) (by decide +kernel)
theorem hU_721 : (Jvm.Cond.code ({ cls := "Strikehall", name := "value", desc := "(IZ)J" } : Jvm.MethodName) prog_1_method_15_code (10 : Nat) (Option.some Jvm.ClassFile.FieldType.long)) ∈ lw_U := lw_inU 721 (by decide +kernel) (by decide +kernel)
theorem hU_724 : (Jvm.Cond.methodLink "Strikehall" (203 : Nat) ({ cls := "Strikehall", name := "commonDivisor", desc := "(JJ)J" } : Jvm.MethodName)) ∈ lw_U := lw_inU 724 (by decide +kernel) (by decide +kernel)
theorem hU_725 : (Jvm.Cond.static ({ cls := "Strikehall", name := "commonDivisor", desc := "(JJ)J" } : Jvm.MethodName)) ∈ lw_U := lw_inU 725 (by decide +kernel) (by decide +kernel)
theorem hU_726 : (Jvm.Cond.code ({ cls := "Strikehall", name := "commonDivisor", desc := "(JJ)J" } : Jvm.MethodName) prog_1_method_40_code (11 : Nat) (Option.some Jvm.ClassFile.FieldType.long)) ∈ lw_U := lw_inU 726 (by decide +kernel) (by decide +kernel)
theorem hU_727 : (Jvm.Cond.methodLink "StrikehallLaw" (148 : Nat) ({ cls := "StrikehallLaw", name := "mark", desc := "(LStrikehall;I[J)I" } : Jvm.MethodName)) ∈ lw_U := lw_inU 727 (by decide +kernel) (by decide +kernel)
theorem hU_728 : (Jvm.Cond.static ({ cls := "StrikehallLaw", name := "mark", desc := "(LStrikehall;I[J)I" } : Jvm.MethodName)) ∈ lw_U := lw_inU 728 (by decide +kernel) (by decide +kernel)
theorem hU_729 : (Jvm.Cond.codeWith ({ cls := "StrikehallLaw", name := "mark", desc := "(LStrikehall;I[J)I" } : Jvm.MethodName) method_16_code (4 : Nat) (Option.some Jvm.ClassFile.FieldType.int) [((0 : Nat), (9 : Nat), (12 : Nat), (33 : Nat))]) ∈ lw_U := lw_inU 729 (by decide +kernel) (by decide +kernel)
theorem hU_730 : (Jvm.Cond.methodLink "StrikehallLaw" (65 : Nat) ({ cls := "Strikehall", name := "mark", desc := "(I)I" } : Jvm.MethodName)) ∈ lw_U := lw_inU 730 (by decide +kernel) (by decide +kernel)
theorem hU_731 : (Jvm.Cond.instanceMethod ({ cls := "Strikehall", name := "mark", desc := "(I)I" } : Jvm.MethodName)) ∈ lw_U := lw_inU 731 (by decide +kernel) (by decide +kernel)
theorem hU_732 : (Jvm.Cond.selects "Strikehall" ({ cls := "Strikehall", name := "mark", desc := "(I)I" } : Jvm.MethodName) ({ cls := "Strikehall", name := "mark", desc := "(I)I" } : Jvm.MethodName)) ∈ lw_U := lw_inU 732 (by decide +kernel) (by decide +kernel)
theorem hU_733 : (Jvm.Cond.code ({ cls := "Strikehall", name := "mark", desc := "(I)I" } : Jvm.MethodName) prog_1_method_16_code (2 : Nat) (Option.some Jvm.ClassFile.FieldType.int)) ∈ lw_U := lw_inU 733 (by decide +kernel) (by decide +kernel)
theorem hU_734 : (Jvm.Cond.methodLink "StrikehallLaw" (151 : Nat) ({ cls := "StrikehallLaw", name := "markByWays", desc := "(LStrikehall;I[J)I" } : Jvm.MethodName)) ∈ lw_U := lw_inU 734 (by decide +kernel) (by decide +kernel)
theorem hU_735 : (Jvm.Cond.static ({ cls := "StrikehallLaw", name := "markByWays", desc := "(LStrikehall;I[J)I" } : Jvm.MethodName)) ∈ lw_U := lw_inU 735 (by decide +kernel) (by decide +kernel)
theorem hU_736 : (Jvm.Cond.codeWith ({ cls := "StrikehallLaw", name := "markByWays", desc := "(LStrikehall;I[J)I" } : Jvm.MethodName) method_17_code (4 : Nat) (Option.some Jvm.ClassFile.FieldType.int) [((0 : Nat), (9 : Nat), (12 : Nat), (33 : Nat))]) ∈ lw_U := lw_inU 736 (by decide +kernel) (by decide +kernel)
theorem hU_737 : (Jvm.Cond.methodLink "StrikehallLaw" (68 : Nat) ({ cls := "Strikehall", name := "markByWays", desc := "(I)I" } : Jvm.MethodName)) ∈ lw_U := lw_inU 737 (by decide +kernel) (by decide +kernel)
theorem hU_738 : (Jvm.Cond.instanceMethod ({ cls := "Strikehall", name := "markByWays", desc := "(I)I" } : Jvm.MethodName)) ∈ lw_U := lw_inU 738 (by decide +kernel) (by decide +kernel)
theorem hU_739 : (Jvm.Cond.selects "Strikehall" ({ cls := "Strikehall", name := "markByWays", desc := "(I)I" } : Jvm.MethodName) ({ cls := "Strikehall", name := "markByWays", desc := "(I)I" } : Jvm.MethodName)) ∈ lw_U := lw_inU 739 (by decide +kernel) (by decide +kernel)
theorem hU_740 : (Jvm.Cond.code ({ cls := "Strikehall", name := "markByWays", desc := "(I)I" } : Jvm.MethodName) prog_1_method_17_code (5 : Nat) (Option.some Jvm.ClassFile.FieldType.int)) ∈ lw_U := lw_inU 740 (by decide +kernel) (by decide +kernel)
theorem hU_741 : (Jvm.Cond.methodLink "Strikehall" (211 : Nat) ({ cls := "Strikehall", name := "numberByWays", desc := "(LStrikehall$Share;LStrikehall$Contract;II)J" } : Jvm.MethodName)) ∈ lw_U := lw_inU 741 (by decide +kernel) (by decide +kernel)
theorem hU_742 : (Jvm.Cond.static ({ cls := "Strikehall", name := "numberByWays", desc := "(LStrikehall$Share;LStrikehall$Contract;II)J" } : Jvm.MethodName)) ∈ lw_U := lw_inU 742 (by decide +kernel) (by decide +kernel)
theorem hU_743 : (Jvm.Cond.code ({ cls := "Strikehall", name := "numberByWays", desc := "(LStrikehall$Share;LStrikehall$Contract;II)J" } : Jvm.MethodName) prog_1_method_43_code (8 : Nat) (Option.some Jvm.ClassFile.FieldType.long)) ∈ lw_U := lw_inU 743 (by decide +kernel) (by decide +kernel)
theorem hU_744 : (Jvm.Cond.methodLink "Strikehall" (286 : Nat) ({ cls := "Strikehall", name := "power", desc := "(JI)J" } : Jvm.MethodName)) ∈ lw_U := lw_inU 744 (by decide +kernel) (by decide +kernel)
theorem hU_745 : (Jvm.Cond.methodLink "Strikehall" (245 : Nat) ({ cls := "java/lang/Math", name := "max", desc := "(JJ)J" } : Jvm.MethodName)) ∈ lw_U := lw_inU 745 (by decide +kernel) (by decide +kernel)
theorem hU_746 : (Jvm.Cond.methodLink "Strikehall" (215 : Nat) ({ cls := "Strikehall", name := "thousandTimes", desc := "(JJ)I" } : Jvm.MethodName)) ∈ lw_U := lw_inU 746 (by decide +kernel) (by decide +kernel)
theorem hU_747 : (Jvm.Cond.methodLink "StrikehallLaw" (158 : Nat) ({ cls := "StrikehallLaw", name := "quoted", desc := "(LStrikehall;II[J)I" } : Jvm.MethodName)) ∈ lw_U := lw_inU 747 (by decide +kernel) (by decide +kernel)
theorem hU_748 : (Jvm.Cond.static ({ cls := "StrikehallLaw", name := "quoted", desc := "(LStrikehall;II[J)I" } : Jvm.MethodName)) ∈ lw_U := lw_inU 748 (by decide +kernel) (by decide +kernel)
theorem hU_749 : (Jvm.Cond.codeWith ({ cls := "StrikehallLaw", name := "quoted", desc := "(LStrikehall;II[J)I" } : Jvm.MethodName) method_18_code (5 : Nat) (Option.some Jvm.ClassFile.FieldType.int) [((0 : Nat), (10 : Nat), (13 : Nat), (33 : Nat)), ((0 : Nat), (10 : Nat), (17 : Nat), (13 : Nat))]) ∈ lw_U := lw_inU 749 (by decide +kernel) (by decide +kernel)
theorem hU_750 : (Jvm.Cond.methodLink "StrikehallLaw" (71 : Nat) ({ cls := "Strikehall", name := "quoted", desc := "(II)I" } : Jvm.MethodName)) ∈ lw_U := lw_inU 750 (by decide +kernel) (by decide +kernel)
theorem hU_751 : (Jvm.Cond.instanceMethod ({ cls := "Strikehall", name := "quoted", desc := "(II)I" } : Jvm.MethodName)) ∈ lw_U := lw_inU 751 (by decide +kernel) (by decide +kernel)
theorem hU_752 : (Jvm.Cond.selects "Strikehall" ({ cls := "Strikehall", name := "quoted", desc := "(II)I" } : Jvm.MethodName) ({ cls := "Strikehall", name := "quoted", desc := "(II)I" } : Jvm.MethodName)) ∈ lw_U := lw_inU 752 (by decide +kernel) (by decide +kernel)
theorem hU_753 : (Jvm.Cond.code ({ cls := "Strikehall", name := "quoted", desc := "(II)I" } : Jvm.MethodName) prog_1_method_19_code (4 : Nat) (Option.some Jvm.ClassFile.FieldType.int)) ∈ lw_U := lw_inU 753 (by decide +kernel) (by decide +kernel)
theorem hU_755 : (Jvm.Cond.methodLink "StrikehallLaw" (161 : Nat) ({ cls := "StrikehallLaw", name := "lots", desc := "(LStrikehall;II[J)I" } : Jvm.MethodName)) ∈ lw_U := lw_inU 755 (by decide +kernel) (by decide +kernel)
theorem hU_756 : (Jvm.Cond.static ({ cls := "StrikehallLaw", name := "lots", desc := "(LStrikehall;II[J)I" } : Jvm.MethodName)) ∈ lw_U := lw_inU 756 (by decide +kernel) (by decide +kernel)
theorem hU_757 : (Jvm.Cond.codeWith ({ cls := "StrikehallLaw", name := "lots", desc := "(LStrikehall;II[J)I" } : Jvm.MethodName) method_19_code (5 : Nat) (Option.some Jvm.ClassFile.FieldType.int) [((0 : Nat), (10 : Nat), (13 : Nat), (33 : Nat))]) ∈ lw_U := lw_inU 757 (by decide +kernel) (by decide +kernel)
theorem hU_758 : (Jvm.Cond.methodLink "StrikehallLaw" (74 : Nat) ({ cls := "Strikehall", name := "lots", desc := "(II)I" } : Jvm.MethodName)) ∈ lw_U := lw_inU 758 (by decide +kernel) (by decide +kernel)
theorem hU_759 : (Jvm.Cond.instanceMethod ({ cls := "Strikehall", name := "lots", desc := "(II)I" } : Jvm.MethodName)) ∈ lw_U := lw_inU 759 (by decide +kernel) (by decide +kernel)
theorem hU_760 : (Jvm.Cond.selects "Strikehall" ({ cls := "Strikehall", name := "lots", desc := "(II)I" } : Jvm.MethodName) ({ cls := "Strikehall", name := "lots", desc := "(II)I" } : Jvm.MethodName)) ∈ lw_U := lw_inU 760 (by decide +kernel) (by decide +kernel)
theorem hU_761 : (Jvm.Cond.code ({ cls := "Strikehall", name := "lots", desc := "(II)I" } : Jvm.MethodName) prog_1_method_20_code (4 : Nat) (Option.some Jvm.ClassFile.FieldType.int)) ∈ lw_U := lw_inU 761 (by decide +kernel) (by decide +kernel)
theorem hU_762 : (Jvm.Cond.methodLink "StrikehallLaw" (164 : Nat) ({ cls := "StrikehallLaw", name := "cash", desc := "(LStrikehall;I[J)I" } : Jvm.MethodName)) ∈ lw_U := lw_inU 762 (by decide +kernel) (by decide +kernel)
theorem hU_763 : (Jvm.Cond.static ({ cls := "StrikehallLaw", name := "cash", desc := "(LStrikehall;I[J)I" } : Jvm.MethodName)) ∈ lw_U := lw_inU 763 (by decide +kernel) (by decide +kernel)
theorem hU_764 : (Jvm.Cond.codeWith ({ cls := "StrikehallLaw", name := "cash", desc := "(LStrikehall;I[J)I" } : Jvm.MethodName) method_20_code (4 : Nat) (Option.some Jvm.ClassFile.FieldType.int) [((0 : Nat), (8 : Nat), (11 : Nat), (33 : Nat))]) ∈ lw_U := lw_inU 764 (by decide +kernel) (by decide +kernel)
theorem hU_765 : (Jvm.Cond.methodLink "StrikehallLaw" (77 : Nat) ({ cls := "Strikehall", name := "cash", desc := "(I)J" } : Jvm.MethodName)) ∈ lw_U := lw_inU 765 (by decide +kernel) (by decide +kernel)
theorem hU_766 : (Jvm.Cond.instanceMethod ({ cls := "Strikehall", name := "cash", desc := "(I)J" } : Jvm.MethodName)) ∈ lw_U := lw_inU 766 (by decide +kernel) (by decide +kernel)
theorem hU_767 : (Jvm.Cond.selects "Strikehall" ({ cls := "Strikehall", name := "cash", desc := "(I)J" } : Jvm.MethodName) ({ cls := "Strikehall", name := "cash", desc := "(I)J" } : Jvm.MethodName)) ∈ lw_U := lw_inU 767 (by decide +kernel) (by decide +kernel)
theorem hU_768 : (Jvm.Cond.code ({ cls := "Strikehall", name := "cash", desc := "(I)J" } : Jvm.MethodName) prog_1_method_21_code (2 : Nat) (Option.some Jvm.ClassFile.FieldType.long)) ∈ lw_U := lw_inU 768 (by decide +kernel) (by decide +kernel)
theorem hU_769 : (Jvm.Cond.methodLink "StrikehallLaw" (172 : Nat) ({ cls := "StrikehallLaw", name := "cause", desc := "(LStrikehall;I[J)I" } : Jvm.MethodName)) ∈ lw_U := lw_inU 769 (by decide +kernel) (by decide +kernel)
theorem hU_770 : (Jvm.Cond.static ({ cls := "StrikehallLaw", name := "cause", desc := "(LStrikehall;I[J)I" } : Jvm.MethodName)) ∈ lw_U := lw_inU 770 (by decide +kernel) (by decide +kernel)
theorem hU_771 : (Jvm.Cond.codeWith ({ cls := "StrikehallLaw", name := "cause", desc := "(LStrikehall;I[J)I" } : Jvm.MethodName) method_21_code (4 : Nat) (Option.some Jvm.ClassFile.FieldType.int) [((0 : Nat), (8 : Nat), (11 : Nat), (33 : Nat))]) ∈ lw_U := lw_inU 771 (by decide +kernel) (by decide +kernel)
theorem hU_772 : (Jvm.Cond.methodLink "StrikehallLaw" (80 : Nat) ({ cls := "Strikehall", name := "cause", desc := "(I)J" } : Jvm.MethodName)) ∈ lw_U := lw_inU 772 (by decide +kernel) (by decide +kernel)
theorem hU_773 : (Jvm.Cond.instanceMethod ({ cls := "Strikehall", name := "cause", desc := "(I)J" } : Jvm.MethodName)) ∈ lw_U := lw_inU 773 (by decide +kernel) (by decide +kernel)
theorem hU_774 : (Jvm.Cond.selects "Strikehall" ({ cls := "Strikehall", name := "cause", desc := "(I)J" } : Jvm.MethodName) ({ cls := "Strikehall", name := "cause", desc := "(I)J" } : Jvm.MethodName)) ∈ lw_U := lw_inU 774 (by decide +kernel) (by decide +kernel)
theorem hU_775 : (Jvm.Cond.code ({ cls := "Strikehall", name := "cause", desc := "(I)J" } : Jvm.MethodName) prog_1_method_23_code (2 : Nat) (Option.some Jvm.ClassFile.FieldType.long)) ∈ lw_U := lw_inU 775 (by decide +kernel) (by decide +kernel)
theorem hU_777 : (Jvm.Cond.methodLink "StrikehallLaw" (175 : Nat) ({ cls := "StrikehallLaw", name := "worst", desc := "(LStrikehall;I[J)I" } : Jvm.MethodName)) ∈ lw_U := lw_inU 777 (by decide +kernel) (by decide +kernel)
theorem hU_778 : (Jvm.Cond.static ({ cls := "StrikehallLaw", name := "worst", desc := "(LStrikehall;I[J)I" } : Jvm.MethodName)) ∈ lw_U := lw_inU 778 (by decide +kernel) (by decide +kernel)
theorem hU_779 : (Jvm.Cond.codeWith ({ cls := "StrikehallLaw", name := "worst", desc := "(LStrikehall;I[J)I" } : Jvm.MethodName) method_22_code (4 : Nat) (Option.some Jvm.ClassFile.FieldType.int) [((0 : Nat), (8 : Nat), (11 : Nat), (13 : Nat))]) ∈ lw_U := lw_inU 779 (by decide +kernel) (by decide +kernel)
theorem hU_780 : (Jvm.Cond.methodLink "StrikehallLaw" (83 : Nat) ({ cls := "Strikehall", name := "worst", desc := "(I)J" } : Jvm.MethodName)) ∈ lw_U := lw_inU 780 (by decide +kernel) (by decide +kernel)
theorem hU_781 : (Jvm.Cond.instanceMethod ({ cls := "Strikehall", name := "worst", desc := "(I)J" } : Jvm.MethodName)) ∈ lw_U := lw_inU 781 (by decide +kernel) (by decide +kernel)
theorem hU_782 : (Jvm.Cond.selects "Strikehall" ({ cls := "Strikehall", name := "worst", desc := "(I)J" } : Jvm.MethodName) ({ cls := "Strikehall", name := "worst", desc := "(I)J" } : Jvm.MethodName)) ∈ lw_U := lw_inU 782 (by decide +kernel) (by decide +kernel)
theorem hU_783 : (Jvm.Cond.code ({ cls := "Strikehall", name := "worst", desc := "(I)J" } : Jvm.MethodName) prog_1_method_24_code (7 : Nat) (Option.some Jvm.ClassFile.FieldType.long)) ∈ lw_U := lw_inU 783 (by decide +kernel) (by decide +kernel)
theorem hU_784 : (Jvm.Cond.classLink "StrikehallLaw" (87 : Nat) "StrikehallModel") ∈ lw_U := lw_inU 784 (by decide +kernel) (by decide +kernel)
theorem hU_785 : (Jvm.Cond.instantiable "StrikehallModel" (26 : Nat)) ∈ lw_U := lw_inU 785 (by decide +kernel) (by decide +kernel)
theorem hU_786 : (Jvm.Cond.methodLink "StrikehallLaw" (89 : Nat) ({ cls := "StrikehallModel", name := "<init>", desc := "()V" } : Jvm.MethodName)) ∈ lw_U := lw_inU 786 (by decide +kernel) (by decide +kernel)
theorem hU_787 : (Jvm.Cond.instanceMethod ({ cls := "StrikehallModel", name := "<init>", desc := "()V" } : Jvm.MethodName)) ∈ lw_U := lw_inU 787 (by decide +kernel) (by decide +kernel)
theorem hU_788 : (Jvm.Cond.code ({ cls := "StrikehallModel", name := "<init>", desc := "()V" } : Jvm.MethodName) prog_6_method_1_code (1 : Nat) (Option.none : Option Jvm.ClassFile.FieldType)) ∈ lw_U := lw_inU 788 (by decide +kernel) (by decide +kernel)
theorem hU_789 : (Jvm.Cond.methodLink "StrikehallModel" (1 : Nat) ({ cls := "java/lang/Object", name := "<init>", desc := "()V" } : Jvm.MethodName)) ∈ lw_U := lw_inU 789 (by decide +kernel) (by decide +kernel)
theorem hU_790 : (Jvm.Cond.fieldLink "StrikehallModel" (73 : Nat) "StrikehallModel" "thrown" "I") ∈ lw_U := lw_inU 790 (by decide +kernel) (by decide +kernel)
theorem hU_791 : (Jvm.Cond.fieldLink "StrikehallModel" (89 : Nat) "StrikehallModel" "today" "I") ∈ lw_U := lw_inU 791 (by decide +kernel) (by decide +kernel)
theorem hU_792 : (Jvm.Cond.fieldLink "StrikehallModel" (7 : Nat) "StrikehallModel" "price" "I") ∈ lw_U := lw_inU 792 (by decide +kernel) (by decide +kernel)
theorem hU_793 : (Jvm.Cond.fieldLink "StrikehallModel" (13 : Nat) "StrikehallModel" "up" "I") ∈ lw_U := lw_inU 793 (by decide +kernel) (by decide +kernel)
theorem hU_794 : (Jvm.Cond.fieldLink "StrikehallModel" (16 : Nat) "StrikehallModel" "down" "I") ∈ lw_U := lw_inU 794 (by decide +kernel) (by decide +kernel)
theorem hU_795 : (Jvm.Cond.fieldLink "StrikehallModel" (19 : Nat) "StrikehallModel" "dividends" "[I") ∈ lw_U := lw_inU 795 (by decide +kernel) (by decide +kernel)
theorem hU_796 : (Jvm.Cond.fieldLink "StrikehallModel" (76 : Nat) "StrikehallModel" "contracts" "I") ∈ lw_U := lw_inU 796 (by decide +kernel) (by decide +kernel)
theorem hU_797 : (Jvm.Cond.fieldLink "StrikehallModel" (23 : Nat) "StrikehallModel" "kind" "[I") ∈ lw_U := lw_inU 797 (by decide +kernel) (by decide +kernel)
theorem hU_798 : (Jvm.Cond.fieldLink "StrikehallModel" (26 : Nat) "StrikehallModel" "strike" "[I") ∈ lw_U := lw_inU 798 (by decide +kernel) (by decide +kernel)
theorem hU_799 : (Jvm.Cond.fieldLink "StrikehallModel" (29 : Nat) "StrikehallModel" "expiry" "[I") ∈ lw_U := lw_inU 799 (by decide +kernel) (by decide +kernel)
theorem hU_800 : (Jvm.Cond.fieldLink "StrikehallModel" (32 : Nat) "StrikehallModel" "isAmerican" "[Z") ∈ lw_U := lw_inU 800 (by decide +kernel) (by decide +kernel)
theorem hU_801 : (Jvm.Cond.fieldLink "StrikehallModel" (36 : Nat) "StrikehallModel" "isOver" "[Z") ∈ lw_U := lw_inU 801 (by decide +kernel) (by decide +kernel)
theorem hU_802 : (Jvm.Cond.fieldLink "StrikehallModel" (39 : Nat) "StrikehallModel" "bid" "[I") ∈ lw_U := lw_inU 802 (by decide +kernel) (by decide +kernel)
theorem hU_803 : (Jvm.Cond.fieldLink "StrikehallModel" (42 : Nat) "StrikehallModel" "ask" "[I") ∈ lw_U := lw_inU 803 (by decide +kernel) (by decide +kernel)
theorem hU_804 : (Jvm.Cond.fieldLink "StrikehallModel" (45 : Nat) "StrikehallModel" "leftBid" "[I") ∈ lw_U := lw_inU 804 (by decide +kernel) (by decide +kernel)
theorem hU_805 : (Jvm.Cond.fieldLink "StrikehallModel" (48 : Nat) "StrikehallModel" "leftAsk" "[I") ∈ lw_U := lw_inU 805 (by decide +kernel) (by decide +kernel)
theorem hU_806 : (Jvm.Cond.fieldLink "StrikehallModel" (51 : Nat) "StrikehallModel" "held" "[I") ∈ lw_U := lw_inU 806 (by decide +kernel) (by decide +kernel)
theorem hU_807 : (Jvm.Cond.fieldLink "StrikehallModel" (54 : Nat) "StrikehallModel" "isContrary" "[Z") ∈ lw_U := lw_inU 807 (by decide +kernel) (by decide +kernel)
theorem hU_808 : (Jvm.Cond.fieldLink "StrikehallModel" (57 : Nat) "StrikehallModel" "cash" "[J") ∈ lw_U := lw_inU 808 (by decide +kernel) (by decide +kernel)
theorem hU_809 : (Jvm.Cond.fieldLink "StrikehallModel" (61 : Nat) "StrikehallModel" "most" "I") ∈ lw_U := lw_inU 809 (by decide +kernel) (by decide +kernel)
theorem hU_810 : (Jvm.Cond.fieldLink "StrikehallModel" (110 : Nat) "StrikehallModel" "shares" "I") ∈ lw_U := lw_inU 810 (by decide +kernel) (by decide +kernel)
theorem hU_811 : (Jvm.Cond.fieldLink "StrikehallModel" (64 : Nat) "StrikehallModel" "cost" "I") ∈ lw_U := lw_inU 811 (by decide +kernel) (by decide +kernel)
theorem hU_812 : (Jvm.Cond.fieldLink "StrikehallModel" (173 : Nat) "StrikehallModel" "seed" "J") ∈ lw_U := lw_inU 812 (by decide +kernel) (by decide +kernel)
theorem hU_813 : (Jvm.Cond.fieldLink "StrikehallModel" (67 : Nat) "StrikehallModel" "cause" "[J") ∈ lw_U := lw_inU 813 (by decide +kernel) (by decide +kernel)
theorem hU_814 : (Jvm.Cond.fieldLink "StrikehallModel" (70 : Nat) "StrikehallModel" "above" "[J") ∈ lw_U := lw_inU 814 (by decide +kernel) (by decide +kernel)
theorem hU_815 : (Jvm.Cond.fieldLink "StrikehallModel" (100 : Nat) "StrikehallModel" "below" "J") ∈ lw_U := lw_inU 815 (by decide +kernel) (by decide +kernel)
theorem hU_868 : (Jvm.Cond.superclass "StrikehallModel" "java/lang/Object") ∈ lw_U := lw_inU 868 (by decide +kernel) (by decide +kernel)
theorem hU_869 : (Jvm.Cond.methodLink "StrikehallLaw" (96 : Nat) ({ cls := "StrikehallModel", name := "thrown", desc := "()I" } : Jvm.MethodName)) ∈ lw_U := lw_inU 869 (by decide +kernel) (by decide +kernel)
theorem hU_870 : (Jvm.Cond.instanceMethod ({ cls := "StrikehallModel", name := "thrown", desc := "()I" } : Jvm.MethodName)) ∈ lw_U := lw_inU 870 (by decide +kernel) (by decide +kernel)
theorem hU_871 : (Jvm.Cond.selects "StrikehallModel" ({ cls := "StrikehallModel", name := "thrown", desc := "()I" } : Jvm.MethodName) ({ cls := "StrikehallModel", name := "thrown", desc := "()I" } : Jvm.MethodName)) ∈ lw_U := lw_inU 871 (by decide +kernel) (by decide +kernel)
theorem hU_872 : (Jvm.Cond.code ({ cls := "StrikehallModel", name := "thrown", desc := "()I" } : Jvm.MethodName) prog_6_method_2_code (1 : Nat) (Option.some Jvm.ClassFile.FieldType.int)) ∈ lw_U := lw_inU 872 (by decide +kernel) (by decide +kernel)
theorem hU_873 : (Jvm.Cond.methodLink "StrikehallLaw" (95 : Nat) ({ cls := "StrikehallModel", name := "steps", desc := "(II)V" } : Jvm.MethodName)) ∈ lw_U := lw_inU 873 (by decide +kernel) (by decide +kernel)
theorem hU_874 : (Jvm.Cond.instanceMethod ({ cls := "StrikehallModel", name := "steps", desc := "(II)V" } : Jvm.MethodName)) ∈ lw_U := lw_inU 874 (by decide +kernel) (by decide +kernel)
theorem hU_875 : (Jvm.Cond.selects "StrikehallModel" ({ cls := "StrikehallModel", name := "steps", desc := "(II)V" } : Jvm.MethodName) ({ cls := "StrikehallModel", name := "steps", desc := "(II)V" } : Jvm.MethodName)) ∈ lw_U := lw_inU 875 (by decide +kernel) (by decide +kernel)
theorem hU_876 : (Jvm.Cond.code ({ cls := "StrikehallModel", name := "steps", desc := "(II)V" } : Jvm.MethodName) prog_6_method_12_code (5 : Nat) (Option.none : Option Jvm.ClassFile.FieldType)) ∈ lw_U := lw_inU 876 (by decide +kernel) (by decide +kernel)
theorem hU_877 : (Jvm.Cond.constantLong "StrikehallModel" (87 : Nat) (10 : Int64)) ∈ lw_U := lw_inU 877 (by decide +kernel) (by decide +kernel)
theorem hU_878 : (Jvm.Cond.methodLink "StrikehallModel" (79 : Nat) ({ cls := "StrikehallModel", name := "in", desc := "(JJJ)Z" } : Jvm.MethodName)) ∈ lw_U := lw_inU 878 (by decide +kernel) (by decide +kernel)
theorem hU_879 : (Jvm.Cond.static ({ cls := "StrikehallModel", name := "in", desc := "(JJJ)Z" } : Jvm.MethodName)) ∈ lw_U := lw_inU 879 (by decide +kernel) (by decide +kernel)
theorem hU_880 : (Jvm.Cond.code ({ cls := "StrikehallModel", name := "in", desc := "(JJJ)Z" } : Jvm.MethodName) prog_6_method_3_code (6 : Nat) (Option.some Jvm.ClassFile.FieldType.boolean)) ∈ lw_U := lw_inU 880 (by decide +kernel) (by decide +kernel)
theorem hU_881 : (Jvm.Cond.methodLink "StrikehallModel" (121 : Nat) ({ cls := "StrikehallModel", name := "worthAt", desc := "(I)J" } : Jvm.MethodName)) ∈ lw_U := lw_inU 881 (by decide +kernel) (by decide +kernel)
theorem hU_883 : (Jvm.Cond.instanceMethod ({ cls := "StrikehallModel", name := "worthAt", desc := "(I)J" } : Jvm.MethodName)) ∈ lw_U := lw_inU 883 (by decide +kernel) (by decide +kernel)
theorem hU_884 : (Jvm.Cond.code ({ cls := "StrikehallModel", name := "worthAt", desc := "(I)J" } : Jvm.MethodName) prog_6_method_11_code (6 : Nat) (Option.some Jvm.ClassFile.FieldType.long)) ∈ lw_U := lw_inU 884 (by decide +kernel) (by decide +kernel)
theorem hU_885 : (Jvm.Cond.constantLong "StrikehallModel" (108 : Nat) (1000 : Int64)) ∈ lw_U := lw_inU 885 (by decide +kernel) (by decide +kernel)
theorem hU_886 : (Jvm.Cond.methodLink "StrikehallModel" (113 : Nat) ({ cls := "StrikehallModel", name := "at", desc := "(II)I" } : Jvm.MethodName)) ∈ lw_U := lw_inU 886 (by decide +kernel) (by decide +kernel)
theorem hU_887 : (Jvm.Cond.static ({ cls := "StrikehallModel", name := "at", desc := "(II)I" } : Jvm.MethodName)) ∈ lw_U := lw_inU 887 (by decide +kernel) (by decide +kernel)
theorem hU_888 : (Jvm.Cond.code ({ cls := "StrikehallModel", name := "at", desc := "(II)I" } : Jvm.MethodName) prog_6_method_6_code (2 : Nat) (Option.some Jvm.ClassFile.FieldType.int)) ∈ lw_U := lw_inU 888 (by decide +kernel) (by decide +kernel)
theorem hU_889 : (Jvm.Cond.methodLink "StrikehallModel" (117 : Nat) ({ cls := "StrikehallModel", name := "markAt", desc := "(II)J" } : Jvm.MethodName)) ∈ lw_U := lw_inU 889 (by decide +kernel) (by decide +kernel)
theorem hU_891 : (Jvm.Cond.instanceMethod ({ cls := "StrikehallModel", name := "markAt", desc := "(II)J" } : Jvm.MethodName)) ∈ lw_U := lw_inU 891 (by decide +kernel) (by decide +kernel)
theorem hU_892 : (Jvm.Cond.code ({ cls := "StrikehallModel", name := "markAt", desc := "(II)J" } : Jvm.MethodName) prog_6_method_10_code (3 : Nat) (Option.some Jvm.ClassFile.FieldType.long)) ∈ lw_U := lw_inU 892 (by decide +kernel) (by decide +kernel)
theorem hU_893 : (Jvm.Cond.methodLink "StrikehallModel" (104 : Nat) ({ cls := "StrikehallModel", name := "finds", desc := "(II)V" } : Jvm.MethodName)) ∈ lw_U := lw_inU 893 (by decide +kernel) (by decide +kernel)
theorem hU_895 : (Jvm.Cond.instanceMethod ({ cls := "StrikehallModel", name := "finds", desc := "(II)V" } : Jvm.MethodName)) ∈ lw_U := lw_inU 895 (by decide +kernel) (by decide +kernel)
theorem hU_896 : (Jvm.Cond.code ({ cls := "StrikehallModel", name := "finds", desc := "(II)V" } : Jvm.MethodName) prog_6_method_9_code (10 : Nat) (Option.none : Option Jvm.ClassFile.FieldType)) ∈ lw_U := lw_inU 896 (by decide +kernel) (by decide +kernel)
theorem hU_897 : (Jvm.Cond.methodLink "StrikehallModel" (92 : Nat) ({ cls := "StrikehallModel", name := "priceOf", desc := "(III)J" } : Jvm.MethodName)) ∈ lw_U := lw_inU 897 (by decide +kernel) (by decide +kernel)
theorem hU_899 : (Jvm.Cond.instanceMethod ({ cls := "StrikehallModel", name := "priceOf", desc := "(III)J" } : Jvm.MethodName)) ∈ lw_U := lw_inU 899 (by decide +kernel) (by decide +kernel)
theorem hU_900 : (Jvm.Cond.code ({ cls := "StrikehallModel", name := "priceOf", desc := "(III)J" } : Jvm.MethodName) prog_6_method_8_code (7 : Nat) (Option.some Jvm.ClassFile.FieldType.long)) ∈ lw_U := lw_inU 900 (by decide +kernel) (by decide +kernel)
theorem hU_901 : (Jvm.Cond.methodLink "StrikehallModel" (96 : Nat) ({ cls := "StrikehallModel", name := "pays", desc := "(IJ)J" } : Jvm.MethodName)) ∈ lw_U := lw_inU 901 (by decide +kernel) (by decide +kernel)
theorem hU_903 : (Jvm.Cond.instanceMethod ({ cls := "StrikehallModel", name := "pays", desc := "(IJ)J" } : Jvm.MethodName)) ∈ lw_U := lw_inU 903 (by decide +kernel) (by decide +kernel)
theorem hU_904 : (Jvm.Cond.code ({ cls := "StrikehallModel", name := "pays", desc := "(IJ)J" } : Jvm.MethodName) prog_6_method_7_code (6 : Nat) (Option.some Jvm.ClassFile.FieldType.long)) ∈ lw_U := lw_inU 904 (by decide +kernel) (by decide +kernel)
theorem hU_905 : (Jvm.Cond.methodLink "StrikehallLaw" (102 : Nat) ({ cls := "StrikehallModel", name := "move", desc := "(I)J" } : Jvm.MethodName)) ∈ lw_U := lw_inU 905 (by decide +kernel) (by decide +kernel)
theorem hU_906 : (Jvm.Cond.instanceMethod ({ cls := "StrikehallModel", name := "move", desc := "(I)J" } : Jvm.MethodName)) ∈ lw_U := lw_inU 906 (by decide +kernel) (by decide +kernel)
theorem hU_907 : (Jvm.Cond.selects "StrikehallModel" ({ cls := "StrikehallModel", name := "move", desc := "(I)J" } : Jvm.MethodName) ({ cls := "StrikehallModel", name := "move", desc := "(I)J" } : Jvm.MethodName)) ∈ lw_U := lw_inU 907 (by decide +kernel) (by decide +kernel)
theorem hU_908 : (Jvm.Cond.code ({ cls := "StrikehallModel", name := "move", desc := "(I)J" } : Jvm.MethodName) prog_6_method_13_code (4 : Nat) (Option.some Jvm.ClassFile.FieldType.long)) ∈ lw_U := lw_inU 908 (by decide +kernel) (by decide +kernel)
theorem hU_909 : (Jvm.Cond.constantLong "StrikehallModel" (125 : Nat) (20000 : Int64)) ∈ lw_U := lw_inU 909 (by decide +kernel) (by decide +kernel)
theorem hU_910 : (Jvm.Cond.methodLink "StrikehallLaw" (106 : Nat) ({ cls := "StrikehallModel", name := "dividend", desc := "(II)I" } : Jvm.MethodName)) ∈ lw_U := lw_inU 910 (by decide +kernel) (by decide +kernel)
theorem hU_911 : (Jvm.Cond.instanceMethod ({ cls := "StrikehallModel", name := "dividend", desc := "(II)I" } : Jvm.MethodName)) ∈ lw_U := lw_inU 911 (by decide +kernel) (by decide +kernel)
theorem hU_912 : (Jvm.Cond.selects "StrikehallModel" ({ cls := "StrikehallModel", name := "dividend", desc := "(II)I" } : Jvm.MethodName) ({ cls := "StrikehallModel", name := "dividend", desc := "(II)I" } : Jvm.MethodName)) ∈ lw_U := lw_inU 912 (by decide +kernel) (by decide +kernel)
theorem hU_913 : (Jvm.Cond.code ({ cls := "StrikehallModel", name := "dividend", desc := "(II)I" } : Jvm.MethodName) prog_6_method_14_code (6 : Nat) (Option.some Jvm.ClassFile.FieldType.int)) ∈ lw_U := lw_inU 913 (by decide +kernel) (by decide +kernel)
theorem hU_914 : (Jvm.Cond.constantLong "StrikehallModel" (127 : Nat) (200 : Int64)) ∈ lw_U := lw_inU 914 (by decide +kernel) (by decide +kernel)
theorem hU_915 : (Jvm.Cond.methodLink "StrikehallLaw" (110 : Nat) ({ cls := "StrikehallModel", name := "contract", desc := "(IIIZ)I" } : Jvm.MethodName)) ∈ lw_U := lw_inU 915 (by decide +kernel) (by decide +kernel)
theorem hU_916 : (Jvm.Cond.instanceMethod ({ cls := "StrikehallModel", name := "contract", desc := "(IIIZ)I" } : Jvm.MethodName)) ∈ lw_U := lw_inU 916 (by decide +kernel) (by decide +kernel)
theorem hU_917 : (Jvm.Cond.selects "StrikehallModel" ({ cls := "StrikehallModel", name := "contract", desc := "(IIIZ)I" } : Jvm.MethodName) ({ cls := "StrikehallModel", name := "contract", desc := "(IIIZ)I" } : Jvm.MethodName)) ∈ lw_U := lw_inU 917 (by decide +kernel) (by decide +kernel)
theorem hU_918 : (Jvm.Cond.code ({ cls := "StrikehallModel", name := "contract", desc := "(IIIZ)I" } : Jvm.MethodName) prog_6_method_15_code (6 : Nat) (Option.some Jvm.ClassFile.FieldType.int)) ∈ lw_U := lw_inU 918 (by decide +kernel) (by decide +kernel)
theorem hU_919 : (Jvm.Cond.methodLink "StrikehallLaw" (114 : Nat) ({ cls := "StrikehallModel", name := "quote", desc := "(IIII)I" } : Jvm.MethodName)) ∈ lw_U := lw_inU 919 (by decide +kernel) (by decide +kernel)
theorem hU_920 : (Jvm.Cond.instanceMethod ({ cls := "StrikehallModel", name := "quote", desc := "(IIII)I" } : Jvm.MethodName)) ∈ lw_U := lw_inU 920 (by decide +kernel) (by decide +kernel)
theorem hU_921 : (Jvm.Cond.selects "StrikehallModel" ({ cls := "StrikehallModel", name := "quote", desc := "(IIII)I" } : Jvm.MethodName) ({ cls := "StrikehallModel", name := "quote", desc := "(IIII)I" } : Jvm.MethodName)) ∈ lw_U := lw_inU 921 (by decide +kernel) (by decide +kernel)
theorem hU_922 : (Jvm.Cond.code ({ cls := "StrikehallModel", name := "quote", desc := "(IIII)I" } : Jvm.MethodName) prog_6_method_21_code (6 : Nat) (Option.some Jvm.ClassFile.FieldType.int)) ∈ lw_U := lw_inU 922 (by decide +kernel) (by decide +kernel)
theorem hU_923 : (Jvm.Cond.constantLong "StrikehallModel" (144 : Nat) (100 : Int64)) ∈ lw_U := lw_inU 923 (by decide +kernel) (by decide +kernel)
theorem hU_924 : (Jvm.Cond.methodLink "StrikehallModel" (146 : Nat) ({ cls := "StrikehallModel", name := "isContract", desc := "(I)Z" } : Jvm.MethodName)) ∈ lw_U := lw_inU 924 (by decide +kernel) (by decide +kernel)
theorem hU_926 : (Jvm.Cond.instanceMethod ({ cls := "StrikehallModel", name := "isContract", desc := "(I)Z" } : Jvm.MethodName)) ∈ lw_U := lw_inU 926 (by decide +kernel) (by decide +kernel)
theorem hU_927 : (Jvm.Cond.code ({ cls := "StrikehallModel", name := "isContract", desc := "(I)Z" } : Jvm.MethodName) prog_6_method_4_code (2 : Nat) (Option.some Jvm.ClassFile.FieldType.boolean)) ∈ lw_U := lw_inU 927 (by decide +kernel) (by decide +kernel)
theorem hU_928 : (Jvm.Cond.methodLink "StrikehallModel" (149 : Nat) ({ cls := "StrikehallModel", name := "firstFault", desc := "()I" } : Jvm.MethodName)) ∈ lw_U := lw_inU 928 (by decide +kernel) (by decide +kernel)
theorem hU_930 : (Jvm.Cond.instanceMethod ({ cls := "StrikehallModel", name := "firstFault", desc := "()I" } : Jvm.MethodName)) ∈ lw_U := lw_inU 930 (by decide +kernel) (by decide +kernel)
theorem hU_931 : (Jvm.Cond.code ({ cls := "StrikehallModel", name := "firstFault", desc := "()I" } : Jvm.MethodName) prog_6_method_20_code (5 : Nat) (Option.some Jvm.ClassFile.FieldType.int)) ∈ lw_U := lw_inU 931 (by decide +kernel) (by decide +kernel)
theorem hU_932 : (Jvm.Cond.methodLink "StrikehallModel" (133 : Nat) ({ cls := "StrikehallModel", name := "hasBoth", desc := "(I)Z" } : Jvm.MethodName)) ∈ lw_U := lw_inU 932 (by decide +kernel) (by decide +kernel)
theorem hU_934 : (Jvm.Cond.instanceMethod ({ cls := "StrikehallModel", name := "hasBoth", desc := "(I)Z" } : Jvm.MethodName)) ∈ lw_U := lw_inU 934 (by decide +kernel) (by decide +kernel)
theorem hU_935 : (Jvm.Cond.code ({ cls := "StrikehallModel", name := "hasBoth", desc := "(I)Z" } : Jvm.MethodName) prog_6_method_17_code (2 : Nat) (Option.some Jvm.ClassFile.FieldType.boolean)) ∈ lw_U := lw_inU 935 (by decide +kernel) (by decide +kernel)
theorem hU_936 : (Jvm.Cond.methodLink "StrikehallModel" (137 : Nat) ({ cls := "StrikehallModel", name := "faultOf", desc := "(II)I" } : Jvm.MethodName)) ∈ lw_U := lw_inU 936 (by decide +kernel) (by decide +kernel)
theorem hU_938 : (Jvm.Cond.instanceMethod ({ cls := "StrikehallModel", name := "faultOf", desc := "(II)I" } : Jvm.MethodName)) ∈ lw_U := lw_inU 938 (by decide +kernel) (by decide +kernel)
theorem hU_939 : (Jvm.Cond.code ({ cls := "StrikehallModel", name := "faultOf", desc := "(II)I" } : Jvm.MethodName) prog_6_method_18_code (4 : Nat) (Option.some Jvm.ClassFile.FieldType.int)) ∈ lw_U := lw_inU 939 (by decide +kernel) (by decide +kernel)
theorem hU_940 : (Jvm.Cond.methodLink "StrikehallModel" (129 : Nat) ({ cls := "StrikehallModel", name := "isAlike", desc := "(IIZ)Z" } : Jvm.MethodName)) ∈ lw_U := lw_inU 940 (by decide +kernel) (by decide +kernel)
theorem hU_942 : (Jvm.Cond.instanceMethod ({ cls := "StrikehallModel", name := "isAlike", desc := "(IIZ)Z" } : Jvm.MethodName)) ∈ lw_U := lw_inU 942 (by decide +kernel) (by decide +kernel)
theorem hU_943 : (Jvm.Cond.code ({ cls := "StrikehallModel", name := "isAlike", desc := "(IIZ)Z" } : Jvm.MethodName) prog_6_method_16_code (5 : Nat) (Option.some Jvm.ClassFile.FieldType.boolean)) ∈ lw_U := lw_inU 943 (by decide +kernel) (by decide +kernel)
theorem hU_944 : (Jvm.Cond.methodLink "StrikehallModel" (140 : Nat) ({ cls := "StrikehallModel", name := "isMiddle", desc := "(II)Z" } : Jvm.MethodName)) ∈ lw_U := lw_inU 944 (by decide +kernel) (by decide +kernel)
theorem hU_946 : (Jvm.Cond.instanceMethod ({ cls := "StrikehallModel", name := "isMiddle", desc := "(II)Z" } : Jvm.MethodName)) ∈ lw_U := lw_inU 946 (by decide +kernel) (by decide +kernel)
theorem hU_947 : (Jvm.Cond.code ({ cls := "StrikehallModel", name := "isMiddle", desc := "(II)Z" } : Jvm.MethodName) prog_6_method_19_code (6 : Nat) (Option.some Jvm.ClassFile.FieldType.boolean)) ∈ lw_U := lw_inU 947 (by decide +kernel) (by decide +kernel)
theorem hU_948 : (Jvm.Cond.methodLink "StrikehallLaw" (118 : Nat) ({ cls := "StrikehallModel", name := "kill", desc := "()I" } : Jvm.MethodName)) ∈ lw_U := lw_inU 948 (by decide +kernel) (by decide +kernel)
theorem hU_949 : (Jvm.Cond.instanceMethod ({ cls := "StrikehallModel", name := "kill", desc := "()I" } : Jvm.MethodName)) ∈ lw_U := lw_inU 949 (by decide +kernel) (by decide +kernel)
theorem hU_950 : (Jvm.Cond.selects "StrikehallModel" ({ cls := "StrikehallModel", name := "kill", desc := "()I" } : Jvm.MethodName) ({ cls := "StrikehallModel", name := "kill", desc := "()I" } : Jvm.MethodName)) ∈ lw_U := lw_inU 950 (by decide +kernel) (by decide +kernel)
theorem hU_951 : (Jvm.Cond.code ({ cls := "StrikehallModel", name := "kill", desc := "()I" } : Jvm.MethodName) prog_6_method_23_code (3 : Nat) (Option.some Jvm.ClassFile.FieldType.int)) ∈ lw_U := lw_inU 951 (by decide +kernel) (by decide +kernel)
theorem hU_952 : (Jvm.Cond.methodLink "StrikehallModel" (153 : Nat) ({ cls := "StrikehallModel", name := "hasQuote", desc := "(I)Z" } : Jvm.MethodName)) ∈ lw_U := lw_inU 952 (by decide +kernel) (by decide +kernel)
theorem hU_954 : (Jvm.Cond.instanceMethod ({ cls := "StrikehallModel", name := "hasQuote", desc := "(I)Z" } : Jvm.MethodName)) ∈ lw_U := lw_inU 954 (by decide +kernel) (by decide +kernel)
theorem hU_955 : (Jvm.Cond.code ({ cls := "StrikehallModel", name := "hasQuote", desc := "(I)Z" } : Jvm.MethodName) prog_6_method_22_code (2 : Nat) (Option.some Jvm.ClassFile.FieldType.boolean)) ∈ lw_U := lw_inU 955 (by decide +kernel) (by decide +kernel)
theorem hU_956 : (Jvm.Cond.methodLink "StrikehallLaw" (121 : Nat) ({ cls := "StrikehallModel", name := "limit", desc := "(I)I" } : Jvm.MethodName)) ∈ lw_U := lw_inU 956 (by decide +kernel) (by decide +kernel)
theorem hU_957 : (Jvm.Cond.instanceMethod ({ cls := "StrikehallModel", name := "limit", desc := "(I)I" } : Jvm.MethodName)) ∈ lw_U := lw_inU 957 (by decide +kernel) (by decide +kernel)
theorem hU_958 : (Jvm.Cond.selects "StrikehallModel" ({ cls := "StrikehallModel", name := "limit", desc := "(I)I" } : Jvm.MethodName) ({ cls := "StrikehallModel", name := "limit", desc := "(I)I" } : Jvm.MethodName)) ∈ lw_U := lw_inU 958 (by decide +kernel) (by decide +kernel)
theorem hU_959 : (Jvm.Cond.code ({ cls := "StrikehallModel", name := "limit", desc := "(I)I" } : Jvm.MethodName) prog_6_method_24_code (3 : Nat) (Option.some Jvm.ClassFile.FieldType.int)) ∈ lw_U := lw_inU 959 (by decide +kernel) (by decide +kernel)
theorem hU_960 : (Jvm.Cond.methodLink "StrikehallLaw" (124 : Nat) ({ cls := "StrikehallModel", name := "order", desc := "(IIII)I" } : Jvm.MethodName)) ∈ lw_U := lw_inU 960 (by decide +kernel) (by decide +kernel)
theorem hU_961 : (Jvm.Cond.instanceMethod ({ cls := "StrikehallModel", name := "order", desc := "(IIII)I" } : Jvm.MethodName)) ∈ lw_U := lw_inU 961 (by decide +kernel) (by decide +kernel)
theorem hU_962 : (Jvm.Cond.selects "StrikehallModel" ({ cls := "StrikehallModel", name := "order", desc := "(IIII)I" } : Jvm.MethodName) ({ cls := "StrikehallModel", name := "order", desc := "(IIII)I" } : Jvm.MethodName)) ∈ lw_U := lw_inU 962 (by decide +kernel) (by decide +kernel)
theorem hU_963 : (Jvm.Cond.code ({ cls := "StrikehallModel", name := "order", desc := "(IIII)I" } : Jvm.MethodName) prog_6_method_27_code (11 : Nat) (Option.some Jvm.ClassFile.FieldType.int)) ∈ lw_U := lw_inU 963 (by decide +kernel) (by decide +kernel)
theorem hU_964 : (Jvm.Cond.constantLong "StrikehallModel" (85 : Nat) (5 : Int64)) ∈ lw_U := lw_inU 964 (by decide +kernel) (by decide +kernel)
theorem hU_965 : (Jvm.Cond.constantLong "StrikehallModel" (156 : Nat) (-100 : Int64)) ∈ lw_U := lw_inU 965 (by decide +kernel) (by decide +kernel)
theorem hU_966 : (Jvm.Cond.methodLink "StrikehallModel" (158 : Nat) ({ cls := "StrikehallModel", name := "least", desc := "(II)I" } : Jvm.MethodName)) ∈ lw_U := lw_inU 966 (by decide +kernel) (by decide +kernel)
theorem hU_967 : (Jvm.Cond.static ({ cls := "StrikehallModel", name := "least", desc := "(II)I" } : Jvm.MethodName)) ∈ lw_U := lw_inU 967 (by decide +kernel) (by decide +kernel)
theorem hU_968 : (Jvm.Cond.code ({ cls := "StrikehallModel", name := "least", desc := "(II)I" } : Jvm.MethodName) prog_6_method_25_code (2 : Nat) (Option.some Jvm.ClassFile.FieldType.int)) ∈ lw_U := lw_inU 968 (by decide +kernel) (by decide +kernel)
theorem hU_969 : (Jvm.Cond.methodLink "StrikehallModel" (161 : Nat) ({ cls := "StrikehallModel", name := "deals", desc := "(IIII)V" } : Jvm.MethodName)) ∈ lw_U := lw_inU 969 (by decide +kernel) (by decide +kernel)
theorem hU_971 : (Jvm.Cond.instanceMethod ({ cls := "StrikehallModel", name := "deals", desc := "(IIII)V" } : Jvm.MethodName)) ∈ lw_U := lw_inU 971 (by decide +kernel) (by decide +kernel)
theorem hU_972 : (Jvm.Cond.code ({ cls := "StrikehallModel", name := "deals", desc := "(IIII)V" } : Jvm.MethodName) prog_6_method_26_code (5 : Nat) (Option.none : Option Jvm.ClassFile.FieldType)) ∈ lw_U := lw_inU 972 (by decide +kernel) (by decide +kernel)
theorem hU_973 : (Jvm.Cond.methodLink "StrikehallLaw" (127 : Nat) ({ cls := "StrikehallModel", name := "hedge", desc := "(II)I" } : Jvm.MethodName)) ∈ lw_U := lw_inU 973 (by decide +kernel) (by decide +kernel)
theorem hU_974 : (Jvm.Cond.instanceMethod ({ cls := "StrikehallModel", name := "hedge", desc := "(II)I" } : Jvm.MethodName)) ∈ lw_U := lw_inU 974 (by decide +kernel) (by decide +kernel)
theorem hU_975 : (Jvm.Cond.selects "StrikehallModel" ({ cls := "StrikehallModel", name := "hedge", desc := "(II)I" } : Jvm.MethodName) ({ cls := "StrikehallModel", name := "hedge", desc := "(II)I" } : Jvm.MethodName)) ∈ lw_U := lw_inU 975 (by decide +kernel) (by decide +kernel)
theorem hU_976 : (Jvm.Cond.code ({ cls := "StrikehallModel", name := "hedge", desc := "(II)I" } : Jvm.MethodName) prog_6_method_28_code (6 : Nat) (Option.some Jvm.ClassFile.FieldType.int)) ∈ lw_U := lw_inU 976 (by decide +kernel) (by decide +kernel)
theorem hU_977 : (Jvm.Cond.constantLong "StrikehallModel" (165 : Nat) (-10000 : Int64)) ∈ lw_U := lw_inU 977 (by decide +kernel) (by decide +kernel)
theorem hU_978 : (Jvm.Cond.constantLong "StrikehallModel" (167 : Nat) (10000 : Int64)) ∈ lw_U := lw_inU 978 (by decide +kernel) (by decide +kernel)
theorem hU_979 : (Jvm.Cond.constantLong "StrikehallModel" (169 : Nat) (-100000 : Int64)) ∈ lw_U := lw_inU 979 (by decide +kernel) (by decide +kernel)
theorem hU_980 : (Jvm.Cond.constantLong "StrikehallModel" (171 : Nat) (100000 : Int64)) ∈ lw_U := lw_inU 980 (by decide +kernel) (by decide +kernel)
theorem hU_981 : (Jvm.Cond.methodLink "StrikehallLaw" (131 : Nat) ({ cls := "StrikehallModel", name := "seed", desc := "(I)V" } : Jvm.MethodName)) ∈ lw_U := lw_inU 981 (by decide +kernel) (by decide +kernel)
theorem hU_982 : (Jvm.Cond.instanceMethod ({ cls := "StrikehallModel", name := "seed", desc := "(I)V" } : Jvm.MethodName)) ∈ lw_U := lw_inU 982 (by decide +kernel) (by decide +kernel)
theorem hU_983 : (Jvm.Cond.selects "StrikehallModel" ({ cls := "StrikehallModel", name := "seed", desc := "(I)V" } : Jvm.MethodName) ({ cls := "StrikehallModel", name := "seed", desc := "(I)V" } : Jvm.MethodName)) ∈ lw_U := lw_inU 983 (by decide +kernel) (by decide +kernel)
theorem hU_984 : (Jvm.Cond.code ({ cls := "StrikehallModel", name := "seed", desc := "(I)V" } : Jvm.MethodName) prog_6_method_29_code (2 : Nat) (Option.none : Option Jvm.ClassFile.FieldType)) ∈ lw_U := lw_inU 984 (by decide +kernel) (by decide +kernel)
theorem hU_985 : (Jvm.Cond.methodLink "StrikehallLaw" (135 : Nat) ({ cls := "StrikehallModel", name := "exercise", desc := "(III)I" } : Jvm.MethodName)) ∈ lw_U := lw_inU 985 (by decide +kernel) (by decide +kernel)
theorem hU_986 : (Jvm.Cond.instanceMethod ({ cls := "StrikehallModel", name := "exercise", desc := "(III)I" } : Jvm.MethodName)) ∈ lw_U := lw_inU 986 (by decide +kernel) (by decide +kernel)
theorem hU_987 : (Jvm.Cond.selects "StrikehallModel" ({ cls := "StrikehallModel", name := "exercise", desc := "(III)I" } : Jvm.MethodName) ({ cls := "StrikehallModel", name := "exercise", desc := "(III)I" } : Jvm.MethodName)) ∈ lw_U := lw_inU 987 (by decide +kernel) (by decide +kernel)
theorem hU_988 : (Jvm.Cond.code ({ cls := "StrikehallModel", name := "exercise", desc := "(III)I" } : Jvm.MethodName) prog_6_method_33_code (9 : Nat) (Option.some Jvm.ClassFile.FieldType.int)) ∈ lw_U := lw_inU 988 (by decide +kernel) (by decide +kernel)
theorem hU_989 : (Jvm.Cond.methodLink "StrikehallModel" (191 : Nat) ({ cls := "StrikehallModel", name := "isHolder", desc := "(I)Z" } : Jvm.MethodName)) ∈ lw_U := lw_inU 989 (by decide +kernel) (by decide +kernel)
theorem hU_990 : (Jvm.Cond.static ({ cls := "StrikehallModel", name := "isHolder", desc := "(I)Z" } : Jvm.MethodName)) ∈ lw_U := lw_inU 990 (by decide +kernel) (by decide +kernel)
theorem hU_991 : (Jvm.Cond.code ({ cls := "StrikehallModel", name := "isHolder", desc := "(I)Z" } : Jvm.MethodName) prog_6_method_5_code (1 : Nat) (Option.some Jvm.ClassFile.FieldType.boolean)) ∈ lw_U := lw_inU 991 (by decide +kernel) (by decide +kernel)
theorem hU_992 : (Jvm.Cond.constantLong "StrikehallModel" (83 : Nat) (-1 : Int64)) ∈ lw_U := lw_inU 992 (by decide +kernel) (by decide +kernel)
theorem hU_993 : (Jvm.Cond.methodLink "StrikehallModel" (194 : Nat) ({ cls := "StrikehallModel", name := "exercisesOne", desc := "(IIJ)V" } : Jvm.MethodName)) ∈ lw_U := lw_inU 993 (by decide +kernel) (by decide +kernel)
theorem hU_995 : (Jvm.Cond.instanceMethod ({ cls := "StrikehallModel", name := "exercisesOne", desc := "(IIJ)V" } : Jvm.MethodName)) ∈ lw_U := lw_inU 995 (by decide +kernel) (by decide +kernel)
theorem hU_996 : (Jvm.Cond.code ({ cls := "StrikehallModel", name := "exercisesOne", desc := "(IIJ)V" } : Jvm.MethodName) prog_6_method_32_code (7 : Nat) (Option.none : Option Jvm.ClassFile.FieldType)) ∈ lw_U := lw_inU 996 (by decide +kernel) (by decide +kernel)
theorem hU_997 : (Jvm.Cond.methodLink "StrikehallModel" (184 : Nat) ({ cls := "StrikehallModel", name := "owed", desc := "(I)I" } : Jvm.MethodName)) ∈ lw_U := lw_inU 997 (by decide +kernel) (by decide +kernel)
theorem hU_999 : (Jvm.Cond.instanceMethod ({ cls := "StrikehallModel", name := "owed", desc := "(I)I" } : Jvm.MethodName)) ∈ lw_U := lw_inU 999 (by decide +kernel) (by decide +kernel)
theorem hU_1000 : (Jvm.Cond.code ({ cls := "StrikehallModel", name := "owed", desc := "(I)I" } : Jvm.MethodName) prog_6_method_30_code (5 : Nat) (Option.some Jvm.ClassFile.FieldType.int)) ∈ lw_U := lw_inU 1000 (by decide +kernel) (by decide +kernel)
theorem hU_1001 : (Jvm.Cond.methodLink "StrikehallModel" (188 : Nat) ({ cls := "StrikehallModel", name := "draw", desc := "(I)I" } : Jvm.MethodName)) ∈ lw_U := lw_inU 1001 (by decide +kernel) (by decide +kernel)
theorem hU_1003 : (Jvm.Cond.instanceMethod ({ cls := "StrikehallModel", name := "draw", desc := "(I)I" } : Jvm.MethodName)) ∈ lw_U := lw_inU 1003 (by decide +kernel) (by decide +kernel)
theorem hU_1004 : (Jvm.Cond.code ({ cls := "StrikehallModel", name := "draw", desc := "(I)I" } : Jvm.MethodName) prog_6_method_31_code (2 : Nat) (Option.some Jvm.ClassFile.FieldType.int)) ∈ lw_U := lw_inU 1004 (by decide +kernel) (by decide +kernel)
theorem hU_1005 : (Jvm.Cond.constantLong "StrikehallModel" (176 : Nat) (1103515245 : Int64)) ∈ lw_U := lw_inU 1005 (by decide +kernel) (by decide +kernel)
theorem hU_1006 : (Jvm.Cond.constantLong "StrikehallModel" (178 : Nat) (12345 : Int64)) ∈ lw_U := lw_inU 1006 (by decide +kernel) (by decide +kernel)
theorem hU_1007 : (Jvm.Cond.constantLong "StrikehallModel" (180 : Nat) (2147483648 : Int64)) ∈ lw_U := lw_inU 1007 (by decide +kernel) (by decide +kernel)
theorem hU_1008 : (Jvm.Cond.constantLong "StrikehallModel" (182 : Nat) (65536 : Int64)) ∈ lw_U := lw_inU 1008 (by decide +kernel) (by decide +kernel)
theorem hU_1009 : (Jvm.Cond.methodLink "StrikehallLaw" (139 : Nat) ({ cls := "StrikehallModel", name := "contrary", desc := "(IIZ)Z" } : Jvm.MethodName)) ∈ lw_U := lw_inU 1009 (by decide +kernel) (by decide +kernel)
theorem hU_1010 : (Jvm.Cond.instanceMethod ({ cls := "StrikehallModel", name := "contrary", desc := "(IIZ)Z" } : Jvm.MethodName)) ∈ lw_U := lw_inU 1010 (by decide +kernel) (by decide +kernel)
theorem hU_1011 : (Jvm.Cond.selects "StrikehallModel" ({ cls := "StrikehallModel", name := "contrary", desc := "(IIZ)Z" } : Jvm.MethodName) ({ cls := "StrikehallModel", name := "contrary", desc := "(IIZ)Z" } : Jvm.MethodName)) ∈ lw_U := lw_inU 1011 (by decide +kernel) (by decide +kernel)
theorem hU_1012 : (Jvm.Cond.code ({ cls := "StrikehallModel", name := "contrary", desc := "(IIZ)Z" } : Jvm.MethodName) prog_6_method_34_code (6 : Nat) (Option.some Jvm.ClassFile.FieldType.boolean)) ∈ lw_U := lw_inU 1012 (by decide +kernel) (by decide +kernel)
theorem hU_1013 : (Jvm.Cond.methodLink "StrikehallLaw" (143 : Nat) ({ cls := "StrikehallModel", name := "close", desc := "()I" } : Jvm.MethodName)) ∈ lw_U := lw_inU 1013 (by decide +kernel) (by decide +kernel)
theorem hU_1014 : (Jvm.Cond.instanceMethod ({ cls := "StrikehallModel", name := "close", desc := "()I" } : Jvm.MethodName)) ∈ lw_U := lw_inU 1014 (by decide +kernel) (by decide +kernel)
theorem hU_1015 : (Jvm.Cond.selects "StrikehallModel" ({ cls := "StrikehallModel", name := "close", desc := "()I" } : Jvm.MethodName) ({ cls := "StrikehallModel", name := "close", desc := "()I" } : Jvm.MethodName)) ∈ lw_U := lw_inU 1015 (by decide +kernel) (by decide +kernel)
theorem hU_1016 : (Jvm.Cond.code ({ cls := "StrikehallModel", name := "close", desc := "()I" } : Jvm.MethodName) prog_6_method_36_code (5 : Nat) (Option.some Jvm.ClassFile.FieldType.int)) ∈ lw_U := lw_inU 1016 (by decide +kernel) (by decide +kernel)
theorem hU_1017 : (Jvm.Cond.methodLink "StrikehallModel" (198 : Nat) ({ cls := "StrikehallModel", name := "expires", desc := "(I)V" } : Jvm.MethodName)) ∈ lw_U := lw_inU 1017 (by decide +kernel) (by decide +kernel)
theorem hU_1019 : (Jvm.Cond.instanceMethod ({ cls := "StrikehallModel", name := "expires", desc := "(I)V" } : Jvm.MethodName)) ∈ lw_U := lw_inU 1019 (by decide +kernel) (by decide +kernel)
theorem hU_1020 : (Jvm.Cond.code ({ cls := "StrikehallModel", name := "expires", desc := "(I)V" } : Jvm.MethodName) prog_6_method_35_code (7 : Nat) (Option.none : Option Jvm.ClassFile.FieldType)) ∈ lw_U := lw_inU 1020 (by decide +kernel) (by decide +kernel)
theorem hU_1021 : (Jvm.Cond.methodLink "StrikehallLaw" (147 : Nat) ({ cls := "StrikehallModel", name := "value", desc := "(IZ)J" } : Jvm.MethodName)) ∈ lw_U := lw_inU 1021 (by decide +kernel) (by decide +kernel)
theorem hU_1022 : (Jvm.Cond.instanceMethod ({ cls := "StrikehallModel", name := "value", desc := "(IZ)J" } : Jvm.MethodName)) ∈ lw_U := lw_inU 1022 (by decide +kernel) (by decide +kernel)
theorem hU_1023 : (Jvm.Cond.selects "StrikehallModel" ({ cls := "StrikehallModel", name := "value", desc := "(IZ)J" } : Jvm.MethodName) ({ cls := "StrikehallModel", name := "value", desc := "(IZ)J" } : Jvm.MethodName)) ∈ lw_U := lw_inU 1023 (by decide +kernel) (by decide +kernel)
theorem hU_1024 : (Jvm.Cond.code ({ cls := "StrikehallModel", name := "value", desc := "(IZ)J" } : Jvm.MethodName) prog_6_method_38_code (5 : Nat) (Option.some Jvm.ClassFile.FieldType.long)) ∈ lw_U := lw_inU 1024 (by decide +kernel) (by decide +kernel)
theorem hU_1025 : (Jvm.Cond.methodLink "StrikehallModel" (202 : Nat) ({ cls := "StrikehallModel", name := "common", desc := "(JJ)J" } : Jvm.MethodName)) ∈ lw_U := lw_inU 1025 (by decide +kernel) (by decide +kernel)
theorem hU_1026 : (Jvm.Cond.static ({ cls := "StrikehallModel", name := "common", desc := "(JJ)J" } : Jvm.MethodName)) ∈ lw_U := lw_inU 1026 (by decide +kernel) (by decide +kernel)
theorem hU_1027 : (Jvm.Cond.code ({ cls := "StrikehallModel", name := "common", desc := "(JJ)J" } : Jvm.MethodName) prog_6_method_37_code (10 : Nat) (Option.some Jvm.ClassFile.FieldType.long)) ∈ lw_U := lw_inU 1027 (by decide +kernel) (by decide +kernel)
theorem hU_1028 : (Jvm.Cond.methodLink "StrikehallLaw" (150 : Nat) ({ cls := "StrikehallModel", name := "mark", desc := "(I)I" } : Jvm.MethodName)) ∈ lw_U := lw_inU 1028 (by decide +kernel) (by decide +kernel)
theorem hU_1029 : (Jvm.Cond.instanceMethod ({ cls := "StrikehallModel", name := "mark", desc := "(I)I" } : Jvm.MethodName)) ∈ lw_U := lw_inU 1029 (by decide +kernel) (by decide +kernel)
theorem hU_1030 : (Jvm.Cond.selects "StrikehallModel" ({ cls := "StrikehallModel", name := "mark", desc := "(I)I" } : Jvm.MethodName) ({ cls := "StrikehallModel", name := "mark", desc := "(I)I" } : Jvm.MethodName)) ∈ lw_U := lw_inU 1030 (by decide +kernel) (by decide +kernel)
theorem hU_1031 : (Jvm.Cond.code ({ cls := "StrikehallModel", name := "mark", desc := "(I)I" } : Jvm.MethodName) prog_6_method_39_code (2 : Nat) (Option.some Jvm.ClassFile.FieldType.int)) ∈ lw_U := lw_inU 1031 (by decide +kernel) (by decide +kernel)
theorem hU_1032 : (Jvm.Cond.methodLink "StrikehallLaw" (153 : Nat) ({ cls := "StrikehallModel", name := "markByWays", desc := "(I)I" } : Jvm.MethodName)) ∈ lw_U := lw_inU 1032 (by decide +kernel) (by decide +kernel)
theorem hU_1033 : (Jvm.Cond.instanceMethod ({ cls := "StrikehallModel", name := "markByWays", desc := "(I)I" } : Jvm.MethodName)) ∈ lw_U := lw_inU 1033 (by decide +kernel) (by decide +kernel)
theorem hU_1034 : (Jvm.Cond.selects "StrikehallModel" ({ cls := "StrikehallModel", name := "markByWays", desc := "(I)I" } : Jvm.MethodName) ({ cls := "StrikehallModel", name := "markByWays", desc := "(I)I" } : Jvm.MethodName)) ∈ lw_U := lw_inU 1034 (by decide +kernel) (by decide +kernel)
theorem hU_1035 : (Jvm.Cond.code ({ cls := "StrikehallModel", name := "markByWays", desc := "(I)I" } : Jvm.MethodName) prog_6_method_40_code (2 : Nat) (Option.some Jvm.ClassFile.FieldType.int)) ∈ lw_U := lw_inU 1035 (by decide +kernel) (by decide +kernel)
theorem hU_1036 : (Jvm.Cond.methodLink "StrikehallModel" (206 : Nat) ({ cls := "StrikehallModel", name := "mark", desc := "(I)I" } : Jvm.MethodName)) ∈ lw_U := lw_inU 1036 (by decide +kernel) (by decide +kernel)
theorem hU_1037 : (Jvm.Cond.methodLink "StrikehallLaw" (157 : Nat) ({ cls := "StrikehallModel", name := "fault", desc := "()I" } : Jvm.MethodName)) ∈ lw_U := lw_inU 1037 (by decide +kernel) (by decide +kernel)
theorem hU_1038 : (Jvm.Cond.instanceMethod ({ cls := "StrikehallModel", name := "fault", desc := "()I" } : Jvm.MethodName)) ∈ lw_U := lw_inU 1038 (by decide +kernel) (by decide +kernel)
theorem hU_1039 : (Jvm.Cond.selects "StrikehallModel" ({ cls := "StrikehallModel", name := "fault", desc := "()I" } : Jvm.MethodName) ({ cls := "StrikehallModel", name := "fault", desc := "()I" } : Jvm.MethodName)) ∈ lw_U := lw_inU 1039 (by decide +kernel) (by decide +kernel)
theorem hU_1040 : (Jvm.Cond.code ({ cls := "StrikehallModel", name := "fault", desc := "()I" } : Jvm.MethodName) prog_6_method_41_code (1 : Nat) (Option.some Jvm.ClassFile.FieldType.int)) ∈ lw_U := lw_inU 1040 (by decide +kernel) (by decide +kernel)
theorem hU_1041 : (Jvm.Cond.methodLink "StrikehallLaw" (160 : Nat) ({ cls := "StrikehallModel", name := "quoted", desc := "(II)I" } : Jvm.MethodName)) ∈ lw_U := lw_inU 1041 (by decide +kernel) (by decide +kernel)
theorem hU_1042 : (Jvm.Cond.instanceMethod ({ cls := "StrikehallModel", name := "quoted", desc := "(II)I" } : Jvm.MethodName)) ∈ lw_U := lw_inU 1042 (by decide +kernel) (by decide +kernel)
theorem hU_1043 : (Jvm.Cond.selects "StrikehallModel" ({ cls := "StrikehallModel", name := "quoted", desc := "(II)I" } : Jvm.MethodName) ({ cls := "StrikehallModel", name := "quoted", desc := "(II)I" } : Jvm.MethodName)) ∈ lw_U := lw_inU 1043 (by decide +kernel) (by decide +kernel)
theorem hU_1044 : (Jvm.Cond.code ({ cls := "StrikehallModel", name := "quoted", desc := "(II)I" } : Jvm.MethodName) prog_6_method_42_code (3 : Nat) (Option.some Jvm.ClassFile.FieldType.int)) ∈ lw_U := lw_inU 1044 (by decide +kernel) (by decide +kernel)
theorem hU_1045 : (Jvm.Cond.constantLong "StrikehallModel" (209 : Nat) (3 : Int64)) ∈ lw_U := lw_inU 1045 (by decide +kernel) (by decide +kernel)
theorem hU_1046 : (Jvm.Cond.methodLink "StrikehallLaw" (163 : Nat) ({ cls := "StrikehallModel", name := "lots", desc := "(II)I" } : Jvm.MethodName)) ∈ lw_U := lw_inU 1046 (by decide +kernel) (by decide +kernel)
theorem hU_1047 : (Jvm.Cond.instanceMethod ({ cls := "StrikehallModel", name := "lots", desc := "(II)I" } : Jvm.MethodName)) ∈ lw_U := lw_inU 1047 (by decide +kernel) (by decide +kernel)
theorem hU_1048 : (Jvm.Cond.selects "StrikehallModel" ({ cls := "StrikehallModel", name := "lots", desc := "(II)I" } : Jvm.MethodName) ({ cls := "StrikehallModel", name := "lots", desc := "(II)I" } : Jvm.MethodName)) ∈ lw_U := lw_inU 1048 (by decide +kernel) (by decide +kernel)
theorem hU_1049 : (Jvm.Cond.code ({ cls := "StrikehallModel", name := "lots", desc := "(II)I" } : Jvm.MethodName) prog_6_method_43_code (3 : Nat) (Option.some Jvm.ClassFile.FieldType.int)) ∈ lw_U := lw_inU 1049 (by decide +kernel) (by decide +kernel)
theorem hU_1050 : (Jvm.Cond.methodLink "StrikehallLaw" (166 : Nat) ({ cls := "StrikehallModel", name := "cash", desc := "(I)J" } : Jvm.MethodName)) ∈ lw_U := lw_inU 1050 (by decide +kernel) (by decide +kernel)
theorem hU_1051 : (Jvm.Cond.instanceMethod ({ cls := "StrikehallModel", name := "cash", desc := "(I)J" } : Jvm.MethodName)) ∈ lw_U := lw_inU 1051 (by decide +kernel) (by decide +kernel)
theorem hU_1052 : (Jvm.Cond.selects "StrikehallModel" ({ cls := "StrikehallModel", name := "cash", desc := "(I)J" } : Jvm.MethodName) ({ cls := "StrikehallModel", name := "cash", desc := "(I)J" } : Jvm.MethodName)) ∈ lw_U := lw_inU 1052 (by decide +kernel) (by decide +kernel)
theorem hU_1053 : (Jvm.Cond.code ({ cls := "StrikehallModel", name := "cash", desc := "(I)J" } : Jvm.MethodName) prog_6_method_44_code (2 : Nat) (Option.some Jvm.ClassFile.FieldType.long)) ∈ lw_U := lw_inU 1053 (by decide +kernel) (by decide +kernel)
theorem hU_1054 : (Jvm.Cond.methodLink "StrikehallLaw" (171 : Nat) ({ cls := "StrikehallModel", name := "worth", desc := "()J" } : Jvm.MethodName)) ∈ lw_U := lw_inU 1054 (by decide +kernel) (by decide +kernel)
theorem hU_1055 : (Jvm.Cond.instanceMethod ({ cls := "StrikehallModel", name := "worth", desc := "()J" } : Jvm.MethodName)) ∈ lw_U := lw_inU 1055 (by decide +kernel) (by decide +kernel)
theorem hU_1056 : (Jvm.Cond.selects "StrikehallModel" ({ cls := "StrikehallModel", name := "worth", desc := "()J" } : Jvm.MethodName) ({ cls := "StrikehallModel", name := "worth", desc := "()J" } : Jvm.MethodName)) ∈ lw_U := lw_inU 1056 (by decide +kernel) (by decide +kernel)
theorem hU_1057 : (Jvm.Cond.code ({ cls := "StrikehallModel", name := "worth", desc := "()J" } : Jvm.MethodName) prog_6_method_45_code (1 : Nat) (Option.some Jvm.ClassFile.FieldType.long)) ∈ lw_U := lw_inU 1057 (by decide +kernel) (by decide +kernel)
theorem hU_1058 : (Jvm.Cond.methodLink "StrikehallLaw" (174 : Nat) ({ cls := "StrikehallModel", name := "cause", desc := "(I)J" } : Jvm.MethodName)) ∈ lw_U := lw_inU 1058 (by decide +kernel) (by decide +kernel)
theorem hU_1059 : (Jvm.Cond.instanceMethod ({ cls := "StrikehallModel", name := "cause", desc := "(I)J" } : Jvm.MethodName)) ∈ lw_U := lw_inU 1059 (by decide +kernel) (by decide +kernel)
theorem hU_1060 : (Jvm.Cond.selects "StrikehallModel" ({ cls := "StrikehallModel", name := "cause", desc := "(I)J" } : Jvm.MethodName) ({ cls := "StrikehallModel", name := "cause", desc := "(I)J" } : Jvm.MethodName)) ∈ lw_U := lw_inU 1060 (by decide +kernel) (by decide +kernel)
theorem hU_1061 : (Jvm.Cond.code ({ cls := "StrikehallModel", name := "cause", desc := "(I)J" } : Jvm.MethodName) prog_6_method_46_code (2 : Nat) (Option.some Jvm.ClassFile.FieldType.long)) ∈ lw_U := lw_inU 1061 (by decide +kernel) (by decide +kernel)
theorem hU_1062 : (Jvm.Cond.methodLink "StrikehallLaw" (177 : Nat) ({ cls := "StrikehallModel", name := "worst", desc := "(I)J" } : Jvm.MethodName)) ∈ lw_U := lw_inU 1062 (by decide +kernel) (by decide +kernel)
theorem hU_1063 : (Jvm.Cond.instanceMethod ({ cls := "StrikehallModel", name := "worst", desc := "(I)J" } : Jvm.MethodName)) ∈ lw_U := lw_inU 1063 (by decide +kernel) (by decide +kernel)
theorem hU_1064 : (Jvm.Cond.selects "StrikehallModel" ({ cls := "StrikehallModel", name := "worst", desc := "(I)J" } : Jvm.MethodName) ({ cls := "StrikehallModel", name := "worst", desc := "(I)J" } : Jvm.MethodName)) ∈ lw_U := lw_inU 1064 (by decide +kernel) (by decide +kernel)
theorem hU_1065 : (Jvm.Cond.code ({ cls := "StrikehallModel", name := "worst", desc := "(I)J" } : Jvm.MethodName) prog_6_method_47_code (9 : Nat) (Option.some Jvm.ClassFile.FieldType.long)) ∈ lw_U := lw_inU 1065 (by decide +kernel) (by decide +kernel)
theorem hU_1079 : (Jvm.Cond.selects "[Ljava/lang/Object;" ({ cls := "java/lang/Object", name := "getClass", desc := "()Ljava/lang/Class;" } : Jvm.MethodName) ({ cls := "java/lang/Object", name := "getClass", desc := "()Ljava/lang/Class;" } : Jvm.MethodName)) ∈ lw_U := lw_inU 1079 (by decide +kernel) (by decide +kernel)
theorem hin_X0 : ∀ w ∈ u_ws RX0 TX0 10, w ∈ lw_U := fun w hw => List.mem_filter.mpr ⟨(by decide +kernel : ∀ w ∈ u_ws RX0 TX0 10, w ∈ lw_tbl) w hw, (List.all_eq_true.mp (by decide +kernel : (u_ws RX0 TX0 10).all goodWord = true)) w hw⟩
theorem hin_X1 : ∀ w ∈ u_ws RX1 TX1 1, w ∈ lw_U := fun w hw => List.mem_filter.mpr ⟨(by decide +kernel : ∀ w ∈ u_ws RX1 TX1 1, w ∈ lw_tbl) w hw, (List.all_eq_true.mp (by decide +kernel : (u_ws RX1 TX1 1).all goodWord = true)) w hw⟩
theorem hin_X2 : ∀ w ∈ u_ws RX2 TX2 6, w ∈ lw_U := fun w hw => List.mem_filter.mpr ⟨(by decide +kernel : ∀ w ∈ u_ws RX2 TX2 6, w ∈ lw_tbl) w hw, (List.all_eq_true.mp (by decide +kernel : (u_ws RX2 TX2 6).all goodWord = true)) w hw⟩
theorem hin_X3 : ∀ w ∈ u_ws RX3 TX3 8, w ∈ lw_U := fun w hw => List.mem_filter.mpr ⟨(by decide +kernel : ∀ w ∈ u_ws RX3 TX3 8, w ∈ lw_tbl) w hw, (List.all_eq_true.mp (by decide +kernel : (u_ws RX3 TX3 8).all goodWord = true)) w hw⟩
theorem hin_X4 : ∀ w ∈ u_ws RX4 TX4 26, w ∈ lw_U := fun w hw => List.mem_filter.mpr ⟨(by decide +kernel : ∀ w ∈ u_ws RX4 TX4 26, w ∈ lw_tbl) w hw, (List.all_eq_true.mp (by decide +kernel : (u_ws RX4 TX4 26).all goodWord = true)) w hw⟩
theorem hin_Jx4a65c : ∀ w ∈ u_ws RJx4a65c TJx4a65c 3, w ∈ lw_U := fun w hw => List.mem_filter.mpr ⟨(by decide +kernel : ∀ w ∈ u_ws RJx4a65c TJx4a65c 3, w ∈ lw_tbl) w hw, (List.all_eq_true.mp (by decide +kernel : (u_ws RJx4a65c TJx4a65c 3).all goodWord = true)) w hw⟩
end
section
/-! ===== BEGIN words of one list among another's, by their places ===== -/
theorem goodIn_r {big : List Cond} (ws : List Cond) (ps : List Nat) (hp : ws = ps.filterMap (fun i => big[i]?)) (h : ws.all goodWord = true) : GoodIn big ws := by
  intro w hw
  have h1 := List.all_eq_true.mp h w hw
  rw [hp] at hw
  obtain ⟨i, -, hi⟩ := List.mem_filterMap.mp hw
  have hm : w ∈ big := by first | exact List.mem_of_getElem? hi | exact List.getElem?_mem hi
  exact ⟨hm, good_of_word h1⟩
theorem goodIn_app {big a b : List Cond} (ha : GoodIn big a) (hb : GoodIn big b) : GoodIn big (a ++ b) := fun w h => (List.mem_append.mp h).elim (ha w) (hb w)
theorem goodIn_ca {big a b : List Cond} {c : Cond} (ha : GoodIn big (c :: a)) (hb : GoodIn big b) : GoodIn big (c :: (a ++ b)) := fun w h => (List.mem_cons.mp h).elim (fun e => ha w (List.mem_cons.mpr (Or.inl e))) (fun h => (List.mem_append.mp h).elim (fun h => ha w (List.mem_cons.mpr (Or.inr h))) (hb w))
theorem goodIn_sub {big ws : List Cond} (hm : ∀ w ∈ ws, w ∈ big) (h : ws.all goodWord = true) : GoodIn big ws := fun w hw => ⟨hm w hw, good_of_word (List.all_eq_true.mp h w hw)⟩
/-! ===== END ===== -/

/-! ===== BEGIN exceptions that leave a method, and their catching by the caller (launches without stack traces) ===== -/
section VXA
/-! The laws vx_back, vx_callV, vx_callS, vx_callSW, vx_throw0, vx_throwS follow proofs of the library, with one case more: JvmDerived/Free/Laws.lean (Back.of_free), Shelf42/LK1.lean (callV, callS), Shelf/KitTraced.lean (throwNew0V, throwNewS). -/
/-- where a method has thrown q: the class by its name, the cell, what was written, the world -/
def vx_T (XC : String → State → State → Prop) (st : State) (q : Addr) (t : State) (mc ms : Nat) (free : Addr → Prop) : Prop :=
  ∃ (E : String) (ce : Cell) (L : List Loc), XC E st t ∧ t.heap[q]? = some ce ∧ ce.vm = .none ∧ st.vm.findClass E = some ce.cls ∧ st.WarmedH t.vm ∧ st.sameButNew ({ t with vm := st.vm } : State) L mc ms ∧ ∀ z ∈ L, free z.base
def vx_Q (Qc : Array Value → State → Outcome → State → Prop) (XC : String → State → State → Prop) (mc ms : Nat) (free : Addr → Prop) : Array Value → State → Outcome → State → Prop := fun a st o t =>
  (Qc a st o t ∧ ∃ L, FrameEnd st o t L mc ms ∧ ∀ q ∈ L, free q.base) ∨ ∃ q, o = .threw q ∧ vx_T XC st q t mc ms free
/-- a callee that returns or throws -/
def vx_Met (l : Launch) (y : MethodName) (ws : List Cond) (rm : Room) (Pc : Array Value → State → Prop) (Qc : Array Value → State → Outcome → State → Prop) (XC : String → State → State → Prop) (mc ms : Nat) (free : Addr → Prop) : Prop :=
  MetFree l y (headSpec ws rm) Pc (fun _ _ _ _ _ => True) (vx_Q Qc XC mc ms free)
def vx_Post (XC : String → State → State → Prop) (mc ms : Nat) (free : Addr → Prop) : Pt → Array Value → Addr → Pt → Prop := fun A a q B =>
  ∃ (g : JFrame) (mk : MethodId) (t : State) (L : List Loc) (E : String) (ce : Cell), B.U.heap = t.heap ∧ B.U.vm = t.vm ∧ XC E (A.U.calling g mk a) t ∧ t.heap[q]? = some ce ∧ ce.vm = .none ∧ A.U.vm.findClass E = some ce.cls ∧ B.locs = A.locs ++ L ∧ (∀ z ∈ L, free z.base) ∧ B.cells = A.cells + mc ∧ B.slots = A.slots + ms
def vx_Back (l : Launch) (R : Room) (p : Program) (e : Env) (below : List Frame) (s : State) (sargs : Array Value) (y : MethodName) (len W9 : Nat)
    (Pre : Pt → Array Value → Prop) (Post : Pt → Array Value → Option Value → Pt → Prop) (PostX : Pt → Array Value → Addr → Pt → Prop) : Prop :=
  ∀ (m : MethodId) (meth : Method) (c : Code) (A : Pt) (g : JFrame) (ig : Instr) (mk : MethodId) (a : Array Value),
    Stand p l e R s m sargs below meth c A.U A.locs A.cells A.slots → g.method = m → g.locals.size = c.maxLocals → decode c.code g.pc = .ok (ig, len) →
    2 * g.monitorRoom + (g.stack.map fun v => v.category).sum ≤ W9 → A.U.methodNamed? y = some mk → Pre A a →
    (∃ (v : Option Value) (B : Pt), Stand p l e R s m sargs below meth c B.U B.locs B.cells B.slots ∧ Post A a v B ∧
      Steps p.tables e below (doInvoke e (A.U.setTop g) [] mk a).1 (B.U.setTop { g with pc := g.pc + len, stack := v.toList ++ g.stack })) ∨
    (∃ (q : Addr) (B : Pt), Stand p l e R s m sargs below meth c B.U B.locs B.cells B.slots ∧ PostX A a q B ∧
      Steps p.tables e below (doInvoke e (A.U.setTop g) [] mk a).1 ((B.U.setTop g).pushFrame (.throwing q)))
section Payer
variable {l : Launch} {R : Room} {p : Program} {e : Env} {below : List Frame} {s : State} {sargs : Array Value} {y : MethodName} {len W9 : Nat}
theorem vx_back {ws : List Cond} {rm : Room} {Pc : Array Value → State → Prop} {Qc : Array Value → State → Outcome → State → Prop} {XC : String → State → State → Prop} {mc ms : Nat} {free : Addr → Prop} {bytes : ByteArray} {maxL : Nat} {ret : Option FieldType}
    (hM : vx_Met l y ws rm Pc Qc XC mc ms free) (hblind : FrameBlind Pc) (hrc : rm.cells = mc) (hrs : rm.slots = ms)
    (hframes : rm.frames + 1 ≤ R.frames) (hlocals : W9 + (maxL + 11) + rm.locals ≤ R.locals)
    (hws : ∀ w ∈ ws, ∀ a' U, s.WarmedH U.vm → w.before a' U = true) (hcode : Cond.code y bytes maxL ret ∈ ws) (hinit : ∀ a' U, s.WarmedH U.vm → (Cond.initialized y.cls).before a' U = true) :
    vx_Back l R p e below s sargs y len W9 (PreOf R mc ms Pc) (PostOf Qc mc ms free) (vx_Post XC mc ms free) := by
  intro m meth c A g ig mk a X hg hsize hdg hW hn hp
  have h1 : (headSpec ws rm).pre.before a A.U = true := atoms_intro fun w hw => hws w hw _ _ X.warmed
  have h2 : (Cond.code y bytes maxL ret).before a A.U = true := hws _ hcode _ _ X.warmed
  have h3 : (Cond.initialized y.cls).before a A.U = true := hinit _ _ X.warmed
  have h4 : A.cells + (headSpec ws rm).room.cells ≤ R.cells := by rw [show (headSpec ws rm).room.cells = mc from hrc]; exact hp.1
  have h5 : A.slots + (headSpec ws rm).room.slots ≤ R.slots := by rw [show (headSpec ws rm).room.slots = ms from hrs]; exact hp.2.1
  have hPc : Pc a (A.U.calling g mk a) := hblind _ _ _ _ hp.2.2
  obtain ⟨U, Ls, c0, s0⟩ := A
  dsimp only [Pt.U, Pt.locs, Pt.cells, Pt.slots] at h1 h2 h3 h4 h5 X hn hPc ⊢
  obtain ⟨methY, cY, hmY, hcY, -, hlY, -, -, -, -⟩ := Cond.code_spec hn h2
  obtain ⟨kY, hkY, -⟩ := className_of_methodNamed hn
  have hinitY : kY.init = .initialized := Cond.initialized_spec (findClass_of_methodNamed hn) hkY h3
  have h : At U g.method c below := by rw [hg]; exact X.here
  have hlocals9 : W9 + (maxL + 11) + (headSpec ws rm).room.locals ≤ R.locals := hlocals
  have happ : (headSpec ws rm).appliesLoose y e.platform (U.calling g mk a) = true :=
    Spec.appliesLoose_calling (g := g) h hdg hn hkY hinitY
      (X.room_calling (g := g) (R' := (headSpec ws rm).room) hsize hmY hcY hframes (by rw [hlY]; omega) h4 h5) h1
  obtain ⟨mid, hmid⟩ := h.above
  have hfr : (U.setTop g).frames = (.java g :: mid) ++ below := by rw [State.frames_setTop' g h.top, hmid]; rfl
  obtain ⟨o, s₂, hsteps, -, hend, hq⟩ := Steps.callFree hM p X.admits X.cas X.clock (acts := []) hfr happ hPc trivial
  have hq' : vx_Q Qc XC mc ms free a (U.calling g mk a) o s₂ := hq
  rw [State.frames_setTop' g h.top] at hend
  obtain ⟨g₀, hg0⟩ := Option.isSome_iff_exists.mp h.top
  obtain ⟨r, hr⟩ := State.topJava?_eq_some.mp hg0
  have hr' : (({ U with heap := s₂.heap, slotsUsed := s₂.slotsUsed } : State).setVm s₂.vm).frames = .java g₀ :: r := hr
  rcases hq' with ⟨hqc, L, hfe, hL⟩ | ⟨q, rfl, E, ce, L, hx, hce, hcv, hcl, hW₂, hsm, hL⟩
  · obtain ⟨⟨v, rfl⟩, hW₂, e2, q2, q3, q4, q5, q6⟩ := id hfe
    have e3 : s₂ = ({ (U.calling g mk a).setFrames s₂.frames with heap := s₂.heap, slotsUsed := s₂.slotsUsed } : State).setVm s₂.vm := by
      have : s₂ = ({ s₂ with vm := (U.calling g mk a).vm } : State).setVm s₂.vm := rfl
      rw [e2] at this
      exact this
    obtain ⟨c₂, i₂, len₂, hc₂, hd₂, hf₂⟩ := hend
    have hW' : U.WarmedH s₂.vm := hW₂
    have hcc : c₂ = c := by
      have h1 : s₂.code? g.method = U.code? g.method := by
        rw [State.code?_eq, State.code?_eq, hW'.alike.method?]
      exact Option.some.inj (hc₂.symm.trans (h1.trans h.code))
    subst hcc
    have hlen : len₂ = len := by rw [hdg] at hd₂; cases hd₂; rfl
    subst hlen
    have hs₂ : s₂ = (({ U with heap := s₂.heap, slotsUsed := s₂.slotsUsed } : State).setVm s₂.vm).setTop { g with pc := g.pc + len₂, stack := v.toList ++ g.stack } := by
      refine e3.trans ?_
      rw [hf₂, State.calling_eq h.top, State.setFrames_setFrames, State.setTop_of_frames _ hr', hr]
      rfl
    have hsame : U.sameButNew ({ U with heap := s₂.heap, slotsUsed := s₂.slotsUsed } : State) L mc ms := by
      refine ⟨?_, q2, q3, q4, q5, q6⟩
      obtain ⟨t, ht, -⟩ := State.frames_cons hr
      show ({ U with heap := s₂.heap, slotsUsed := s₂.slotsUsed } : State) = { U.setFrames U.frames with heap := s₂.heap, slotsUsed := s₂.slotsUsed }
      rw [State.setFrames_self ht]
    subst hg
    refine Or.inl ⟨v, ⟨(({ U with heap := s₂.heap, slotsUsed := s₂.slotsUsed } : State).setVm s₂.vm), Ls ++ L, c0 + mc, s0 + ms⟩,
      ⟨X.admits, X.cas, X.clock, X.frames, X.room, X.hears, X.method, X.code, (X.here.setHeapUsed s₂.heap s₂.slotsUsed).setVm hW'.alike, X.tail, State.WarmedH.trans X.warmed hW', X.limits, X.bytes, X.same.trans (hsame.setVm s.vm)⟩,
      ⟨g, mk, s₂, L, rfl, rfl, hqc, rfl, hL, rfl, rfl⟩, ?_⟩
    show Steps p.tables e below _ ((({ U with heap := s₂.heap, slotsUsed := s₂.slotsUsed } : State).setVm s₂.vm).setTop { g with pc := g.pc + len₂, stack := v.toList ++ g.stack })
    rw [← hs₂]
    exact hsteps
  · obtain ⟨e2, q2, q3, q4, q5, q6⟩ := id hsm
    have e3 : s₂ = ({ (U.calling g mk a).setFrames s₂.frames with heap := s₂.heap, slotsUsed := s₂.slotsUsed } : State).setVm s₂.vm := by
      have : s₂ = ({ s₂ with vm := (U.calling g mk a).vm } : State).setVm s₂.vm := rfl
      rw [e2] at this
      exact this
    have hf₂ : s₂.frames = .throwing q :: .java g :: U.frames.tail := hend
    have hW' : U.WarmedH s₂.vm := hW₂
    have hs₂ : s₂ = ((({ U with heap := s₂.heap, slotsUsed := s₂.slotsUsed } : State).setVm s₂.vm).setTop g).pushFrame (.throwing q) := by
      refine e3.trans ?_
      rw [hf₂, State.calling_eq h.top, State.setFrames_setFrames, State.pushFrame, State.frames_setTop _ hr', State.setTop_of_frames _ hr', State.setFrames_setFrames, hr]
      rfl
    have hsame : U.sameButNew ({ U with heap := s₂.heap, slotsUsed := s₂.slotsUsed } : State) L mc ms := by
      refine ⟨?_, q2, q3, q4, q5, q6⟩
      obtain ⟨t, ht, -⟩ := State.frames_cons hr
      show ({ U with heap := s₂.heap, slotsUsed := s₂.slotsUsed } : State) = { U.setFrames U.frames with heap := s₂.heap, slotsUsed := s₂.slotsUsed }
      rw [State.setFrames_self ht]
    subst hg
    refine Or.inr ⟨q, ⟨(({ U with heap := s₂.heap, slotsUsed := s₂.slotsUsed } : State).setVm s₂.vm), Ls ++ L, c0 + mc, s0 + ms⟩,
      ⟨X.admits, X.cas, X.clock, X.frames, X.room, X.hears, X.method, X.code, (X.here.setHeapUsed s₂.heap s₂.slotsUsed).setVm hW'.alike, X.tail, State.WarmedH.trans X.warmed hW', X.limits, X.bytes, X.same.trans (hsame.setVm s.vm)⟩,
      ⟨g, mk, s₂, L, E, ce, rfl, rfl, hx, hce, hcv, hcl, rfl, hL, rfl, rfl⟩, ?_⟩
    show Steps p.tables e below _ (((({ U with heap := s₂.heap, slotsUsed := s₂.slotsUsed } : State).setVm s₂.vm).setTop g).pushFrame (.throwing q))
    rw [← hs₂]
    exact hsteps
end Payer
section Calls
variable {p : Program} {l : Launch} {e : Env} {R : Room} {s : State} {m : MethodId} {args : Array Value} {below : List Frame} {meth : Method} {c : Code} {T : State} {locs : List Loc} {cells slots : Nat}
theorem vx_callV (X : Stand p l e R s m args below meth c T locs cells slots) (hexec : p.tables.exec = Jvm.exec) {own C : String} {index : Nat} {y : MethodName} {bytes : ByteArray} {maxL : Nat} {ret : Option FieldType}
    (hown : s.vm.findClass own = some m.cls) (hlink : (Cond.methodLink own index y).before args s = true) (hinst : (Cond.instanceMethod y).before args s = true) (hsel : (Cond.selects C y y).before args s = true)
    (hcode : (Cond.code y bytes maxL ret).before args s = true) (hy : y.cls ≠ "java/lang/invoke/MethodHandle" ∧ y.cls ≠ "java/lang/invoke/VarHandle")
    {W9 : Nat} {Pre : Pt → Array Value → Prop} {Post : Pt → Array Value → Option Value → Pt → Prop} {PostX : Pt → Array Value → Addr → Pt → Prop} (hK : vx_Back l R p e below s args y 3 W9 Pre Post PostX)
    {b : Addr} {cellB : Cell} (hcell : T.heap[b]? = some cellB) (hobj : cellB.vm.isStatics = false) (hcls : s.vm.findClass C = some cellB.cls)
    {g : JFrame} (hg : g.method = m) (hsize : g.locals.size = c.maxLocals) {argsL rest : List Value} (hlen : ∀ sig, parseMethodDescriptor y.desc = some sig → argsL.length = sig.parameters.length)
    (hstack : g.stack = argsL.reverse ++ .ref b :: rest) (hW : 2 * g.monitorRoom + (rest.map fun v => v.category).sum ≤ W9) (hdg : decode c.code g.pc = .ok (.invokevirtual index, 3))
    (hpre : ∀ vm₁, s.WarmedH vm₁ → Pre ⟨T.setVm vm₁, locs, cells, slots⟩ (Value.ref b :: argsL).toArray) :
    (∃ (v : Option Value) (vm₁ : Vm) (B : Pt), s.WarmedH vm₁ ∧ Stand p l e R s m args below meth c B.U B.locs B.cells B.slots ∧ Post ⟨T.setVm vm₁, locs, cells, slots⟩ (Value.ref b :: argsL).toArray v B ∧
      ∀ target, Steps p.tables e below (B.U.setTop { g with pc := g.pc + 3, stack := v.toList ++ rest }) target → Steps p.tables e below (T.setTop g) target) ∨
    (∃ (q : Addr) (vm₁ : Vm) (B : Pt), s.WarmedH vm₁ ∧ Stand p l e R s m args below meth c B.U B.locs B.cells B.slots ∧ PostX ⟨T.setVm vm₁, locs, cells, slots⟩ (Value.ref b :: argsL).toArray q B ∧
      Steps p.tables e below (T.setTop g) ((B.U.setTop { g with stack := rest }).pushFrame (.throwing q))) := by
  obtain ⟨mk, methM, hnamed, hmethM, hstM, habM⟩ := Cond.instanceMethod_spec hinst
  obtain ⟨methM', cM, hmethM', -, -, -, -, -, -, hsigM⟩ := Cond.code_spec hnamed hcode
  cases hmethM.symm.trans hmethM'
  obtain ⟨c2, r2, m2, q1, q2, q3, q4, kP, hkP, hkPi⟩ := Cond.selects_spec hsel
  cases hcls.symm.trans q1
  cases (State.methodFound?_of_named hnamed hy).symm.trans q2
  cases hnamed.symm.trans q3
  have hselP : selectMethod e.platform s.vm cellB.cls mk = .method mk := by rw [Launch.admits_selectMethod X.admits]; exact q4
  obtain ⟨vm₁, X₁, hstep₁⟩ := X.invokevirtual hexec hown hlink hnamed hmethM hstM hkP hkPi hy (a := b) (cell := cellB) hcell
    (fun z h => by rw [h] at hobj; cases hobj) hselP hmethM habM hkP hkPi (g := g) hg (argsL := argsL) (rest := rest) (hlen _ hsigM) hstack hdg
  rcases hK m meth c ⟨T.setVm vm₁, locs, cells, slots⟩ { g with stack := rest } (.invokevirtual index) mk (Value.ref b :: argsL).toArray X₁ hg hsize hdg hW (X₁.named hnamed) (hpre vm₁ X₁.warmed) with ⟨v, B, X', hpost, hsteps⟩ | ⟨q, B, X', hpost, hsteps⟩
  · exact Or.inl ⟨v, vm₁, B, X₁.warmed, X', hpost, fun target h => hstep₁ _ fun acts => by rw [doInvoke_state]; exact hsteps.trans h⟩
  · exact Or.inr ⟨q, vm₁, B, X₁.warmed, X', hpost, hstep₁ _ fun acts => by rw [doInvoke_state]; exact hsteps⟩
theorem vx_callS (X : Stand p l e R s m args below meth c T locs cells slots) (hexec : p.tables.exec = Jvm.exec) {own : String} {index : Nat} {y : MethodName} {bytes : ByteArray} {maxL : Nat} {ret : Option FieldType}
    (hown : s.vm.findClass own = some m.cls) (hlink : (Cond.methodLink own index y).before args s = true) (hstat : (Cond.static y).before args s = true) (hinit : (Cond.initialized y.cls).before args s = true)
    (hcode : (Cond.code y bytes maxL ret).before args s = true) (hy : y.cls ≠ "java/lang/invoke/MethodHandle" ∧ y.cls ≠ "java/lang/invoke/VarHandle")
    {W9 : Nat} {Pre : Pt → Array Value → Prop} {Post : Pt → Array Value → Option Value → Pt → Prop} {PostX : Pt → Array Value → Addr → Pt → Prop} (hK : vx_Back l R p e below s args y 3 W9 Pre Post PostX)
    {g : JFrame} (hg : g.method = m) (hsize : g.locals.size = c.maxLocals) {argsL rest : List Value} (hlen : ∀ sig, parseMethodDescriptor y.desc = some sig → argsL.length = sig.parameters.length)
    (hstack : g.stack = argsL.reverse ++ rest) (hW : 2 * g.monitorRoom + (rest.map fun v => v.category).sum ≤ W9) (hdg : decode c.code g.pc = .ok (.invokestatic index, 3))
    (hpre : ∀ vm₁, s.WarmedH vm₁ → Pre ⟨T.setVm vm₁, locs, cells, slots⟩ argsL.toArray) :
    (∃ (v : Option Value) (vm₁ : Vm) (B : Pt), s.WarmedH vm₁ ∧ Stand p l e R s m args below meth c B.U B.locs B.cells B.slots ∧ Post ⟨T.setVm vm₁, locs, cells, slots⟩ argsL.toArray v B ∧
      ∀ target, Steps p.tables e below (B.U.setTop { g with pc := g.pc + 3, stack := v.toList ++ rest }) target → Steps p.tables e below (T.setTop g) target) ∨
    (∃ (q : Addr) (vm₁ : Vm) (B : Pt), s.WarmedH vm₁ ∧ Stand p l e R s m args below meth c B.U B.locs B.cells B.slots ∧ PostX ⟨T.setVm vm₁, locs, cells, slots⟩ argsL.toArray q B ∧
      Steps p.tables e below (T.setTop g) ((B.U.setTop { g with stack := rest }).pushFrame (.throwing q))) := by
  obtain ⟨mk, hnamed⟩ := Cond.code_named hcode
  obtain ⟨methM, cM, hmethM, -, -, -, -, -, -, hsigM⟩ := Cond.code_spec hnamed hcode
  have hstatic : methM.isStatic = true := Cond.static_spec hnamed hmethM hstat
  obtain ⟨kP, hkP, -⟩ := className_of_methodNamed hnamed
  have hinitP : kP.init = .initialized := Cond.initialized_spec (findClass_of_methodNamed hnamed) hkP hinit
  obtain ⟨vm₁, X₁, hstep₁⟩ := X.invokestatic hexec hown hlink hnamed hmethM hstatic hkP hinitP hy (g := g) hg (argsL := argsL) (rest := rest) (hlen _ hsigM) hstack hdg
  rcases hK m meth c ⟨T.setVm vm₁, locs, cells, slots⟩ { g with stack := rest } (.invokestatic index) mk argsL.toArray X₁ hg hsize hdg hW (X₁.named hnamed) (hpre vm₁ X₁.warmed) with ⟨v, B, X', hpost, hsteps⟩ | ⟨q, B, X', hpost, hsteps⟩
  · exact Or.inl ⟨v, vm₁, B, X₁.warmed, X', hpost, fun target h => hstep₁ _ fun acts => by rw [doInvoke_state]; exact hsteps.trans h⟩
  · exact Or.inr ⟨q, vm₁, B, X₁.warmed, X', hpost, hstep₁ _ fun acts => by rw [doInvoke_state]; exact hsteps⟩
end Calls
theorem vx_cls {s : State} {T : State} {vm₁ : Vm} {E : String} {k : ClassId} (hW : s.WarmedH vm₁) (h : (T.setVm vm₁).vm.findClass E = some k) : s.vm.findClass E = some k := by
  have h1 : vm₁.findClass E = some k := h
  rw [hW.alike.findClass] at h1
  exact h1
/-- the method's frame g, with q thrown over it -/
def vx_W (p : Program) (l : Launch) (e : Env) (R : Room) (s : State) (m : MethodId) (args : Array Value) (below : List Frame) (meth : Method) (c : Code) (H : Heap) (locs : List Loc) (cells slots : Nat) (Q : State → Prop) (g : JFrame) (q : Addr) : Prop :=
  ∀ T : State, T.heap = H → Stand p l e R s m args below meth c T locs cells slots → ∃ t, Steps p.tables e below ((T.setTop g).pushFrame (.throwing q)) t ∧ Q t
def vx_Run (p : Program) (l : Launch) (e : Env) (R : Room) (s : State) (m : MethodId) (args : Array Value) (below : List Frame) (meth : Method) (c : Code) (H : Heap) (locs : List Loc) (cells slots mc ms : Nat) (g : JFrame) (rest : List Value) (Qa : State → Outcome → State → Prop) (XC : String → State → State → Prop) (free : Addr → Prop) : Prop :=
  ∀ T : State, T.heap = H → Stand p l e R s m args below meth c T locs cells slots →
    (∃ (v : Option Value) (st₀ t T' : State) (L : List Loc), st₀.heap = H ∧ Stand p l e R s m args below meth c T' (locs ++ L) (cells + mc) (slots + ms) ∧ (∀ q ∈ L, free q.base) ∧ T'.heap = t.heap ∧ T'.vm = t.vm ∧ Qa st₀ (.returned v) t ∧
      Goes p e below T g T' { g with pc := g.pc + 3, stack := v.toList ++ rest }) ∨
    (∃ (q : Addr) (st₀ t T' : State) (L : List Loc) (E : String) (ce : Cell), st₀.heap = H ∧ Stand p l e R s m args below meth c T' (locs ++ L) (cells + mc) (slots + ms) ∧ (∀ z ∈ L, free z.base) ∧ T'.heap = t.heap ∧ T'.vm = t.vm ∧ XC E st₀ t ∧ t.heap[q]? = some ce ∧ ce.vm = .none ∧ s.vm.findClass E = some ce.cls ∧
      Steps p.tables e below (T.setTop g) ((T'.setTop { g with stack := rest }).pushFrame (.throwing q)))
def vx_X {S : Type} (px : S → Prop) (B : String → S → State → Prop) (A : Nat → Prop) : String → State → State → Prop := fun E st t => ∃ u : S, px u ∧ B E u t ∧ va_F A st t
section Runs
variable {p : Program} {l : Launch} {e : Env} {R : Room} {s : State} {m : MethodId} {args : Array Value} {below : List Frame} {meth : Method} {c : Code} {H : Heap} {locs : List Loc} {cells slots : Nat}
variable {y : MethodName} {bytes cc : ByteArray} {maxL nL mc ms n index : Nat} {ret : Option FieldType} {ws : List Cond} {rm : Room} {Pc : Array Value → State → Prop} {Qc : Array Value → State → Outcome → State → Prop} {XC : String → State → State → Prop} {free : Addr → Prop} {Ts : List Cond} {own C : String} {b : Addr} {As rest : List Value} {g : JFrame}
theorem vx_callBack (cb : CallB R s args own index y bytes maxL ret ws rm mc ms n) (hM : vx_Met l y ws rm Pc Qc XC mc ms free) (hbl : FrameBlind Pc) : vx_Back l R p e below s args y 3 8 (PreOf R mc ms Pc) (PostOf Qc mc ms free) (vx_Post XC mc ms free) := by
  obtain ⟨hrc, hrs, hfr, hlo, hws, hcw, -, hini, -⟩ := cb
  exact vx_back (bytes := bytes) (maxL := maxL) (ret := ret) hM hbl hrc hrs hfr hlo hws hcw (fun a' U hW => word_at hW (Or.inl (by first | rfl | simp [Cond.onTables, Cond.keeps, Cond.steady])) hini)
theorem vx_runV (S : CallFix p m c cc nL s args Ts own) (hM : vx_Met l y ws rm Pc Qc XC mc ms free) (cw : CallW R s args own C index y bytes maxL ret ws rm mc ms n) (hp : PreV s H C b Pc As)
    (hg : g.method = m) (hn : As.length = n) (hsize : g.locals.size = nL) (hstack : g.stack = As.reverse ++ .ref b :: rest) (hW : 2 * g.monitorRoom + (rest.map fun v => v.category).sum ≤ 8) (hdg : decode cc g.pc = .ok (.invokevirtual index, 3)) (hf : cells + mc ≤ R.cells ∧ slots + ms ≤ R.slots) :
    vx_Run p l e R s m args below meth c H locs cells slots mc ms g rest (Qc (Value.ref b :: As).toArray) XC free := by
  have hK : vx_Back l R p e below s args y 3 8 (PreOf R mc ms Pc) (PostOf Qc mc ms free) (vx_Post XC mc ms free) := vx_callBack cw.1 hM hp.1
  obtain ⟨⟨-, -, -, -, -, -, hcode, -, hy, hlen, hl⟩, hin, hse⟩ := cw
  obtain ⟨hx, hb, hml, ho, -⟩ := S
  obtain ⟨-, ⟨cellB, hcB, hoB, hclB⟩, hPc⟩ := hp
  intro T hT X
  rcases vx_callV X hx (C := C) (bytes := bytes) (maxL := maxL) (ret := ret) ho hl hin hse hcode hy hK (by rw [hT]; exact hcB) hoB hclB hg (hsize.trans hml.symm) (argsL := As) (rest := rest) (fun sig h => hn.trans (hlen sig h)) hstack hW (by rw [hb]; exact hdg)
    (fun vm₁ hW₁ => ⟨hf.1, hf.2, hPc (T.setVm vm₁) hT hW₁⟩) with ⟨v, vm₁, ⟨U', l2, c2, s2⟩, hW₁, X', ⟨g', mk, t, L, e1, e2, hq, h1, hL, h2, h3⟩, st⟩ | ⟨q, vm₁, ⟨U', l2, c2, s2⟩, hW₁, X', ⟨g', mk, t, L, E, ce, e1, e2, hq, hce, hcv, hcl, h1, hL, h2, h3⟩, st⟩
  · dsimp only [Pt.U, Pt.locs, Pt.cells, Pt.slots] at X' e1 e2 h1 h2 h3 st
    subst h1; subst h2; subst h3
    exact Or.inl ⟨v, (T.setVm vm₁).calling g' mk (Value.ref b :: As).toArray, t, U', L, hT, X', hL, e1, e2, hq, st⟩
  · dsimp only [Pt.U, Pt.locs, Pt.cells, Pt.slots] at X' e1 e2 h1 h2 h3 st hcl
    subst h1; subst h2; subst h3
    exact Or.inr ⟨q, (T.setVm vm₁).calling g' mk (Value.ref b :: As).toArray, t, U', L, E, ce, hT, X', hL, e1, e2, hq, hce, hcv, vx_cls hW₁ hcl, st⟩
theorem vx_runS (S : CallFix p m c cc nL s args Ts own) (hM : vx_Met l y ws rm Pc Qc XC mc ms free) (cw : CallB R s args own index y bytes maxL ret ws rm mc ms n ∧ (Cond.static y).before args s = true) (hp : PreS s H Pc As)
    (hg : g.method = m) (hn : As.length = n) (hsize : g.locals.size = nL) (hstack : g.stack = As.reverse ++ rest) (hW : 2 * g.monitorRoom + (rest.map fun v => v.category).sum ≤ 8) (hdg : decode cc g.pc = .ok (.invokestatic index, 3)) (hf : cells + mc ≤ R.cells ∧ slots + ms ≤ R.slots) :
    vx_Run p l e R s m args below meth c H locs cells slots mc ms g rest (Qc As.toArray) XC free := by
  have hK : vx_Back l R p e below s args y 3 8 (PreOf R mc ms Pc) (PostOf Qc mc ms free) (vx_Post XC mc ms free) := vx_callBack cw.1 hM hp.1
  obtain ⟨⟨-, -, -, -, -, -, hcode, hini, hy, hlen, hl⟩, hstt⟩ := cw
  obtain ⟨hx, hb, hml, ho, -⟩ := S
  intro T hT X
  rcases vx_callS X hx (bytes := bytes) (maxL := maxL) (ret := ret) ho hl hstt hini hcode hy hK hg (hsize.trans hml.symm) (argsL := As) (rest := rest) (fun sig h => hn.trans (hlen sig h)) hstack hW (by rw [hb]; exact hdg)
    (fun vm₁ hW₁ => ⟨hf.1, hf.2, hp.2 (T.setVm vm₁) hT hW₁⟩) with ⟨v, vm₁, ⟨U', l2, c2, s2⟩, hW₁, X', ⟨g', mk, t, L, e1, e2, hq, h1, hL, h2, h3⟩, st⟩ | ⟨q, vm₁, ⟨U', l2, c2, s2⟩, hW₁, X', ⟨g', mk, t, L, E, ce, e1, e2, hq, hce, hcv, hcl, h1, hL, h2, h3⟩, st⟩
  · dsimp only [Pt.U, Pt.locs, Pt.cells, Pt.slots] at X' e1 e2 h1 h2 h3 st
    subst h1; subst h2; subst h3
    exact Or.inl ⟨v, (T.setVm vm₁).calling g' mk As.toArray, t, U', L, hT, X', hL, e1, e2, hq, st⟩
  · dsimp only [Pt.U, Pt.locs, Pt.cells, Pt.slots] at X' e1 e2 h1 h2 h3 st hcl
    subst h1; subst h2; subst h3
    exact Or.inr ⟨q, (T.setVm vm₁).calling g' mk As.toArray, t, U', L, E, ce, hT, X', hL, e1, e2, hq, hce, hcv, vx_cls hW₁ hcl, st⟩
end Runs
section Rows
variable {p : Program} {l : Launch} {e : Env} {R : Room} {s : State} {m : MethodId} {args : Array Value} {below : List Frame} {meth : Method} {c : Code} {H : Heap} {locs : List Loc} {cells slots : Nat} {Q : State → Prop}
variable {mc ms : Nat} {free : Addr → Prop} {A0 A1 : Nat → Prop} {H0 : Heap} {a : Array Value} {pc : Nat} {ls : Array Slot} {st0 rest : List Value}
theorem vx_keep {st₀ t T' : State} {L : List Loc} (h0 : st₀.heap = H) (e1 : T'.heap = t.heap) (hS : va_S A0 H0 H locs) (hA : ∀ q, q < H.size → A1 q → A0 q) (hf : ∀ q, free q → A0 q) (hL : ∀ q ∈ L, free q.base) (hF : va_F A1 st₀ t) :
    H.size ≤ T'.heap.size ∧ (∀ q : Nat, q < H.size → ¬ A1 q → T'.heap[q]? = H[q]?) ∧ va_S A0 H0 T'.heap (locs ++ L) := by
  obtain ⟨hz, hk⟩ := hF
  rw [h0] at hz hk
  exact ⟨by rw [e1]; exact hz, fun q h1 h2 => by rw [e1]; exact hk q h1 h2,
    ⟨Nat.le_trans hS.1 (by rw [e1]; exact hz), fun q h1 h2 => by rw [e1, hk q (Nat.lt_of_lt_of_le h1 hS.1) (fun z => h2 (hA q (Nat.lt_of_lt_of_le h1 hS.1) z))]; exact hS.2.1 q h1 h2, fun q hq => by
      rcases List.mem_append.mp hq with h | h
      · exact hS.2.2 q h
      · exact hf _ (hL q h)⟩⟩
theorem vx_calli {S SX : Type} {post : Int32 → S → Prop} {px : SX → Prop} {B : S → State → Prop} {BX : String → SX → State → Prop} {AX : Nat → Prop} (hr : vx_Run p l e R s m args below meth c H locs cells slots mc ms (F0 m pc ls st0) rest (va_Qi post B A1 a) (vx_X px BX AX) free) (hS : va_S A0 H0 H locs) (hA : ∀ q, q < H.size → A1 q → A0 q) (hf : ∀ q, free q → A0 q) (hAX : ∀ q, q < H.size → AX q → A0 q)
    (kx : ∀ (E : String) (ce : Cell) (q9 : Addr) (u : SX) (t : State) (H1 : Heap) (locs1 : List Loc), t.heap = H1 → s.vm.Alike t.vm → px u → BX E u t → H.size ≤ H1.size → (∀ q : Nat, q < H.size → ¬ AX q → H1[q]? = H[q]?) → va_S A0 H0 H1 locs1 → H1[q9]? = some ce → ce.vm = .none → s.vm.findClass E = some ce.cls → vx_W p l e R s m args below meth c H1 locs1 (cells + mc) (slots + ms) Q (F0 m pc ls rest) q9)
    (kk : ∀ (r : Int32) (u : S) (t : State) (H1 : Heap) (locs1 : List Loc), t.heap = H1 → s.vm.Alike t.vm → post r u → B u t → H.size ≤ H1.size → (∀ q : Nat, q < H.size → ¬ A1 q → H1[q]? = H[q]?) → va_S A0 H0 H1 locs1 → W p l e R s m args below meth c H1 locs1 (cells + mc) (slots + ms) Q (F0 m (pc + 3) ls (.int r :: rest))) : W p l e R s m args below meth c H locs cells slots Q (F0 m pc ls st0) := by
  intro T hT X
  rcases hr T hT X with ⟨v, st₀, t, T', L, h0, X', hL, e1, e2, ⟨⟨r, u, hv, hp, hb⟩, hF⟩, st⟩ | ⟨q, st₀, t, T', L, E, ce, h0, X', hL, e1, e2, ⟨u, hp, hb, hF⟩, hce, hcv, hcl, st⟩
  · cases hv
    obtain ⟨k1, k2, k3⟩ := vx_keep h0 e1 hS hA hf hL hF
    obtain ⟨t2, a1, b1⟩ := kk r u t T'.heap (locs ++ L) e1.symm (by rw [← e2]; exact X'.warmed.alike) hp hb k1 k2 k3 T' rfl X'
    exact ⟨t2, st t2 a1, b1⟩
  · obtain ⟨k1, k2, k3⟩ := vx_keep h0 e1 hS hAX hf hL hF
    obtain ⟨t2, a1, b1⟩ := kx E ce q u t T'.heap (locs ++ L) e1.symm (by rw [← e2]; exact X'.warmed.alike) hp hb k1 k2 k3 (by rw [e1]; exact hce) hcv hcl T' rfl X'
    exact ⟨t2, st.trans a1, b1⟩
theorem vx_calll {S SX : Type} {post : Int64 → S → Prop} {px : SX → Prop} {B : S → State → Prop} {BX : String → SX → State → Prop} {AX : Nat → Prop} (hr : vx_Run p l e R s m args below meth c H locs cells slots mc ms (F0 m pc ls st0) rest (va_Ql post B A1 a) (vx_X px BX AX) free) (hS : va_S A0 H0 H locs) (hA : ∀ q, q < H.size → A1 q → A0 q) (hf : ∀ q, free q → A0 q) (hAX : ∀ q, q < H.size → AX q → A0 q)
    (kx : ∀ (E : String) (ce : Cell) (q9 : Addr) (u : SX) (t : State) (H1 : Heap) (locs1 : List Loc), t.heap = H1 → s.vm.Alike t.vm → px u → BX E u t → H.size ≤ H1.size → (∀ q : Nat, q < H.size → ¬ AX q → H1[q]? = H[q]?) → va_S A0 H0 H1 locs1 → H1[q9]? = some ce → ce.vm = .none → s.vm.findClass E = some ce.cls → vx_W p l e R s m args below meth c H1 locs1 (cells + mc) (slots + ms) Q (F0 m pc ls rest) q9)
    (kk : ∀ (r : Int64) (u : S) (t : State) (H1 : Heap) (locs1 : List Loc), t.heap = H1 → s.vm.Alike t.vm → post r u → B u t → H.size ≤ H1.size → (∀ q : Nat, q < H.size → ¬ A1 q → H1[q]? = H[q]?) → va_S A0 H0 H1 locs1 → W p l e R s m args below meth c H1 locs1 (cells + mc) (slots + ms) Q (F0 m (pc + 3) ls (.long r :: rest))) : W p l e R s m args below meth c H locs cells slots Q (F0 m pc ls st0) := by
  intro T hT X
  rcases hr T hT X with ⟨v, st₀, t, T', L, h0, X', hL, e1, e2, ⟨⟨r, u, hv, hp, hb⟩, hF⟩, st⟩ | ⟨q, st₀, t, T', L, E, ce, h0, X', hL, e1, e2, ⟨u, hp, hb, hF⟩, hce, hcv, hcl, st⟩
  · cases hv
    obtain ⟨k1, k2, k3⟩ := vx_keep h0 e1 hS hA hf hL hF
    obtain ⟨t2, a1, b1⟩ := kk r u t T'.heap (locs ++ L) e1.symm (by rw [← e2]; exact X'.warmed.alike) hp hb k1 k2 k3 T' rfl X'
    exact ⟨t2, st t2 a1, b1⟩
  · obtain ⟨k1, k2, k3⟩ := vx_keep h0 e1 hS hAX hf hL hF
    obtain ⟨t2, a1, b1⟩ := kx E ce q u t T'.heap (locs ++ L) e1.symm (by rw [← e2]; exact X'.warmed.alike) hp hb k1 k2 k3 (by rw [e1]; exact hce) hcv hcl T' rfl X'
    exact ⟨t2, st.trans a1, b1⟩
theorem vx_callf {S SX : Type} {post : UInt32 → S → Prop} {px : SX → Prop} {B : S → State → Prop} {BX : String → SX → State → Prop} {AX : Nat → Prop} (hr : vx_Run p l e R s m args below meth c H locs cells slots mc ms (F0 m pc ls st0) rest (va_Qf post B A1 a) (vx_X px BX AX) free) (hS : va_S A0 H0 H locs) (hA : ∀ q, q < H.size → A1 q → A0 q) (hf : ∀ q, free q → A0 q) (hAX : ∀ q, q < H.size → AX q → A0 q)
    (kx : ∀ (E : String) (ce : Cell) (q9 : Addr) (u : SX) (t : State) (H1 : Heap) (locs1 : List Loc), t.heap = H1 → s.vm.Alike t.vm → px u → BX E u t → H.size ≤ H1.size → (∀ q : Nat, q < H.size → ¬ AX q → H1[q]? = H[q]?) → va_S A0 H0 H1 locs1 → H1[q9]? = some ce → ce.vm = .none → s.vm.findClass E = some ce.cls → vx_W p l e R s m args below meth c H1 locs1 (cells + mc) (slots + ms) Q (F0 m pc ls rest) q9)
    (kk : ∀ (r : UInt32) (u : S) (t : State) (H1 : Heap) (locs1 : List Loc), t.heap = H1 → s.vm.Alike t.vm → post r u → B u t → H.size ≤ H1.size → (∀ q : Nat, q < H.size → ¬ A1 q → H1[q]? = H[q]?) → va_S A0 H0 H1 locs1 → W p l e R s m args below meth c H1 locs1 (cells + mc) (slots + ms) Q (F0 m (pc + 3) ls (.float r :: rest))) : W p l e R s m args below meth c H locs cells slots Q (F0 m pc ls st0) := by
  intro T hT X
  rcases hr T hT X with ⟨v, st₀, t, T', L, h0, X', hL, e1, e2, ⟨⟨r, u, hv, hp, hb⟩, hF⟩, st⟩ | ⟨q, st₀, t, T', L, E, ce, h0, X', hL, e1, e2, ⟨u, hp, hb, hF⟩, hce, hcv, hcl, st⟩
  · cases hv
    obtain ⟨k1, k2, k3⟩ := vx_keep h0 e1 hS hA hf hL hF
    obtain ⟨t2, a1, b1⟩ := kk r u t T'.heap (locs ++ L) e1.symm (by rw [← e2]; exact X'.warmed.alike) hp hb k1 k2 k3 T' rfl X'
    exact ⟨t2, st t2 a1, b1⟩
  · obtain ⟨k1, k2, k3⟩ := vx_keep h0 e1 hS hAX hf hL hF
    obtain ⟨t2, a1, b1⟩ := kx E ce q u t T'.heap (locs ++ L) e1.symm (by rw [← e2]; exact X'.warmed.alike) hp hb k1 k2 k3 (by rw [e1]; exact hce) hcv hcl T' rfl X'
    exact ⟨t2, st.trans a1, b1⟩
theorem vx_calld {S SX : Type} {post : UInt64 → S → Prop} {px : SX → Prop} {B : S → State → Prop} {BX : String → SX → State → Prop} {AX : Nat → Prop} (hr : vx_Run p l e R s m args below meth c H locs cells slots mc ms (F0 m pc ls st0) rest (va_Qd post B A1 a) (vx_X px BX AX) free) (hS : va_S A0 H0 H locs) (hA : ∀ q, q < H.size → A1 q → A0 q) (hf : ∀ q, free q → A0 q) (hAX : ∀ q, q < H.size → AX q → A0 q)
    (kx : ∀ (E : String) (ce : Cell) (q9 : Addr) (u : SX) (t : State) (H1 : Heap) (locs1 : List Loc), t.heap = H1 → s.vm.Alike t.vm → px u → BX E u t → H.size ≤ H1.size → (∀ q : Nat, q < H.size → ¬ AX q → H1[q]? = H[q]?) → va_S A0 H0 H1 locs1 → H1[q9]? = some ce → ce.vm = .none → s.vm.findClass E = some ce.cls → vx_W p l e R s m args below meth c H1 locs1 (cells + mc) (slots + ms) Q (F0 m pc ls rest) q9)
    (kk : ∀ (r : UInt64) (u : S) (t : State) (H1 : Heap) (locs1 : List Loc), t.heap = H1 → s.vm.Alike t.vm → post r u → B u t → H.size ≤ H1.size → (∀ q : Nat, q < H.size → ¬ A1 q → H1[q]? = H[q]?) → va_S A0 H0 H1 locs1 → W p l e R s m args below meth c H1 locs1 (cells + mc) (slots + ms) Q (F0 m (pc + 3) ls (.double r :: rest))) : W p l e R s m args below meth c H locs cells slots Q (F0 m pc ls st0) := by
  intro T hT X
  rcases hr T hT X with ⟨v, st₀, t, T', L, h0, X', hL, e1, e2, ⟨⟨r, u, hv, hp, hb⟩, hF⟩, st⟩ | ⟨q, st₀, t, T', L, E, ce, h0, X', hL, e1, e2, ⟨u, hp, hb, hF⟩, hce, hcv, hcl, st⟩
  · cases hv
    obtain ⟨k1, k2, k3⟩ := vx_keep h0 e1 hS hA hf hL hF
    obtain ⟨t2, a1, b1⟩ := kk r u t T'.heap (locs ++ L) e1.symm (by rw [← e2]; exact X'.warmed.alike) hp hb k1 k2 k3 T' rfl X'
    exact ⟨t2, st t2 a1, b1⟩
  · obtain ⟨k1, k2, k3⟩ := vx_keep h0 e1 hS hAX hf hL hF
    obtain ⟨t2, a1, b1⟩ := kx E ce q u t T'.heap (locs ++ L) e1.symm (by rw [← e2]; exact X'.warmed.alike) hp hb k1 k2 k3 (by rw [e1]; exact hce) hcv hcl T' rfl X'
    exact ⟨t2, st.trans a1, b1⟩
theorem vx_callv {S SX : Type} {post : S → Prop} {px : SX → Prop} {B : S → State → Prop} {BX : String → SX → State → Prop} {AX : Nat → Prop} (hr : vx_Run p l e R s m args below meth c H locs cells slots mc ms (F0 m pc ls st0) rest (va_Qv post B A1 a) (vx_X px BX AX) free) (hS : va_S A0 H0 H locs) (hA : ∀ q, q < H.size → A1 q → A0 q) (hf : ∀ q, free q → A0 q) (hAX : ∀ q, q < H.size → AX q → A0 q)
    (kx : ∀ (E : String) (ce : Cell) (q9 : Addr) (u : SX) (t : State) (H1 : Heap) (locs1 : List Loc), t.heap = H1 → s.vm.Alike t.vm → px u → BX E u t → H.size ≤ H1.size → (∀ q : Nat, q < H.size → ¬ AX q → H1[q]? = H[q]?) → va_S A0 H0 H1 locs1 → H1[q9]? = some ce → ce.vm = .none → s.vm.findClass E = some ce.cls → vx_W p l e R s m args below meth c H1 locs1 (cells + mc) (slots + ms) Q (F0 m pc ls rest) q9)
    (kk : ∀ (u : S) (t : State) (H1 : Heap) (locs1 : List Loc), t.heap = H1 → s.vm.Alike t.vm → post u → B u t → H.size ≤ H1.size → (∀ q : Nat, q < H.size → ¬ A1 q → H1[q]? = H[q]?) → va_S A0 H0 H1 locs1 → W p l e R s m args below meth c H1 locs1 (cells + mc) (slots + ms) Q (F0 m (pc + 3) ls (rest))) : W p l e R s m args below meth c H locs cells slots Q (F0 m pc ls st0) := by
  intro T hT X
  rcases hr T hT X with ⟨v, st₀, t, T', L, h0, X', hL, e1, e2, ⟨⟨u, hv, hp, hb⟩, hF⟩, st⟩ | ⟨q, st₀, t, T', L, E, ce, h0, X', hL, e1, e2, ⟨u, hp, hb, hF⟩, hce, hcv, hcl, st⟩
  · cases hv
    obtain ⟨k1, k2, k3⟩ := vx_keep h0 e1 hS hA hf hL hF
    obtain ⟨t2, a1, b1⟩ := kk u t T'.heap (locs ++ L) e1.symm (by rw [← e2]; exact X'.warmed.alike) hp hb k1 k2 k3 T' rfl X'
    exact ⟨t2, st t2 a1, b1⟩
  · obtain ⟨k1, k2, k3⟩ := vx_keep h0 e1 hS hAX hf hL hF
    obtain ⟨t2, a1, b1⟩ := kx E ce q u t T'.heap (locs ++ L) e1.symm (by rw [← e2]; exact X'.warmed.alike) hp hb k1 k2 k3 (by rw [e1]; exact hce) hcv hcl T' rfl X'
    exact ⟨t2, st.trans a1, b1⟩
/-- caught by the row x of this method's table; the rows ahead don't take it -/
theorem vx_catch {own name : String} {E : String} {ce : Cell} {q : Addr} (hown : s.vm.findClass own = some m.cls) (pre : List ExceptionTableEntry) (x : ExceptionTableEntry) (suf : List ExceptionTableEntry) (hsplit : c.exceptionTable.toList = pre ++ x :: suf)
    (hpass : ∀ z ∈ pre, covers z pc = false ∨ (z.catchType ≠ 0 ∧ ∃ nm : String, (Cond.classLink own z.catchType nm).before args s = true ∧ va_Nc E nm s)) (hx : covers x pc = true) (h0 : x.catchType ≠ 0)
    (hlink : (Cond.classLink own x.catchType name).before args s = true) (hcast : (Cond.castable E name).before args s = true) (hcell : H[q]? = some ce) (hv : ce.vm = .none) (hcl : s.vm.findClass E = some ce.cls)
    (kk : W p l e R s m args below meth c H locs cells slots Q (F0 m x.handlerPc ls [.ref q])) : vx_W p l e R s m args below meth c H locs cells slots Q (F0 m pc ls rest) q := by
  intro T hT X
  have hpl : e.platform.magicAccessors = ({} : Platform).magicAccessors := by rw [X.admits.platform]
  obtain ⟨c3, c4, hc3, hc4, hasg⟩ := Cond.castable_spec hcast
  cases Option.some.inj (hc3.symm.trans hcl)
  obtain ⟨c5, hc5, hcl5⟩ := Cond.classLink_spec hown hlink e.platform hpl
  cases Option.some.inj (hc4.symm.trans hc5)
  obtain ⟨vm', X', st⟩ := X.thenCaughtThrough q (g := F0 m pc ls rest) rfl (Steps.refl _) (by rw [hT]; exact hcell) (by rw [hv]; rfl) (by obtain ⟨k9, h9, -⟩ := Vm.findClass_spec hcl; exact ⟨k9, h9⟩) pre x suf hsplit
    (fun z hz => by
      rcases hpass z hz with h | ⟨hz0, nm, hl1, hn1⟩
      · exact Or.inl h
      · obtain ⟨c6, hc6, hcl6⟩ := Cond.classLink_spec hown hl1 e.platform hpl
        obtain ⟨a8, b8, h1, h2, h3⟩ := hn1
        cases Option.some.inj (h1.symm.trans hcl)
        cases Option.some.inj (h2.symm.trans hc6)
        exact Or.inr ⟨hz0, _, hcl6, h3⟩) hx (Or.inr ⟨h0, c4, hcl5, hasg⟩)
  obtain ⟨t, a1, b1⟩ := kk (T.setVm vm') hT X'
  exact ⟨t, st.trans a1, b1⟩
end Rows
section Ends
variable {p : Program} {l : Launch} {e : Env} {R : Room} {s : State} {m : MethodId} {args : Array Value} {below : List Frame} {meth : Method} {c : Code} {H : Heap} {locs : List Loc} {cells slots : Nat} {Q : State → Prop}
variable {mc ms : Nat} {free : Addr → Prop} {A0 A1 : Nat → Prop} {H0 : Heap} {a : Array Value} {ls : Array Slot} {st0 rest : List Value}
variable {Qc : Array Value → State → Outcome → State → Prop} {XC : String → State → State → Prop}
/-- what a body that may throw owes at its end -/
def vx_MQ (below : List Frame) (Qc : Array Value → State → Outcome → State → Prop) (XC : String → State → State → Prop) (a : Array Value) (s : State) (mc ms : Nat) (free : Addr → Prop) : State → Prop := fun t =>
  ∃ o, t.status = .running ∧ Ended t below o ∧ vx_Q Qc XC mc ms free a s o t
theorem vx_ret {g : JFrame} {mc ms : Nat} (k : W p l e R s m args below meth c H locs cells slots (MQ below Qc args s mc ms free) g) : W p l e R s m args below meth c H locs cells slots (vx_MQ below Qc XC args s mc ms free) g := by
  intro T hT X
  obtain ⟨t, a1, o, b1, b2, b3, b4⟩ := k T hT X
  exact ⟨t, a1, o, b1, b2, Or.inl ⟨b3, b4⟩⟩
/-- not caught here: it goes on to the caller -/
theorem vx_widen {g : JFrame} {q : Addr} {k n : Nat} (h1 : cells ≤ k) (h2 : slots ≤ n) (kk : vx_W p l e R s m args below meth c H locs k n Q g q) : vx_W p l e R s m args below meth c H locs cells slots Q g q := fun T hT X => kk T hT (stand_widen X h1 h2)
theorem vx_out {pc : Nat} {E : String} {ce : Cell} {q : Addr} {mc ms : Nat} (hout : ∀ x ∈ c.exceptionTable.toList, covers x pc = false) (hlocks : meth.locks = false) (hcell : H[q]? = some ce) (hv : ce.vm = .none) (hcl : s.vm.findClass E = some ce.cls)
    (hx : ∀ t : State, t.heap = H → s.vm.Alike t.vm → XC E s t) (hf : ∀ z ∈ locs, free z.base) (hc : cells ≤ mc) (hs : slots ≤ ms) :
    vx_W p l e R s m args below meth c H locs cells slots (vx_MQ below Qc XC args s mc ms free) (F0 m pc ls rest) q := by
  intro T hT X
  obtain ⟨st1, hrun, hend, hW, hsm⟩ := X.leaveThrown q (g := F0 m pc ls rest) rfl rfl rfl hout hlocks
  have hcell9 : (T.setFrames (.throwing q :: below)).heap[q]? = some ce := by
    show T.heap[q]? = some ce
    rw [hT]; exact hcell
  exact ⟨_, st1, .threw q, hrun, hend, Or.inr ⟨q, rfl, E, ce, locs, hx _ hT hW.alike, hcell9, hv, hcl, hW, hsm.mono hc hs, hf⟩⟩
theorem vx_frame {U : State} {k n : Nat} (h : s.sameButNew ({ U with vm := s.vm } : State) locs k n) : s.heap.size ≤ U.heap.size ∧ ∀ q : Nat, q < s.heap.size → (∀ z ∈ locs, z.base ≠ q) → U.heap[q]? = s.heap[q]? := by
  obtain ⟨-, h2, -, -, -, h6⟩ := h
  refine ⟨h2, fun q hq hz => ?_⟩
  obtain ⟨c9, e1, e2, e3, e4⟩ := h6 q _ (Array.getElem?_eq_getElem hq)
  have hs : c9.slots = (s.heap[q]).slots := Array.ext_getElem? fun i => e4 i fun hm => hz _ hm rfl
  have h9 : c9 = s.heap[q] := by
    rw [hs] at e2
    exact e2
  have e5 : U.heap[q]? = some c9 := e1
  rw [e5, h9, Array.getElem?_eq_getElem hq]
/-- the words of a throw but the four that speak of the heap -/
def vx_no (w : Cond) : Bool := decide (w ≠ .isRef (.static Bundle.tN "UNASSIGNED_STACK" Bundle.steD)) && decide (w ≠ .isRef (.static Bundle.tN "SUPPRESSED_SENTINEL" Bundle.listD)) && decide (w ≠ .laysStatic Bundle.tN "UNASSIGNED_STACK" Bundle.steD) && decide (w ≠ .laysStatic Bundle.tN "SUPPRESSED_SENTINEL" Bundle.listD)
def vx_at0 (own : String) (ic : Nat) (X : String) (names : List String) : List Cond := (Bundle.ownAtoms0 own ic X names).filter vx_no
def vx_atS (own : String) (ic : Nat) (X : String) (names : List String) : List Cond := (Bundle.ownAtoms own ic X names).filter vx_no
/-- a word that the tables alone decide, or a good one -/
def vx_ot (w : Cond) : Bool := w.onTables || goodWord w
theorem vx_ot_at {args a' : Array Value} {s U : State} {w : Cond} (hW : s.WarmedH U.vm) (hvm : s.vm = U.vm) (hg : vx_ot w = true) (h : w.before args s = true) : w.before a' U = true := by
  simp only [vx_ot, Bool.or_eq_true] at hg
  rcases hg with hg | hg
  · exact va_tabs hg hvm h
  · exact word_at hW (good_of_word hg) h
/-- a list's words: the good ones out of the method's own list, the others by premises of their own -/
theorem vx_hat {args : Array Value} {s : State} {L B : List Cond} (h1 : ∀ w ∈ L.filter goodWord, w.before args s = true) (h2 : ∀ w ∈ L.filter (fun w => !goodWord w), w ∈ B) (h3 : ∀ w ∈ B, w.before args s = true) : ∀ w ∈ L, w.before args s = true := by
  intro w hw
  by_cases g : goodWord w = true
  · exact h1 w (List.mem_filter.mpr ⟨hw, g⟩)
  · refine h3 w (h2 w (List.mem_filter.mpr ⟨hw, ?_⟩))
    show (!goodWord w) = true
    cases hgw : goodWord w
    · rfl
    · exact absurd hgw g
theorem vx_c {args : Array Value} {s : State} {w : Cond} {B : List Cond} (h : w.before args s = true) (t : ∀ w ∈ B, w.before args s = true) : ∀ w' ∈ w :: B, w'.before args s = true := fun w' h' => (List.mem_cons.mp h').elim (fun e => by rw [e]; exact h) (t w')
theorem vx_n {args : Array Value} {s : State} : ∀ w ∈ ([] : List Cond), w.before args s = true := fun _ h => nomatch h
theorem vx_own {args : Array Value} {s : State} {L : List Cond} (h1 : ∀ w ∈ L.filter vx_no, w.before args s = true)
    (hU : (Cond.isRef (.static Bundle.tN "UNASSIGNED_STACK" Bundle.steD)).before args s = true) (hN : (Cond.isRef (.static Bundle.tN "SUPPRESSED_SENTINEL" Bundle.listD)).before args s = true)
    (lU : (Cond.laysStatic Bundle.tN "UNASSIGNED_STACK" Bundle.steD).before args s = true) (lN : (Cond.laysStatic Bundle.tN "SUPPRESSED_SENTINEL" Bundle.listD).before args s = true) : ∀ w ∈ L, w.before args s = true := by
  intro w hw
  by_cases e1 : w = .isRef (.static Bundle.tN "UNASSIGNED_STACK" Bundle.steD)
  · rw [e1]; exact hU
  · by_cases e2 : w = .isRef (.static Bundle.tN "SUPPRESSED_SENTINEL" Bundle.listD)
    · rw [e2]; exact hN
    · by_cases e3 : w = .laysStatic Bundle.tN "UNASSIGNED_STACK" Bundle.steD
      · rw [e3]; exact lU
      · by_cases e4 : w = .laysStatic Bundle.tN "SUPPRESSED_SENTINEL" Bundle.listD
        · rw [e4]; exact lN
        · exact h1 w (List.mem_filter.mpr ⟨hw, by unfold vx_no; rw [decide_eq_true e1, decide_eq_true e2, decide_eq_true e3, decide_eq_true e4]; rfl⟩)
/-- where a static field lies, its class's statics cell in H -/
def vx_L (C n d : String) (A : Nat → Prop) (U : State) (H : Heap) : Prop := ∃ (c : ClassId) (k : Class) (i : Nat) (f : Field) (a : Nat) (cell : Cell), U.vm.findClass C = some c ∧ U.fieldFound? C n d = some (c, k, i, f) ∧ f.isStatic = true ∧ k.statics = some a ∧ H[a]? = some cell ∧ cell.vm.isStatics = true ∧ cell.cls = c ∧ f.slot < cell.slots.size ∧ k.staticTypes[f.slot]? = some f.type ∧ ¬ A a
theorem vx_L.moved {C n d : String} {A : Nat → Prop} {u U : State} {H : Heap} (hvm : u.vm.Alike U.vm) (h : vx_L C n d A u H) : vx_L C n d A U H := by
  obtain ⟨c, k, i, f, a, cell, h1, h2, h3, h4, h5, h6, h7, h8, h9, h10⟩ := h
  obtain ⟨k', hi', he⟩ := State.fieldFound?_setVm hvm h2
  exact ⟨c, k', i, f, a, cell, by rw [hvm.findClass]; exact h1, hi', h3, by rw [he]; exact h4, h5, h6, h7, h8, by rw [he]; exact h9, h10⟩
theorem vx_L.kept {C n d : String} {A : Nat → Prop} {U : State} {H H1 : Heap} (h : vx_L C n d A U H) (hq : ∀ a : Nat, a < H.size → ¬ A a → H1[a]? = H[a]?) : vx_L C n d A U H1 := by
  obtain ⟨c, k, i, f, a, cell, h1, h2, h3, h4, h5, h6, h7, h8, h9, h10⟩ := h
  exact ⟨c, k, i, f, a, cell, h1, h2, h3, h4, by rw [hq a (Array.getElem?_eq_some_iff.mp h5).1 h10]; exact h5, h6, h7, h8, h9, h10⟩
theorem vx_L.narrow {C n d : String} {A B : Nat → Prop} {U : State} {H : Heap} (h : vx_L C n d A U H) (hAB : ∀ q, B q → A q) : vx_L C n d B U H := by
  obtain ⟨c, k, i, f, a, cell, h1, h2, h3, h4, h5, h6, h7, h8, h9, h10⟩ := h
  exact ⟨c, k, i, f, a, cell, h1, h2, h3, h4, h5, h6, h7, h8, h9, fun z => h10 (hAB _ z)⟩
theorem vx_L.word {C n d : String} {A : Nat → Prop} {s : State} {args : Array Value} (h : vx_L C n d A s s.heap) : (Cond.laysStatic C n d).before args s = true := by
  obtain ⟨c, k, i, f, a, cell, h1, h2, h3, h4, h5, h6, h7, h8, h9, -⟩ := h
  show (Cond.laysStatic C n d).holds args s none s [] = true
  exact Cond.laysStatic_of h1 h2 h3 h4 h5 h6 h7 h8 h9
/-- .. and what it holds: null or some reference -/
def vx_Zq (C n d : String) (A : Nat → Prop) (U : State) (H : Heap) : Prop := va_Zq C n d A U H ∧ vx_L C n d A U H
theorem vx_Zq.moved {C n d : String} {A : Nat → Prop} {u U : State} {H : Heap} (hvm : u.vm.Alike U.vm) (h : vx_Zq C n d A u H) : vx_Zq C n d A U H := ⟨va_Zq.moved hvm h.1, vx_L.moved hvm h.2⟩
theorem vx_Zq.kept {C n d : String} {A : Nat → Prop} {U : State} {H H1 : Heap} (h : vx_Zq C n d A U H) (hq : ∀ a : Nat, a < H.size → ¬ A a → H1[a]? = H[a]?) : vx_Zq C n d A U H1 := ⟨va_Zq.kept h.1 hq, vx_L.kept h.2 hq⟩
theorem vx_Zq.narrow {C n d : String} {A B : Nat → Prop} {U : State} {H : Heap} (h : vx_Zq C n d A U H) (hAB : ∀ q, B q → A q) : vx_Zq C n d B U H := ⟨va_Zq.narrow h.1 hAB, vx_L.narrow h.2 hAB⟩
theorem vx_Zqof {args : Array Value} {s : State} {C n d : String} {A : Nat → Prop} (hl : (Cond.laysStatic C n d).before args s = true) (hini : (Cond.initialized C).before args s = true) (h : (Cond.isRef (.static C n d)).before args s = true) (hA : ∀ a : Nat, a < s.heap.size → ¬ A a) : vx_Zq C n d A s s.heap := by
  refine ⟨va_Zqof hl hini h hA, ?_⟩
  obtain ⟨c, k, i, f, a, cell, h1, h2, h3, h4, h5, h6, h7, h8, h9⟩ := Cond.laysStatic_spec hl
  exact ⟨c, k, i, f, a, cell, h1, h2, h3, h4, h5, h6, h7, h8, h9, hA a (Array.getElem?_eq_some_iff.mp h5).1⟩
theorem vx_isRef {C n d : String} {v : Value} {A : Nat → Prop} {s : State} {args : Array Value} (h : va_Z C n d v A s s.heap) (hv : v.isRef = true) : (Cond.isRef (.static C n d)).before args s = true := by
  obtain ⟨cf, kf, fi, f, a, cell, h1, h2, h3, h4, h5, h6, h7, -⟩ := h
  have he : (Term.static C n d).eval args s none [] s = some v := by
    simp [Term.eval, State.fieldNamed?, h1, h2, h4, h5, h6, h7]
  simp only [Cond.before, Cond.holds, Cond.value, he]
  cases v <;> simp_all [Value.isRef]
theorem vx_isRefq {C n d : String} {A : Nat → Prop} {s : State} {args : Array Value} (h : va_Zq C n d A s s.heap) : (Cond.isRef (.static C n d)).before args s = true := by
  rcases h with h | ⟨t, h⟩
  · exact vx_isRef h rfl
  · exact vx_isRef h rfl
/-- the same frame, seen from here: as if the method were called anew in this heap -/
theorem vx_rebase {T : State} (X : Stand p l e R s m args below meth c T locs cells slots) {R' : Room} (hf : R'.frames ≤ R.frames) (hl : R'.locals ≤ R.locals) (hc : cells + R'.cells ≤ R.cells) (hs : slots + R'.slots ≤ R.slots) :
    Stand p l e R' ((T.setVm s.vm).setFrames (.invoking m args :: below)) m args below meth c T [] 0 0 := by
  have htop : (T.setVm s.vm).topJava?.isSome := X.here.top
  have hF : ((T.setVm s.vm).setFrames (.invoking m args :: below)).frames = .invoking m args :: below := State.frames_setFrames _ (State.cur_lt_of_top htop)
  obtain ⟨g₀, hg0⟩ := Option.isSome_iff_exists.mp htop
  obtain ⟨r, hr⟩ := State.topJava?_eq_some.mp hg0
  have hl9 : e.platform.stackLimits (T.setVm s.vm).me = e.platform.stackLimits s.me := X.limits
  have hb9 : (T.setVm s.vm).me.stackBytes = s.me.stackBytes := X.bytes
  refine ⟨X.admits, X.cas, X.clock, hF, ?_, X.hears, X.method, X.code, X.here, X.tail, X.warmed, ?_, ?_, ?_⟩
  · have h := X.room
    have hU : ((T.setVm s.vm).setFrames (.invoking m args :: below)).localsInUse = s.localsInUse := by
      rw [State.localsInUse_invoking hF (meth := meth) (c := c) X.method X.code, State.localsInUse_invoking X.frames X.method X.code]
    simp only [State.hasRoom, Bool.and_eq_true, decide_eq_true_eq] at h ⊢
    obtain ⟨⟨⟨⟨h1, h2, h3, h4, h5, h6⟩, h7⟩, h8⟩, h9⟩ := h
    rw [X.frames, List.length_cons] at h2 h3
    have q1 := X.heapSize
    have q2 := X.used
    simp only [hF, hU, List.length_cons, State.stackLimits_setFrames, State.stackBytes_setFrames, hl9, hb9]
    refine ⟨⟨⟨⟨by omega, by omega, by omega, by omega, by omega, h6⟩, ?_⟩, ?_⟩, X.book⟩
    · show T.heap.size + R'.cells ≤ e.platform.maxCells
      omega
    · show T.slotsUsed + R'.slots ≤ e.platform.maxSlots
      omega
  · rw [State.stackLimits_setFrames]; rfl
  · rw [State.stackBytes_setFrames]; rfl
  · refine ⟨?_, Nat.le_refl _, Nat.le_refl _, ?_, ?_, fun a c9 h9 => ⟨c9, h9, rfl, rfl, fun _ _ => rfl⟩⟩
    · obtain ⟨t, ht, -⟩ := State.frames_cons hr
      show T.setVm s.vm = { ((T.setVm s.vm).setFrames (.invoking m args :: below)).setFrames (T.setVm s.vm).frames with heap := T.heap, slotsUsed := T.slotsUsed }
      rw [State.setFrames_setFrames, State.setFrames_self ht]
      rfl
    · show T.slotsUsed = T.slotsUsed + ((T.heap.toList.drop T.heap.size).map (·.slots.size)).sum
      rw [List.drop_eq_nil_of_le (Nat.le_of_eq Array.length_toList)]
      rfl
    · show ((T.heap.toList.drop T.heap.size).map (·.slots.size)).sum ≤ 0
      rw [List.drop_eq_nil_of_le (Nat.le_of_eq Array.length_toList)]
      exact Nat.le_refl _
/-- 'throw new E()': new; dup; invokespecial; athrow -/
theorem vx_throw0 {cc : ByteArray} {pc : Nat} (hexec : p.tables.exec = Jvm.exec) (hb : c.code = cc) (hl : l.stackTraces = false) {own cls : String} {names : List String} {ik ic mc ms : Nat} {A : Nat → Prop}
    (hown : s.vm.findClass own = some m.cls) (hcls : Bundle.fit cls = true) (hnames : ∀ n ∈ names, Bundle.fit n = true)
    (hk : (Cond.classLink own ik cls).before args s = true) (hini : (Cond.initialized cls).before args s = true) (hat : ∀ w ∈ vx_at0 own ic cls names, w.before args s = true)
    (hgood : ∀ w ∈ Cond.classLink own ik cls :: Cond.initialized cls :: vx_at0 own ic cls names, vx_ot w = true)
    (hU : vx_Zq Bundle.tN "UNASSIGNED_STACK" Bundle.steD A s s.heap) (hN : vx_Zq Bundle.tN "SUPPRESSED_SENTINEL" Bundle.listD A s s.heap) (hS : va_S A s.heap H locs) (hsize : ls.size = c.maxLocals)
    (d0 : decode cc pc = .ok (.new ik, 3)) (d3 : decode cc (pc + 3) = .ok (.dup, 1)) (d4 : decode cc (pc + 4) = .ok (.invokespecial ic, 3)) (d7 : decode cc (pc + 7) = .ok (.athrow, 1))
    (hout : ∀ x ∈ c.exceptionTable.toList, covers x (pc + 7) = false)
    (hRframes : names.length + 3 < R.frames) (hRlocals : (rest.map fun v => v.category).sum + (13 * (names.length + 1) + 42) ≤ R.locals) (hRcells : cells + 1 ≤ R.cells) (hRslots : slots + 6 ≤ R.slots) (hlocks : meth.locks = false)
    (hx : ∀ t : State, s.vm.Alike t.vm → H.size ≤ t.heap.size → (∀ q : Nat, q < H.size → t.heap[q]? = H[q]?) → XC cls s t)
    (hf : ∀ z ∈ locs, free z.base) (hc : cells + 1 ≤ mc) (hs : slots + 6 ≤ ms) :
    W p l e R s m args below meth c H locs cells slots (vx_MQ below Qc XC args s mc ms free) (F0 m pc ls rest) := by
  intro T hT X
  have htr : e.platform.stackTraces = false := (show e.platform.stackTraces = l.stackTraces by rw [X.admits.platform]).trans hl
  have Y := vx_rebase X (R' := { frames := R.frames, locals := R.locals, cells := 1, slots := 6 }) (Nat.le_refl _) (Nat.le_refl _) hRcells hRslots
  obtain ⟨s', hA⟩ : ∃ z, z = (T.setVm s.vm).setFrames (.invoking m args :: below) := ⟨_, rfl⟩
  rw [← hA] at Y
  have hvm : s'.vm = s.vm := by rw [hA]; rfl
  have hhp : s'.heap = H := by rw [hA]; exact hT
  have hW0 : s.WarmedH s'.vm := by rw [hvm]; exact State.WarmedH.refl s
  have hat' : ∀ w ∈ vx_at0 own ic cls names, w.before args s' = true := fun w hw => vx_ot_at hW0 hvm.symm (hgood w (List.mem_cons_of_mem _ (List.mem_cons_of_mem _ hw))) (hat w hw)
  have hk' : (Cond.classLink own ik cls).before args s' = true := vx_ot_at hW0 hvm.symm (hgood _ List.mem_cons_self) hk
  have hini' : (Cond.initialized cls).before args s' = true := vx_ot_at hW0 hvm.symm (hgood _ (List.mem_cons_of_mem _ List.mem_cons_self)) hini
  have hU' : vx_Zq Bundle.tN "UNASSIGNED_STACK" Bundle.steD A s' s'.heap := by rw [hhp]; exact vx_Zq.moved hW0.alike (hU.kept hS.2.1)
  have hN' : vx_Zq Bundle.tN "SUPPRESSED_SENTINEL" Bundle.listD A s' s'.heap := by rw [hhp]; exact vx_Zq.moved hW0.alike (hN.kept hS.2.1)
  have h : ∀ w ∈ Bundle.ownAtoms0 own ic cls names, w.before args s' = true := vx_own hat' (vx_isRefq hU'.1) (vx_isRefq hN'.1) hU'.2.word hN'.2.word
  have hown' : s'.vm.findClass own = some m.cls := by rw [hvm]; exact hown
  have hins : (Cond.instantiable cls 6).before args s' = true := h _ (by simp [Bundle.ownAtoms0])
  obtain ⟨vm₁, cX, kX, hfX, hkX, -, -, X₁, st1⟩ := Y.newCold hexec (own := own) (C := cls) (index := ik) (n := 6) hown' hk' hins hini'
    (g := F0 m pc ls rest) rfl (by rw [hb]; exact d0) (Nat.le_refl _) (Nat.le_refl _)
  generalize hT1 : (T.setVm vm₁).pushCell { cls := cX, slots := kX.instanceTypes.map defaultValue, vm := .none } = T1 at X₁ st1
  have hcat : (Value.ref T.heap.size).category = 1 := rfl
  have hcellA : T1.heap[T.heap.size]? = some (freshCell cX kX) := by rw [← hT1]; exact State.heap_pushCell_size _ _
  have d3' : decode c.code (pc + 3) = .ok (.dup, 1) := by rw [hb]; exact d3
  obtain ⟨U, hsteps, hrun, hend, hW, hsame, ce, hce, hO⟩ := X₁.ctorThrow0 hexec htr (own := own) (cls := cls) (names := names) (ic := ic) hown' hcls hnames h (fun x hx => nomatch hx) hfX hkX hcellA (by rw [hhp, hT]; exact Nat.le_refl _)
    (g := { method := m, pc := pc + 4, locals := ls, stack := .ref T.heap.size :: .ref T.heap.size :: rest, locked := none }) rfl hsize rfl rfl (rest := rest) rfl
    (by rw [hb]; exact d4) (by rw [hb]; exact d7) hout hRframes (by simp only [List.map_cons, List.sum_cons, hcat]; omega) hlocks
  obtain ⟨f1, f2⟩ := vx_frame hsame
  rw [hhp] at f1 f2
  have hWs : s.WarmedH U.vm := State.WarmedH.trans hW0 hW
  have hcl : s.vm.findClass cls = some ce.cls := by
    have h9 := hO.cls
    rw [hvm] at h9
    exact h9
  have hall : s.sameButNew ({ U with vm := s.vm } : State) locs mc ms := by
    subst hA
    obtain ⟨e1, e2⟩ := hsame
    rw [State.setFrames_setFrames] at e1
    have h2 : (T.setVm s.vm).sameButNew ({ U with vm := s.vm } : State) [] (0 + 1) (0 + 6) := ⟨e1, e2⟩
    have h3 := X.same.trans h2
    rw [List.append_nil] at h3
    exact h3.mono hc hs
  refine ⟨U, ?_, .threw T.heap.size, hrun, hend, Or.inr ⟨T.heap.size, rfl, cls, ce, locs, hx U hWs.alike f1 (fun q hq => f2 q hq (fun z hz => nomatch hz)), hce, hO.vm, hcl, hWs, hall, hf⟩⟩
  refine st1 _ ?_
  show Steps p.tables e below (T1.setTop { method := m, pc := pc + 3, locals := ls, stack := .ref T.heap.size :: rest, locked := none }) _
  jvm_step X₁.here [X₁.here.top, hexec, d3', Value.category]
  exact hsteps
/-- 'throw new E("text")': new; dup; ldc; invokespecial; athrow -/
theorem vx_throwS {cc : ByteArray} {pc : Nat} (hexec : p.tables.exec = Jvm.exec) (hb : c.code = cc) (hl : l.stackTraces = false) {own cls text : String} {names : List String} {ik is ic mc ms sa : Nat} {A : Nat → Prop}
    (hown : s.vm.findClass own = some m.cls) (hcls : Bundle.fit cls = true) (hnames : ∀ n ∈ names, Bundle.fit n = true)
    (hk : (Cond.classLink own ik cls).before args s = true) (hini : (Cond.initialized cls).before args s = true) (hstr : vk_R own is text sa s) (hat : ∀ w ∈ vx_atS own ic cls names, w.before args s = true)
    (hgood : ∀ w ∈ Cond.classLink own ik cls :: Cond.initialized cls :: vx_atS own ic cls names, vx_ot w = true)
    (hU : vx_Zq Bundle.tN "UNASSIGNED_STACK" Bundle.steD A s s.heap) (hN : vx_Zq Bundle.tN "SUPPRESSED_SENTINEL" Bundle.listD A s s.heap) (hS : va_S A s.heap H locs) (hsize : ls.size = c.maxLocals)
    (d0 : decode cc pc = .ok (.new ik, 3)) (d3 : decode cc (pc + 3) = .ok (.dup, 1)) (d4 : decode cc (pc + 4) = .ok (.ldc is, 2)) (d6 : decode cc (pc + 6) = .ok (.invokespecial ic, 3)) (d9 : decode cc (pc + 9) = .ok (.athrow, 1))
    (hout : ∀ x ∈ c.exceptionTable.toList, covers x (pc + 9) = false)
    (hRframes : names.length + 3 < R.frames) (hRlocals : (rest.map fun v => v.category).sum + (13 * (names.length + 1) + 43) ≤ R.locals) (hRcells : cells + 1 ≤ R.cells) (hRslots : slots + 6 ≤ R.slots) (hlocks : meth.locks = false)
    (hx : ∀ t : State, s.vm.Alike t.vm → H.size ≤ t.heap.size → (∀ q : Nat, q < H.size → t.heap[q]? = H[q]?) → XC cls s t)
    (hf : ∀ z ∈ locs, free z.base) (hc : cells + 1 ≤ mc) (hs : slots + 6 ≤ ms) :
    W p l e R s m args below meth c H locs cells slots (vx_MQ below Qc XC args s mc ms free) (F0 m pc ls rest) := by
  intro T hT X
  have htr : e.platform.stackTraces = false := (show e.platform.stackTraces = l.stackTraces by rw [X.admits.platform]).trans hl
  have Y := vx_rebase X (R' := { frames := R.frames, locals := R.locals, cells := 1, slots := 6 }) (Nat.le_refl _) (Nat.le_refl _) hRcells hRslots
  obtain ⟨s', hA⟩ : ∃ z, z = (T.setVm s.vm).setFrames (.invoking m args :: below) := ⟨_, rfl⟩
  rw [← hA] at Y
  have hvm : s'.vm = s.vm := by rw [hA]; rfl
  have hhp : s'.heap = H := by rw [hA]; exact hT
  have hW0 : s.WarmedH s'.vm := by rw [hvm]; exact State.WarmedH.refl s
  have hat' : ∀ w ∈ vx_atS own ic cls names, w.before args s' = true := fun w hw => vx_ot_at hW0 hvm.symm (hgood w (List.mem_cons_of_mem _ (List.mem_cons_of_mem _ hw))) (hat w hw)
  have hk' : (Cond.classLink own ik cls).before args s' = true := vx_ot_at hW0 hvm.symm (hgood _ List.mem_cons_self) hk
  have hini' : (Cond.initialized cls).before args s' = true := vx_ot_at hW0 hvm.symm (hgood _ (List.mem_cons_of_mem _ List.mem_cons_self)) hini
  have hU' : vx_Zq Bundle.tN "UNASSIGNED_STACK" Bundle.steD A s' s'.heap := by rw [hhp]; exact vx_Zq.moved hW0.alike (hU.kept hS.2.1)
  have hN' : vx_Zq Bundle.tN "SUPPRESSED_SENTINEL" Bundle.listD A s' s'.heap := by rw [hhp]; exact vx_Zq.moved hW0.alike (hN.kept hS.2.1)
  have h : ∀ w ∈ Bundle.ownAtoms own ic cls names, w.before args s' = true := vx_own hat' (vx_isRefq hU'.1) (vx_isRefq hN'.1) hU'.2.word hN'.2.word
  have hown' : s'.vm.findClass own = some m.cls := by rw [hvm]; exact hown
  have hins : (Cond.instantiable cls 6).before args s' = true := h _ (by simp [Bundle.ownAtoms])
  obtain ⟨vm₁, cX, kX, hfX, hkX, -, -, X₁, st1⟩ := Y.newCold hexec (own := own) (C := cls) (index := ik) (n := 6) hown' hk' hins hini'
    (g := F0 m pc ls rest) rfl (by rw [hb]; exact d0) (Nat.le_refl _) (Nat.le_refl _)
  generalize hT1 : (T.setVm vm₁).pushCell { cls := cX, slots := kX.instanceTypes.map defaultValue, vm := .none } = T1 at X₁ st1
  have hcat : (Value.ref T.heap.size).category = 1 := rfl
  have hcellA : T1.heap[T.heap.size]? = some (freshCell cX kX) := by rw [← hT1]; exact State.heap_pushCell_size _ _
  have d3' : decode c.code (pc + 3) = .ok (.dup, 1) := by rw [hb]; exact d3
  have d4' : decode c.code (pc + 4) = .ok (.ldc is, 2) := by rw [hb]; exact d4
  have hstr' : vk_R own is text sa s' := vk_R.warm hW0 hstr
  obtain ⟨U, hsteps, hrun, hend, hW, hsame, ce, hce, hO⟩ := X₁.ctorThrowS hexec htr (own := own) (cls := cls) (names := names) (ic := ic) hown' hcls hnames h (fun x hx => nomatch hx) hfX hkX hcellA (by rw [hhp, hT]; exact Nat.le_refl _) (msg := .ref sa) rfl
    (g := { method := m, pc := pc + 6, locals := ls, stack := .ref sa :: .ref T.heap.size :: .ref T.heap.size :: rest, locked := none }) rfl hsize rfl rfl (rest := rest) rfl
    (by rw [hb]; exact d6) (by rw [hb]; exact d9) hout hRframes (by simp only [List.map_cons, List.sum_cons, hcat]; omega) hlocks
  obtain ⟨f1, f2⟩ := vx_frame hsame
  rw [hhp] at f1 f2
  have hWs : s.WarmedH U.vm := State.WarmedH.trans hW0 hW
  have hcl : s.vm.findClass cls = some ce.cls := by
    have h9 := hO.cls
    rw [hvm] at h9
    exact h9
  have hall : s.sameButNew ({ U with vm := s.vm } : State) locs mc ms := by
    subst hA
    obtain ⟨e1, e2⟩ := hsame
    rw [State.setFrames_setFrames] at e1
    have h2 : (T.setVm s.vm).sameButNew ({ U with vm := s.vm } : State) [] (0 + 1) (0 + 6) := ⟨e1, e2⟩
    have h3 := X.same.trans h2
    rw [List.append_nil] at h3
    exact h3.mono hc hs
  refine ⟨U, ?_, .threw T.heap.size, hrun, hend, Or.inr ⟨T.heap.size, rfl, cls, ce, locs, hx U hWs.alike f1 (fun q hq => f2 q hq (fun z hz => nomatch hz)), hce, hO.vm, hcl, hWs, hall, hf⟩⟩
  refine st1 _ ?_
  show Steps p.tables e below (T1.setTop { method := m, pc := pc + 3, locals := ls, stack := .ref T.heap.size :: rest, locked := none }) _
  jvm_step X₁.here [X₁.here.top, hexec, d3', Value.category]
  exact X₁.ldcString hexec (own := own) (text := text) (index := is) (a := sa) hown' hstr'.1 hstr'.2
    (g := { method := m, pc := pc + 4, locals := ls, stack := .ref T.heap.size :: .ref T.heap.size :: rest, locked := none }) rfl d4' _ hsteps
/-- 'throw new E("text")', the text by a wide index -/
theorem vx_throwSW {cc : ByteArray} {pc : Nat} (hexec : p.tables.exec = Jvm.exec) (hb : c.code = cc) (hl : l.stackTraces = false) {own cls text : String} {names : List String} {ik is ic mc ms sa : Nat} {A : Nat → Prop}
    (hown : s.vm.findClass own = some m.cls) (hcls : Bundle.fit cls = true) (hnames : ∀ n ∈ names, Bundle.fit n = true)
    (hk : (Cond.classLink own ik cls).before args s = true) (hini : (Cond.initialized cls).before args s = true) (hstr : vk_R own is text sa s) (hat : ∀ w ∈ vx_atS own ic cls names, w.before args s = true)
    (hgood : ∀ w ∈ Cond.classLink own ik cls :: Cond.initialized cls :: vx_atS own ic cls names, vx_ot w = true)
    (hU : vx_Zq Bundle.tN "UNASSIGNED_STACK" Bundle.steD A s s.heap) (hN : vx_Zq Bundle.tN "SUPPRESSED_SENTINEL" Bundle.listD A s s.heap) (hS : va_S A s.heap H locs) (hsize : ls.size = c.maxLocals)
    (d0 : decode cc pc = .ok (.new ik, 3)) (d3 : decode cc (pc + 3) = .ok (.dup, 1)) (d4 : decode cc (pc + 4) = .ok (.ldc_w is, 3)) (d7 : decode cc (pc + 7) = .ok (.invokespecial ic, 3)) (d10 : decode cc (pc + 10) = .ok (.athrow, 1))
    (hout : ∀ x ∈ c.exceptionTable.toList, covers x (pc + 10) = false)
    (hRframes : names.length + 3 < R.frames) (hRlocals : (rest.map fun v => v.category).sum + (13 * (names.length + 1) + 43) ≤ R.locals) (hRcells : cells + 1 ≤ R.cells) (hRslots : slots + 6 ≤ R.slots) (hlocks : meth.locks = false)
    (hx : ∀ t : State, s.vm.Alike t.vm → H.size ≤ t.heap.size → (∀ q : Nat, q < H.size → t.heap[q]? = H[q]?) → XC cls s t)
    (hf : ∀ z ∈ locs, free z.base) (hc : cells + 1 ≤ mc) (hs : slots + 6 ≤ ms) :
    W p l e R s m args below meth c H locs cells slots (vx_MQ below Qc XC args s mc ms free) (F0 m pc ls rest) := by
  intro T hT X
  have htr : e.platform.stackTraces = false := (show e.platform.stackTraces = l.stackTraces by rw [X.admits.platform]).trans hl
  have Y := vx_rebase X (R' := { frames := R.frames, locals := R.locals, cells := 1, slots := 6 }) (Nat.le_refl _) (Nat.le_refl _) hRcells hRslots
  obtain ⟨s', hA⟩ : ∃ z, z = (T.setVm s.vm).setFrames (.invoking m args :: below) := ⟨_, rfl⟩
  rw [← hA] at Y
  have hvm : s'.vm = s.vm := by rw [hA]; rfl
  have hhp : s'.heap = H := by rw [hA]; exact hT
  have hW0 : s.WarmedH s'.vm := by rw [hvm]; exact State.WarmedH.refl s
  have hat' : ∀ w ∈ vx_atS own ic cls names, w.before args s' = true := fun w hw => vx_ot_at hW0 hvm.symm (hgood w (List.mem_cons_of_mem _ (List.mem_cons_of_mem _ hw))) (hat w hw)
  have hk' : (Cond.classLink own ik cls).before args s' = true := vx_ot_at hW0 hvm.symm (hgood _ List.mem_cons_self) hk
  have hini' : (Cond.initialized cls).before args s' = true := vx_ot_at hW0 hvm.symm (hgood _ (List.mem_cons_of_mem _ List.mem_cons_self)) hini
  have hU' : vx_Zq Bundle.tN "UNASSIGNED_STACK" Bundle.steD A s' s'.heap := by rw [hhp]; exact vx_Zq.moved hW0.alike (hU.kept hS.2.1)
  have hN' : vx_Zq Bundle.tN "SUPPRESSED_SENTINEL" Bundle.listD A s' s'.heap := by rw [hhp]; exact vx_Zq.moved hW0.alike (hN.kept hS.2.1)
  have h : ∀ w ∈ Bundle.ownAtoms own ic cls names, w.before args s' = true := vx_own hat' (vx_isRefq hU'.1) (vx_isRefq hN'.1) hU'.2.word hN'.2.word
  have hown' : s'.vm.findClass own = some m.cls := by rw [hvm]; exact hown
  have hins : (Cond.instantiable cls 6).before args s' = true := h _ (by simp [Bundle.ownAtoms])
  obtain ⟨vm₁, cX, kX, hfX, hkX, -, -, X₁, st1⟩ := Y.newCold hexec (own := own) (C := cls) (index := ik) (n := 6) hown' hk' hins hini'
    (g := F0 m pc ls rest) rfl (by rw [hb]; exact d0) (Nat.le_refl _) (Nat.le_refl _)
  generalize hT1 : (T.setVm vm₁).pushCell { cls := cX, slots := kX.instanceTypes.map defaultValue, vm := .none } = T1 at X₁ st1
  have hcat : (Value.ref T.heap.size).category = 1 := rfl
  have hcellA : T1.heap[T.heap.size]? = some (freshCell cX kX) := by rw [← hT1]; exact State.heap_pushCell_size _ _
  have d3' : decode c.code (pc + 3) = .ok (.dup, 1) := by rw [hb]; exact d3
  have d4' : decode c.code (pc + 4) = .ok (.ldc_w is, 3) := by rw [hb]; exact d4
  have hstr' : vk_R own is text sa s' := vk_R.warm hW0 hstr
  obtain ⟨U, hsteps, hrun, hend, hW, hsame, ce, hce, hO⟩ := X₁.ctorThrowS hexec htr (own := own) (cls := cls) (names := names) (ic := ic) hown' hcls hnames h (fun x hx => nomatch hx) hfX hkX hcellA (by rw [hhp, hT]; exact Nat.le_refl _) (msg := .ref sa) rfl
    (g := { method := m, pc := pc + 7, locals := ls, stack := .ref sa :: .ref T.heap.size :: .ref T.heap.size :: rest, locked := none }) rfl hsize rfl rfl (rest := rest) rfl
    (by rw [hb]; exact d7) (by rw [hb]; exact d10) hout hRframes (by simp only [List.map_cons, List.sum_cons, hcat]; omega) hlocks
  obtain ⟨f1, f2⟩ := vx_frame hsame
  rw [hhp] at f1 f2
  have hWs : s.WarmedH U.vm := State.WarmedH.trans hW0 hW
  have hcl : s.vm.findClass cls = some ce.cls := by
    have h9 := hO.cls
    rw [hvm] at h9
    exact h9
  have hall : s.sameButNew ({ U with vm := s.vm } : State) locs mc ms := by
    subst hA
    obtain ⟨e1, e2⟩ := hsame
    rw [State.setFrames_setFrames] at e1
    have h2 : (T.setVm s.vm).sameButNew ({ U with vm := s.vm } : State) [] (0 + 1) (0 + 6) := ⟨e1, e2⟩
    have h3 := X.same.trans h2
    rw [List.append_nil] at h3
    exact h3.mono hc hs
  refine ⟨U, ?_, .threw T.heap.size, hrun, hend, Or.inr ⟨T.heap.size, rfl, cls, ce, locs, hx U hWs.alike f1 (fun q hq => f2 q hq (fun z hz => nomatch hz)), hce, hO.vm, hcl, hWs, hall, hf⟩⟩
  refine st1 _ ?_
  show Steps p.tables e below (T1.setTop { method := m, pc := pc + 3, locals := ls, stack := .ref T.heap.size :: rest, locked := none }) _
  jvm_step X₁.here [X₁.here.top, hexec, d3', Value.category]
  exact X₁.ldcStringW hexec (own := own) (text := text) (index := is) (a := sa) hown' hstr'.1 hstr'.2
    (g := { method := m, pc := pc + 4, locals := ls, stack := .ref T.heap.size :: .ref T.heap.size :: rest, locked := none }) rfl d4' _ hsteps
end Ends
section Bodies
variable {l : Launch}
theorem vx_ofW {y : MethodName} {ws ws' : List Cond} {rm : Room} {Pc : Array Value → State → Prop} {Qc : Array Value → State → Outcome → State → Prop} {XC : String → State → State → Prop} {mc ms : Nat} {free : Addr → Prop} {cc : ByteArray} {maxL : Nat} {ret : Option FieldType}
    (hy : plainName y.cls = true) (hw : ws = Cond.code y cc maxL ret :: ws')
    (body : ∀ p e s m args below meth c s₁, BodyLoose p l y (headSpec ws rm) cc maxL ret e s m args below meth c s₁ → c.maxLocals = maxL → (∀ x ∈ c.exceptionTable.toList, False) → Pc args s →
      W p l e (headSpec ws rm).room s m args below meth c s.heap [] 0 0 (vx_MQ below Qc XC args s mc ms free) (entryFrame m args maxL)) : vx_Met l y ws rm Pc Qc XC mc ms free := by
  refine MetFree.of_bodyS (code := cc) (maxLocals := maxL) (ret := ret) hy ?_ ?_
  · intro args s m h hn
    obtain ⟨meth, c, h1, h2, h3, h4, h5, h6, -, -⟩ := Cond.code_spec hn (atoms_spec (ws := ws) h _ (by rw [hw]; exact List.mem_cons_self))
    exact ⟨meth, c, h1, h2, h3, h4, h5, h6⟩
  · intro p e s m args below meth c s₁ B hml hP _
    have hh0 : s₁.heap = s.heap := by rw [B.state]; rfl
    have ht : ∀ x ∈ c.exceptionTable.toList, False := by
      obtain ⟨meth9, c9, h1, h2, -, -, -, -, h7, -⟩ := Cond.code_spec B.named (atoms_spec (ws := ws) B.pre _ (by rw [hw]; exact List.mem_cons_self))
      cases Option.some.inj (h1.symm.trans B.method)
      cases Option.some.inj (h2.symm.trans (Stand.of_body B).code)
      intro x hx
      rw [Array.isEmpty_iff.mp h7] at hx
      cases hx
    obtain ⟨t, a1, o, b1, b2, b3⟩ := body p e s m args below meth c s₁ B hml ht hP s₁ hh0 (Stand.of_body B)
    exact ⟨t, o, a1, b1, b2, b3⟩
/-- the table of a body with handlers -/
theorem vx_table {p : Program} {x y : MethodName} {S : Spec} {cc bytes : ByteArray} {maxL maxL' : Nat} {ret ret' : Option FieldType} {e : Env} {s s₁ : State} {m : MethodId} {args : Array Value} {below : List Frame} {meth : Method} {c : Code} {hh : List (Nat × Nat × Nat × Nat)}
    (B : BodyLoose p l y S cc maxL ret e s m args below meth c s₁) (h : (Cond.codeWith y bytes maxL' ret' hh).before args s = true) : c.exceptionTable.toList = tableOf hh := by
  obtain ⟨m9, meth9, c9, hn9, h1, h2, -, -, h6, -⟩ := Cond.codeWith_spec h
  cases Option.some.inj (hn9.symm.trans B.named)
  cases Option.some.inj (h1.symm.trans B.method)
  cases Option.some.inj (h2.symm.trans (Stand.of_body B).code)
  rw [← h6, table_eq]
end Bodies
end VXA
/-! ===== END ===== -/
/-! ===== BEGIN a static call of a method with an exception table ===== -/
section VXS
variable {p : Program} {l : Launch} {e : Env} {R : Room} {s : State} {m : MethodId} {args : Array Value} {below : List Frame} {meth : Method} {c : Code} {T : State} {H : Heap} {locs : List Loc} {cells slots : Nat}
abbrev vx_CSW (R : Room) (s : State) (args : Array Value) (own : String) (index : Nat) (y : MethodName) (bytes : ByteArray) (maxL : Nat) (ret : Option FieldType) (hh : List (Nat × Nat × Nat × Nat)) (ws : List Cond) (rm : Room) (mc ms n : Nat) : Prop :=
  (rm.cells = mc ∧ rm.slots = ms ∧ rm.frames + 1 ≤ R.frames ∧ 8 + (maxL + 11) + rm.locals ≤ R.locals ∧ (∀ w ∈ ws, ∀ (a' : Array Value) (U : State), s.WarmedH U.vm → w.before a' U = true) ∧ Cond.codeWith y bytes maxL ret hh ∈ ws) ∧
  (Cond.codeWith y bytes maxL ret hh).before args s = true ∧ (Cond.initialized y.cls).before args s = true ∧ (y.cls ≠ "java/lang/invoke/MethodHandle" ∧ y.cls ≠ "java/lang/invoke/VarHandle") ∧
  (∀ sig, parseMethodDescriptor y.desc = some sig → n = sig.parameters.length) ∧ (Cond.methodLink own index y).before args s = true ∧ (Cond.static y).before args s = true
theorem vx_cwSW {own : String} {index maxL mc ms : Nat} {y : MethodName} {bytes : ByteArray} {ret : Option FieldType} {hh : List (Nat × Nat × Nat × Nat)} {Ts ws ws' : List Cond} {rm : Room} (n : Nat) (ht : ∀ w ∈ Ts, w.before args s = true) (hT : GoodIn Ts (va_wsS own index y ws)) (hw : ws = Cond.codeWith y bytes maxL ret hh :: ws') (hrc : rm.cells = mc) (hrs : rm.slots = ms)
    (hd : y.cls ≠ "java/lang/invoke/MethodHandle" ∧ y.cls ≠ "java/lang/invoke/VarHandle" ∧ (parseMethodDescriptor y.desc).map (fun d => d.parameters.length) = some n) (hR : rm.frames + 1 ≤ R.frames ∧ 8 + (maxL + 11) + rm.locals ≤ R.locals) :
    vx_CSW R s args own index y bytes maxL ret hh ws rm mc ms n := by
  have ok : ∀ w ∈ va_wsS own index y ws, w.before args s = true := fun w h => ht w (hT w h).1
  have hG : GoodIn Ts ws := fun w h => hT w (by unfold va_wsS; exact List.mem_append_right _ h)
  have hc : Cond.codeWith y bytes maxL ret hh ∈ ws := by rw [hw]; exact List.mem_cons_self
  refine ⟨⟨hrc, hrs, hR.1, hR.2, pay_in ht hG, hc⟩, ht _ (hG _ hc).1, ok _ (by simp [va_wsS]), ⟨hd.1, hd.2.1⟩, fun sig h => ?_, ok _ (by simp [va_wsS]), ok _ (by simp [va_wsS])⟩
  have h2 := hd.2.2
  rw [h] at h2
  exact (Option.some.inj h2).symm
theorem vx_callSW (X : Stand p l e R s m args below meth c T locs cells slots) (hexec : p.tables.exec = Jvm.exec) {own : String} {index : Nat} {y : MethodName} {bytes : ByteArray} {maxL : Nat} {ret : Option FieldType} {hh : List (Nat × Nat × Nat × Nat)}
    (hown : s.vm.findClass own = some m.cls) (hlink : (Cond.methodLink own index y).before args s = true) (hstat : (Cond.static y).before args s = true) (hinit : (Cond.initialized y.cls).before args s = true)
    (hcode : (Cond.codeWith y bytes maxL ret hh).before args s = true) (hy : y.cls ≠ "java/lang/invoke/MethodHandle" ∧ y.cls ≠ "java/lang/invoke/VarHandle")
    {W9 : Nat} {Pre : Pt → Array Value → Prop} {Post : Pt → Array Value → Option Value → Pt → Prop} (hK : Back l R p e below s args y 3 W9 Pre Post)
    {g : JFrame} (hg : g.method = m) (hsize : g.locals.size = c.maxLocals) {argsL rest : List Value} (hlen : ∀ sig, parseMethodDescriptor y.desc = some sig → argsL.length = sig.parameters.length)
    (hstack : g.stack = argsL.reverse ++ rest) (hW : 2 * g.monitorRoom + (rest.map fun v => v.category).sum ≤ W9) (hdg : decode c.code g.pc = .ok (.invokestatic index, 3))
    (hpre : ∀ vm₁, s.WarmedH vm₁ → Pre ⟨T.setVm vm₁, locs, cells, slots⟩ argsL.toArray) :
    ∃ (v : Option Value) (vm₁ : Vm) (B : Pt), s.WarmedH vm₁ ∧ Stand p l e R s m args below meth c B.U B.locs B.cells B.slots ∧ Post ⟨T.setVm vm₁, locs, cells, slots⟩ argsL.toArray v B ∧
      ∀ target, Steps p.tables e below (B.U.setTop { g with pc := g.pc + 3, stack := v.toList ++ rest }) target → Steps p.tables e below (T.setTop g) target := by
  obtain ⟨mk, methM, cM, hnamed, hmethM, -, -, -, -, -, -, hsigM⟩ := Cond.codeWith_spec hcode
  have hstatic : methM.isStatic = true := Cond.static_spec hnamed hmethM hstat
  obtain ⟨kP, hkP, -⟩ := className_of_methodNamed hnamed
  have hinitP : kP.init = .initialized := Cond.initialized_spec (findClass_of_methodNamed hnamed) hkP hinit
  obtain ⟨vm₁, X₁, hstep₁⟩ := X.invokestatic hexec hown hlink hnamed hmethM hstatic hkP hinitP hy (g := g) hg (argsL := argsL) (rest := rest) (hlen _ hsigM) hstack hdg
  obtain ⟨v, B, X', hpost, hsteps⟩ := hK m meth c ⟨T.setVm vm₁, locs, cells, slots⟩ { g with stack := rest } (.invokestatic index) mk argsL.toArray X₁ hg hsize hdg hW (X₁.named hnamed) (hpre vm₁ X₁.warmed)
  exact ⟨v, vm₁, B, X₁.warmed, X', hpost, fun target h => hstep₁ _ fun acts => by rw [doInvoke_state]; exact hsteps.trans h⟩
theorem vx_runSW {y : MethodName} {bytes cc : ByteArray} {maxL nL mc ms n index : Nat} {ret : Option FieldType} {hh : List (Nat × Nat × Nat × Nat)} {ws : List Cond} {rm : Room} {Pc : Array Value → State → Prop} {Qc : Array Value → State → Outcome → State → Prop} {free : Addr → Prop} {Ts : List Cond} {own : String} {As rest : List Value} {g : JFrame}
    (S : CallFix p m c cc nL s args Ts own) (hM : Met l y ws rm Pc Qc mc ms free) (cw : vx_CSW R s args own index y bytes maxL ret hh ws rm mc ms n) (hp : PreS s H Pc As)
    (hg : g.method = m) (hn : As.length = n) (hsize : g.locals.size = nL) (hstack : g.stack = As.reverse ++ rest) (hW : 2 * g.monitorRoom + (rest.map fun v => v.category).sum ≤ 8) (hdg : decode cc g.pc = .ok (.invokestatic index, 3)) (hf : cells + mc ≤ R.cells ∧ slots + ms ≤ R.slots) :
    va_Run p l e R s m args below meth c H locs cells slots mc ms g rest (Qc As.toArray) (free) := by
  obtain ⟨⟨hrc, hrs, hfr, hlo, hws, hcw⟩, hcode, hini, hy, hlen, hl, hstt⟩ := cw
  have hK : Back l R p e below s args y 3 8 (PreOf R mc ms Pc) (PostOf Qc mc ms free) := va_backW (hh := hh) (bytes := bytes) (maxL := maxL) (ret := ret) hM hp.1 hrc hrs hfr hlo hws hcw (fun a' U hW => word_at hW (Or.inl (by first | rfl | simp [Cond.onTables, Cond.keeps, Cond.steady])) hini)
  obtain ⟨hx, hb, hml, ho, -⟩ := S
  intro T hT X
  obtain ⟨v, vm₁, ⟨U', l2, c2, s2⟩, hW₁, X', ⟨g', mk, t, L, e1, e2, hq, h1, hL, h2, h3⟩, st⟩ := vx_callSW X hx (hh := hh) (bytes := bytes) (maxL := maxL) (ret := ret) ho hl hstt hini hcode hy hK hg (hsize.trans hml.symm) (argsL := As) (rest := rest) (fun sig h => hn.trans (hlen sig h)) hstack hW (by rw [hb]; exact hdg)
    (fun vm₁ hW₁ => ⟨hf.1, hf.2, hp.2 (T.setVm vm₁) hT hW₁⟩)
  dsimp only [Pt.U, Pt.locs, Pt.cells, Pt.slots] at X' e1 e2 h1 h2 h3 st
  subst h1; subst h2; subst h3
  exact ⟨v, (T.setVm vm₁).calling g' mk As.toArray, t, U', L, hT, X', hL, e1, e2, hq, st⟩
/-- not caught here, past rows that name other classes: it goes on to the caller -/
theorem vx_outP {p : Program} {l : Launch} {e : Env} {R : Room} {s : State} {m : MethodId} {args : Array Value} {below : List Frame} {meth : Method} {c : Code} {H : Heap} {locs : List Loc} {cells slots : Nat} {free : Addr → Prop} {ls : Array Slot} {rest : List Value} {Qc : Array Value → State → Outcome → State → Prop} {XC : String → State → State → Prop}
    {pc : Nat} {own E : String} {ce : Cell} {q : Addr} {mc ms : Nat} (hown : s.vm.findClass own = some m.cls) (hlocks : meth.locks = false)
    (hpass : ∀ z ∈ c.exceptionTable.toList, covers z pc = false ∨ (z.catchType ≠ 0 ∧ ∃ nm : String, (Cond.classLink own z.catchType nm).before args s = true ∧ va_Nc E nm s)) (hcell : H[q]? = some ce) (hv : ce.vm = .none) (hcl : s.vm.findClass E = some ce.cls)
    (hx : ∀ t : State, t.heap = H → s.vm.Alike t.vm → XC E s t) (hf : ∀ z ∈ locs, free z.base) (hc : cells ≤ mc) (hs : slots ≤ ms) :
    vx_W p l e R s m args below meth c H locs cells slots (vx_MQ below Qc XC args s mc ms free) (F0 m pc ls rest) q := by
  intro T hT X
  have hpl : e.platform.magicAccessors = ({} : Platform).magicAccessors := by rw [X.admits.platform]
  obtain ⟨vm', hW', X', st⟩ := X.outThrough hlocks q (g := F0 m pc ls rest) rfl rfl rfl (cell := ce) (by rw [hT]; exact hcell) (by rw [hv]; rfl)
    (by obtain ⟨k9, h9, -⟩ := Vm.findClass_spec hcl; exact ⟨k9, h9⟩) (fun z hz => by
      rcases hpass z hz with h | ⟨hz0, nm, hl1, hn1⟩
      · exact Or.inl h
      · obtain ⟨c6, hc6, hcl6⟩ := Cond.classLink_spec hown hl1 e.platform hpl
        obtain ⟨a8, b8, h1, h2, h3⟩ := hn1
        cases Option.some.inj (h1.symm.trans hcl)
        cases Option.some.inj (h2.symm.trans hc6)
        exact Or.inr ⟨hz0, _, hcl6, h3⟩)
  obtain ⟨g₀, hfr⟩ := X'.frames_eq
  have hcell9 : ((T.setVm vm').setFrames (.throwing q :: below)).heap[q]? = some ce := by
    show T.heap[q]? = some ce
    rw [hT]; exact hcell
  have hend : Ended ((T.setVm vm').setFrames (.throwing q :: below)) below (.threw q) := State.frames_setFrames _ (State.cur_lt_of_frames hfr)
  refine ⟨(T.setVm vm').setFrames (.throwing q :: below), ?_, .threw q, X'.here.running, hend, Or.inr ⟨q, rfl, E, ce, locs, hx _ hT (X'.ends _).1.alike, hcell9, hv, hcl, (X'.ends _).1, (X'.ends _).2.mono hc hs, hf⟩⟩
  rw [X.pushThrowing_eq]
  exact st
/-- a thing of a world lies in the heap -/
theorem vx_lt {D : va_G} {cl : List vw_C} {ws : va_W} {H1 : Heap} (h : va_P D cl ws H1) {k : Nat} {q : Nat × va_E} (hk : ws[k]? = some q) : q.1 < H1.size := (h k q hk).lt
end VXS
/-! ===== END ===== -/
/-! ===== BEGIN methods with a table of their own: called by a name, returning or throwing ===== -/
section VXH
/-! vx_backW, vx_callVX, vx_callSX, vx_callVW, vx_runVW, vx_runVX, vx_runSX, vx_ofWH follow the same proofs as their sisters above (Free/Laws.lean, Shelf42/LK1.lean); vx_outP calls Shelf42/NT130.lean (outThrough). -/
section
variable {l : Launch} {R : Room} {p : Program} {e : Env} {below : List Frame} {s : State} {sargs : Array Value} {y : MethodName} {len W9 : Nat}
theorem vx_backW {ws : List Cond} {rm : Room} {Pc : Array Value → State → Prop} {Qc : Array Value → State → Outcome → State → Prop} {XC : String → State → State → Prop} {mc ms : Nat} {free : Addr → Prop} {bytes : ByteArray} {maxL : Nat} {ret : Option FieldType} {hh : List (Nat × Nat × Nat × Nat)}
    (hM : vx_Met l y ws rm Pc Qc XC mc ms free) (hblind : FrameBlind Pc) (hrc : rm.cells = mc) (hrs : rm.slots = ms)
    (hframes : rm.frames + 1 ≤ R.frames) (hlocals : W9 + (maxL + 11) + rm.locals ≤ R.locals)
    (hws : ∀ w ∈ ws, ∀ a' U, s.WarmedH U.vm → w.before a' U = true) (hcode : Cond.codeWith y bytes maxL ret hh ∈ ws) (hinit : ∀ a' U, s.WarmedH U.vm → (Cond.initialized y.cls).before a' U = true) :
    vx_Back l R p e below s sargs y len W9 (PreOf R mc ms Pc) (PostOf Qc mc ms free) (vx_Post XC mc ms free) := by
  intro m meth c A g ig mk a X hg hsize hdg hW hn hp
  have h1 : (headSpec ws rm).pre.before a A.U = true := atoms_intro fun w hw => hws w hw _ _ X.warmed
  have h2 : (Cond.codeWith y bytes maxL ret hh).before a A.U = true := hws _ hcode _ _ X.warmed
  have h3 : (Cond.initialized y.cls).before a A.U = true := hinit _ _ X.warmed
  have h4 : A.cells + (headSpec ws rm).room.cells ≤ R.cells := by rw [show (headSpec ws rm).room.cells = mc from hrc]; exact hp.1
  have h5 : A.slots + (headSpec ws rm).room.slots ≤ R.slots := by rw [show (headSpec ws rm).room.slots = ms from hrs]; exact hp.2.1
  have hPc : Pc a (A.U.calling g mk a) := hblind _ _ _ _ hp.2.2
  obtain ⟨U, Ls, c0, s0⟩ := A
  dsimp only [Pt.U, Pt.locs, Pt.cells, Pt.slots] at h1 h2 h3 h4 h5 X hn hPc ⊢
  obtain ⟨m9, methY, cY, hn9, hmY, hcY, -, hlY, -⟩ := Cond.codeWith_spec h2
  cases Option.some.inj (hn9.symm.trans hn)
  obtain ⟨kY, hkY, -⟩ := className_of_methodNamed hn
  have hinitY : kY.init = .initialized := Cond.initialized_spec (findClass_of_methodNamed hn) hkY h3
  have h : At U g.method c below := by rw [hg]; exact X.here
  have hlocals9 : W9 + (maxL + 11) + (headSpec ws rm).room.locals ≤ R.locals := hlocals
  have happ : (headSpec ws rm).appliesLoose y e.platform (U.calling g mk a) = true :=
    Spec.appliesLoose_calling (g := g) h hdg hn hkY hinitY
      (X.room_calling (g := g) (R' := (headSpec ws rm).room) hsize hmY hcY hframes (by rw [hlY]; omega) h4 h5) h1
  obtain ⟨mid, hmid⟩ := h.above
  have hfr : (U.setTop g).frames = (.java g :: mid) ++ below := by rw [State.frames_setTop' g h.top, hmid]; rfl
  obtain ⟨o, s₂, hsteps, -, hend, hq⟩ := Steps.callFree hM p X.admits X.cas X.clock (acts := []) hfr happ hPc trivial
  have hq' : vx_Q Qc XC mc ms free a (U.calling g mk a) o s₂ := hq
  rw [State.frames_setTop' g h.top] at hend
  obtain ⟨g₀, hg0⟩ := Option.isSome_iff_exists.mp h.top
  obtain ⟨r, hr⟩ := State.topJava?_eq_some.mp hg0
  have hr' : (({ U with heap := s₂.heap, slotsUsed := s₂.slotsUsed } : State).setVm s₂.vm).frames = .java g₀ :: r := hr
  rcases hq' with ⟨hqc, L, hfe, hL⟩ | ⟨q, rfl, E, ce, L, hx, hce, hcv, hcl, hW₂, hsm, hL⟩
  · obtain ⟨⟨v, rfl⟩, hW₂, e2, q2, q3, q4, q5, q6⟩ := id hfe
    have e3 : s₂ = ({ (U.calling g mk a).setFrames s₂.frames with heap := s₂.heap, slotsUsed := s₂.slotsUsed } : State).setVm s₂.vm := by
      have : s₂ = ({ s₂ with vm := (U.calling g mk a).vm } : State).setVm s₂.vm := rfl
      rw [e2] at this
      exact this
    obtain ⟨c₂, i₂, len₂, hc₂, hd₂, hf₂⟩ := hend
    have hW' : U.WarmedH s₂.vm := hW₂
    have hcc : c₂ = c := by
      have h1 : s₂.code? g.method = U.code? g.method := by
        rw [State.code?_eq, State.code?_eq, hW'.alike.method?]
      exact Option.some.inj (hc₂.symm.trans (h1.trans h.code))
    subst hcc
    have hlen : len₂ = len := by rw [hdg] at hd₂; cases hd₂; rfl
    subst hlen
    have hs₂ : s₂ = (({ U with heap := s₂.heap, slotsUsed := s₂.slotsUsed } : State).setVm s₂.vm).setTop { g with pc := g.pc + len₂, stack := v.toList ++ g.stack } := by
      refine e3.trans ?_
      rw [hf₂, State.calling_eq h.top, State.setFrames_setFrames, State.setTop_of_frames _ hr', hr]
      rfl
    have hsame : U.sameButNew ({ U with heap := s₂.heap, slotsUsed := s₂.slotsUsed } : State) L mc ms := by
      refine ⟨?_, q2, q3, q4, q5, q6⟩
      obtain ⟨t, ht, -⟩ := State.frames_cons hr
      show ({ U with heap := s₂.heap, slotsUsed := s₂.slotsUsed } : State) = { U.setFrames U.frames with heap := s₂.heap, slotsUsed := s₂.slotsUsed }
      rw [State.setFrames_self ht]
    subst hg
    refine Or.inl ⟨v, ⟨(({ U with heap := s₂.heap, slotsUsed := s₂.slotsUsed } : State).setVm s₂.vm), Ls ++ L, c0 + mc, s0 + ms⟩,
      ⟨X.admits, X.cas, X.clock, X.frames, X.room, X.hears, X.method, X.code, (X.here.setHeapUsed s₂.heap s₂.slotsUsed).setVm hW'.alike, X.tail, State.WarmedH.trans X.warmed hW', X.limits, X.bytes, X.same.trans (hsame.setVm s.vm)⟩,
      ⟨g, mk, s₂, L, rfl, rfl, hqc, rfl, hL, rfl, rfl⟩, ?_⟩
    show Steps p.tables e below _ ((({ U with heap := s₂.heap, slotsUsed := s₂.slotsUsed } : State).setVm s₂.vm).setTop { g with pc := g.pc + len₂, stack := v.toList ++ g.stack })
    rw [← hs₂]
    exact hsteps
  · obtain ⟨e2, q2, q3, q4, q5, q6⟩ := id hsm
    have e3 : s₂ = ({ (U.calling g mk a).setFrames s₂.frames with heap := s₂.heap, slotsUsed := s₂.slotsUsed } : State).setVm s₂.vm := by
      have : s₂ = ({ s₂ with vm := (U.calling g mk a).vm } : State).setVm s₂.vm := rfl
      rw [e2] at this
      exact this
    have hf₂ : s₂.frames = .throwing q :: .java g :: U.frames.tail := hend
    have hW' : U.WarmedH s₂.vm := hW₂
    have hs₂ : s₂ = ((({ U with heap := s₂.heap, slotsUsed := s₂.slotsUsed } : State).setVm s₂.vm).setTop g).pushFrame (.throwing q) := by
      refine e3.trans ?_
      rw [hf₂, State.calling_eq h.top, State.setFrames_setFrames, State.pushFrame, State.frames_setTop _ hr', State.setTop_of_frames _ hr', State.setFrames_setFrames, hr]
      rfl
    have hsame : U.sameButNew ({ U with heap := s₂.heap, slotsUsed := s₂.slotsUsed } : State) L mc ms := by
      refine ⟨?_, q2, q3, q4, q5, q6⟩
      obtain ⟨t, ht, -⟩ := State.frames_cons hr
      show ({ U with heap := s₂.heap, slotsUsed := s₂.slotsUsed } : State) = { U.setFrames U.frames with heap := s₂.heap, slotsUsed := s₂.slotsUsed }
      rw [State.setFrames_self ht]
    subst hg
    refine Or.inr ⟨q, ⟨(({ U with heap := s₂.heap, slotsUsed := s₂.slotsUsed } : State).setVm s₂.vm), Ls ++ L, c0 + mc, s0 + ms⟩,
      ⟨X.admits, X.cas, X.clock, X.frames, X.room, X.hears, X.method, X.code, (X.here.setHeapUsed s₂.heap s₂.slotsUsed).setVm hW'.alike, X.tail, State.WarmedH.trans X.warmed hW', X.limits, X.bytes, X.same.trans (hsame.setVm s.vm)⟩,
      ⟨g, mk, s₂, L, E, ce, rfl, rfl, hx, hce, hcv, hcl, rfl, hL, rfl, rfl⟩, ?_⟩
    show Steps p.tables e below _ (((({ U with heap := s₂.heap, slotsUsed := s₂.slotsUsed } : State).setVm s₂.vm).setTop g).pushFrame (.throwing q))
    rw [← hs₂]
    exact hsteps
end
variable {p : Program} {l : Launch} {e : Env} {R : Room} {s : State} {m : MethodId} {args : Array Value} {below : List Frame} {meth : Method} {c : Code} {T : State} {H : Heap} {locs : List Loc} {cells slots : Nat}
theorem vx_callVX (X : Stand p l e R s m args below meth c T locs cells slots) (hexec : p.tables.exec = Jvm.exec) {own C : String} {index : Nat} {y : MethodName} {bytes : ByteArray} {maxL : Nat} {ret : Option FieldType} {hh : List (Nat × Nat × Nat × Nat)}
    (hown : s.vm.findClass own = some m.cls) (hlink : (Cond.methodLink own index y).before args s = true) (hinst : (Cond.instanceMethod y).before args s = true) (hsel : (Cond.selects C y y).before args s = true)
    (hcode : (Cond.codeWith y bytes maxL ret hh).before args s = true) (hy : y.cls ≠ "java/lang/invoke/MethodHandle" ∧ y.cls ≠ "java/lang/invoke/VarHandle")
    {W9 : Nat} {Pre : Pt → Array Value → Prop} {Post : Pt → Array Value → Option Value → Pt → Prop} {PostX : Pt → Array Value → Addr → Pt → Prop} (hK : vx_Back l R p e below s args y 3 W9 Pre Post PostX)
    {b : Addr} {cellB : Cell} (hcell : T.heap[b]? = some cellB) (hobj : cellB.vm.isStatics = false) (hcls : s.vm.findClass C = some cellB.cls)
    {g : JFrame} (hg : g.method = m) (hsize : g.locals.size = c.maxLocals) {argsL rest : List Value} (hlen : ∀ sig, parseMethodDescriptor y.desc = some sig → argsL.length = sig.parameters.length)
    (hstack : g.stack = argsL.reverse ++ .ref b :: rest) (hW : 2 * g.monitorRoom + (rest.map fun v => v.category).sum ≤ W9) (hdg : decode c.code g.pc = .ok (.invokevirtual index, 3))
    (hpre : ∀ vm₁, s.WarmedH vm₁ → Pre ⟨T.setVm vm₁, locs, cells, slots⟩ (Value.ref b :: argsL).toArray) :
    (∃ (v : Option Value) (vm₁ : Vm) (B : Pt), s.WarmedH vm₁ ∧ Stand p l e R s m args below meth c B.U B.locs B.cells B.slots ∧ Post ⟨T.setVm vm₁, locs, cells, slots⟩ (Value.ref b :: argsL).toArray v B ∧
      ∀ target, Steps p.tables e below (B.U.setTop { g with pc := g.pc + 3, stack := v.toList ++ rest }) target → Steps p.tables e below (T.setTop g) target) ∨
    (∃ (q : Addr) (vm₁ : Vm) (B : Pt), s.WarmedH vm₁ ∧ Stand p l e R s m args below meth c B.U B.locs B.cells B.slots ∧ PostX ⟨T.setVm vm₁, locs, cells, slots⟩ (Value.ref b :: argsL).toArray q B ∧
      Steps p.tables e below (T.setTop g) ((B.U.setTop { g with stack := rest }).pushFrame (.throwing q))) := by
  obtain ⟨mk, methM, hnamed, hmethM, hstM, habM⟩ := Cond.instanceMethod_spec hinst
  obtain ⟨m8, methM', cM, hn8, hmethM', -, -, -, -, -, -, hsigM⟩ := Cond.codeWith_spec hcode
  cases Option.some.inj (hn8.symm.trans hnamed)
  cases hmethM.symm.trans hmethM'
  obtain ⟨c2, r2, m2, q1, q2, q3, q4, kP, hkP, hkPi⟩ := Cond.selects_spec hsel
  cases hcls.symm.trans q1
  cases (State.methodFound?_of_named hnamed hy).symm.trans q2
  cases hnamed.symm.trans q3
  have hselP : selectMethod e.platform s.vm cellB.cls mk = .method mk := by rw [Launch.admits_selectMethod X.admits]; exact q4
  obtain ⟨vm₁, X₁, hstep₁⟩ := X.invokevirtual hexec hown hlink hnamed hmethM hstM hkP hkPi hy (a := b) (cell := cellB) hcell
    (fun z h => by rw [h] at hobj; cases hobj) hselP hmethM habM hkP hkPi (g := g) hg (argsL := argsL) (rest := rest) (hlen _ hsigM) hstack hdg
  rcases hK m meth c ⟨T.setVm vm₁, locs, cells, slots⟩ { g with stack := rest } (.invokevirtual index) mk (Value.ref b :: argsL).toArray X₁ hg hsize hdg hW (X₁.named hnamed) (hpre vm₁ X₁.warmed) with ⟨v, B, X', hpost, hsteps⟩ | ⟨q, B, X', hpost, hsteps⟩
  · exact Or.inl ⟨v, vm₁, B, X₁.warmed, X', hpost, fun target h => hstep₁ _ fun acts => by rw [doInvoke_state]; exact hsteps.trans h⟩
  · exact Or.inr ⟨q, vm₁, B, X₁.warmed, X', hpost, hstep₁ _ fun acts => by rw [doInvoke_state]; exact hsteps⟩
theorem vx_callSX (X : Stand p l e R s m args below meth c T locs cells slots) (hexec : p.tables.exec = Jvm.exec) {own : String} {index : Nat} {y : MethodName} {bytes : ByteArray} {maxL : Nat} {ret : Option FieldType} {hh : List (Nat × Nat × Nat × Nat)}
    (hown : s.vm.findClass own = some m.cls) (hlink : (Cond.methodLink own index y).before args s = true) (hstat : (Cond.static y).before args s = true) (hinit : (Cond.initialized y.cls).before args s = true)
    (hcode : (Cond.codeWith y bytes maxL ret hh).before args s = true) (hy : y.cls ≠ "java/lang/invoke/MethodHandle" ∧ y.cls ≠ "java/lang/invoke/VarHandle")
    {W9 : Nat} {Pre : Pt → Array Value → Prop} {Post : Pt → Array Value → Option Value → Pt → Prop} {PostX : Pt → Array Value → Addr → Pt → Prop} (hK : vx_Back l R p e below s args y 3 W9 Pre Post PostX)
    {g : JFrame} (hg : g.method = m) (hsize : g.locals.size = c.maxLocals) {argsL rest : List Value} (hlen : ∀ sig, parseMethodDescriptor y.desc = some sig → argsL.length = sig.parameters.length)
    (hstack : g.stack = argsL.reverse ++ rest) (hW : 2 * g.monitorRoom + (rest.map fun v => v.category).sum ≤ W9) (hdg : decode c.code g.pc = .ok (.invokestatic index, 3))
    (hpre : ∀ vm₁, s.WarmedH vm₁ → Pre ⟨T.setVm vm₁, locs, cells, slots⟩ argsL.toArray) :
    (∃ (v : Option Value) (vm₁ : Vm) (B : Pt), s.WarmedH vm₁ ∧ Stand p l e R s m args below meth c B.U B.locs B.cells B.slots ∧ Post ⟨T.setVm vm₁, locs, cells, slots⟩ argsL.toArray v B ∧
      ∀ target, Steps p.tables e below (B.U.setTop { g with pc := g.pc + 3, stack := v.toList ++ rest }) target → Steps p.tables e below (T.setTop g) target) ∨
    (∃ (q : Addr) (vm₁ : Vm) (B : Pt), s.WarmedH vm₁ ∧ Stand p l e R s m args below meth c B.U B.locs B.cells B.slots ∧ PostX ⟨T.setVm vm₁, locs, cells, slots⟩ argsL.toArray q B ∧
      Steps p.tables e below (T.setTop g) ((B.U.setTop { g with stack := rest }).pushFrame (.throwing q))) := by
  obtain ⟨mk, methM, cM, hnamed, hmethM, -, -, -, -, -, -, hsigM⟩ := Cond.codeWith_spec hcode
  have hstatic : methM.isStatic = true := Cond.static_spec hnamed hmethM hstat
  obtain ⟨kP, hkP, -⟩ := className_of_methodNamed hnamed
  have hinitP : kP.init = .initialized := Cond.initialized_spec (findClass_of_methodNamed hnamed) hkP hinit
  obtain ⟨vm₁, X₁, hstep₁⟩ := X.invokestatic hexec hown hlink hnamed hmethM hstatic hkP hinitP hy (g := g) hg (argsL := argsL) (rest := rest) (hlen _ hsigM) hstack hdg
  rcases hK m meth c ⟨T.setVm vm₁, locs, cells, slots⟩ { g with stack := rest } (.invokestatic index) mk argsL.toArray X₁ hg hsize hdg hW (X₁.named hnamed) (hpre vm₁ X₁.warmed) with ⟨v, B, X', hpost, hsteps⟩ | ⟨q, B, X', hpost, hsteps⟩
  · exact Or.inl ⟨v, vm₁, B, X₁.warmed, X', hpost, fun target h => hstep₁ _ fun acts => by rw [doInvoke_state]; exact hsteps.trans h⟩
  · exact Or.inr ⟨q, vm₁, B, X₁.warmed, X', hpost, hstep₁ _ fun acts => by rw [doInvoke_state]; exact hsteps⟩
theorem vx_callVW (X : Stand p l e R s m args below meth c T locs cells slots) (hexec : p.tables.exec = Jvm.exec) {own C : String} {index : Nat} {y : MethodName} {bytes : ByteArray} {maxL : Nat} {ret : Option FieldType} {hh : List (Nat × Nat × Nat × Nat)}
    (hown : s.vm.findClass own = some m.cls) (hlink : (Cond.methodLink own index y).before args s = true) (hinst : (Cond.instanceMethod y).before args s = true) (hsel : (Cond.selects C y y).before args s = true)
    (hcode : (Cond.codeWith y bytes maxL ret hh).before args s = true) (hy : y.cls ≠ "java/lang/invoke/MethodHandle" ∧ y.cls ≠ "java/lang/invoke/VarHandle")
    {W9 : Nat} {Pre : Pt → Array Value → Prop} {Post : Pt → Array Value → Option Value → Pt → Prop} (hK : Back l R p e below s args y 3 W9 Pre Post)
    {b : Addr} {cellB : Cell} (hcell : T.heap[b]? = some cellB) (hobj : cellB.vm.isStatics = false) (hcls : s.vm.findClass C = some cellB.cls)
    {g : JFrame} (hg : g.method = m) (hsize : g.locals.size = c.maxLocals) {argsL rest : List Value} (hlen : ∀ sig, parseMethodDescriptor y.desc = some sig → argsL.length = sig.parameters.length)
    (hstack : g.stack = argsL.reverse ++ .ref b :: rest) (hW : 2 * g.monitorRoom + (rest.map fun v => v.category).sum ≤ W9) (hdg : decode c.code g.pc = .ok (.invokevirtual index, 3))
    (hpre : ∀ vm₁, s.WarmedH vm₁ → Pre ⟨T.setVm vm₁, locs, cells, slots⟩ (Value.ref b :: argsL).toArray) :
    ∃ (v : Option Value) (vm₁ : Vm) (B : Pt), s.WarmedH vm₁ ∧ Stand p l e R s m args below meth c B.U B.locs B.cells B.slots ∧ Post ⟨T.setVm vm₁, locs, cells, slots⟩ (Value.ref b :: argsL).toArray v B ∧
      ∀ target, Steps p.tables e below (B.U.setTop { g with pc := g.pc + 3, stack := v.toList ++ rest }) target → Steps p.tables e below (T.setTop g) target := by
  obtain ⟨mk, methM, hnamed, hmethM, hstM, habM⟩ := Cond.instanceMethod_spec hinst
  obtain ⟨m8, methM', cM, hn8, hmethM', -, -, -, -, -, -, hsigM⟩ := Cond.codeWith_spec hcode
  cases Option.some.inj (hn8.symm.trans hnamed)
  cases hmethM.symm.trans hmethM'
  obtain ⟨c2, r2, m2, q1, q2, q3, q4, kP, hkP, hkPi⟩ := Cond.selects_spec hsel
  cases hcls.symm.trans q1
  cases (State.methodFound?_of_named hnamed hy).symm.trans q2
  cases hnamed.symm.trans q3
  have hselP : selectMethod e.platform s.vm cellB.cls mk = .method mk := by rw [Launch.admits_selectMethod X.admits]; exact q4
  obtain ⟨vm₁, X₁, hstep₁⟩ := X.invokevirtual hexec hown hlink hnamed hmethM hstM hkP hkPi hy (a := b) (cell := cellB) hcell
    (fun z h => by rw [h] at hobj; cases hobj) hselP hmethM habM hkP hkPi (g := g) hg (argsL := argsL) (rest := rest) (hlen _ hsigM) hstack hdg
  obtain ⟨v, B, X', hpost, hsteps⟩ := hK m meth c ⟨T.setVm vm₁, locs, cells, slots⟩ { g with stack := rest } (.invokevirtual index) mk (Value.ref b :: argsL).toArray X₁ hg hsize hdg hW (X₁.named hnamed) (hpre vm₁ X₁.warmed)
  exact ⟨v, vm₁, B, X₁.warmed, X', hpost, fun target h => hstep₁ _ fun acts => by rw [doInvoke_state]; exact hsteps.trans h⟩
abbrev vx_CVW (R : Room) (s : State) (args : Array Value) (own C : String) (index : Nat) (y : MethodName) (bytes : ByteArray) (maxL : Nat) (ret : Option FieldType) (hh : List (Nat × Nat × Nat × Nat)) (ws : List Cond) (rm : Room) (mc ms n : Nat) : Prop :=
  (rm.cells = mc ∧ rm.slots = ms ∧ rm.frames + 1 ≤ R.frames ∧ 8 + (maxL + 11) + rm.locals ≤ R.locals ∧ (∀ w ∈ ws, ∀ (a' : Array Value) (U : State), s.WarmedH U.vm → w.before a' U = true) ∧ Cond.codeWith y bytes maxL ret hh ∈ ws) ∧
  (Cond.codeWith y bytes maxL ret hh).before args s = true ∧ (Cond.initialized y.cls).before args s = true ∧ (y.cls ≠ "java/lang/invoke/MethodHandle" ∧ y.cls ≠ "java/lang/invoke/VarHandle") ∧
  (∀ sig, parseMethodDescriptor y.desc = some sig → n = sig.parameters.length) ∧ (Cond.methodLink own index y).before args s = true ∧ (Cond.instanceMethod y).before args s = true ∧ (Cond.selects C y y).before args s = true
theorem vx_cwVW {own C : String} {index maxL mc ms : Nat} {y : MethodName} {bytes : ByteArray} {ret : Option FieldType} {hh : List (Nat × Nat × Nat × Nat)} {Ts ws ws' : List Cond} {rm : Room} (n : Nat) (ht : ∀ w ∈ Ts, w.before args s = true) (hT : GoodIn Ts (wsV own index C y ws)) (hw : ws = Cond.codeWith y bytes maxL ret hh :: ws') (hrc : rm.cells = mc) (hrs : rm.slots = ms)
    (hd : y.cls = C ∧ y.cls ≠ "java/lang/invoke/MethodHandle" ∧ y.cls ≠ "java/lang/invoke/VarHandle" ∧ (parseMethodDescriptor y.desc).map (fun d => d.parameters.length) = some n) (hR : rm.frames + 1 ≤ R.frames ∧ 8 + (maxL + 11) + rm.locals ≤ R.locals) :
    vx_CVW R s args own C index y bytes maxL ret hh ws rm mc ms n := by
  obtain ⟨hC, hd⟩ := hd
  subst hC
  have ok : ∀ w ∈ wsV own index y.cls y ws, w.before args s = true := fun w h => ht w (hT w h).1
  have hG : GoodIn Ts ws := fun w h => hT w (by unfold wsV; exact List.mem_append_right _ h)
  have hc : Cond.codeWith y bytes maxL ret hh ∈ ws := by rw [hw]; exact List.mem_cons_self
  refine ⟨⟨hrc, hrs, hR.1, hR.2, pay_in ht hG, hc⟩, ht _ (hG _ hc).1, ok _ (by simp [wsV]), ⟨hd.1, hd.2.1⟩, fun sig h => ?_, ok _ (by simp [wsV]), ok _ (by simp [wsV]), ok _ (by simp [wsV])⟩
  have h2 := hd.2.2
  rw [h] at h2
  exact (Option.some.inj h2).symm
theorem vx_runVW {y : MethodName} {bytes cc : ByteArray} {maxL nL mc ms n index : Nat} {ret : Option FieldType} {hh : List (Nat × Nat × Nat × Nat)} {ws : List Cond} {rm : Room} {Pc : Array Value → State → Prop} {Qc : Array Value → State → Outcome → State → Prop} {free : Addr → Prop} {Ts : List Cond} {own C : String} {b : Addr} {As rest : List Value} {g : JFrame}
    (S : CallFix p m c cc nL s args Ts own) (hM : Met l y ws rm Pc Qc mc ms free) (cw : vx_CVW R s args own C index y bytes maxL ret hh ws rm mc ms n) (hp : PreV s H C b Pc As)
    (hg : g.method = m) (hn : As.length = n) (hsize : g.locals.size = nL) (hstack : g.stack = As.reverse ++ .ref b :: rest) (hW : 2 * g.monitorRoom + (rest.map fun v => v.category).sum ≤ 8) (hdg : decode cc g.pc = .ok (.invokevirtual index, 3)) (hf : cells + mc ≤ R.cells ∧ slots + ms ≤ R.slots) :
    va_Run p l e R s m args below meth c H locs cells slots mc ms g rest (Qc (Value.ref b :: As).toArray) free := by
  obtain ⟨⟨hrc, hrs, hfr, hlo, hws, hcw⟩, hcode, hini, hy, hlen, hl, hin, hse⟩ := cw
  have hK : Back l R p e below s args y 3 8 (PreOf R mc ms Pc) (PostOf Qc mc ms free) := va_backW (hh := hh) (bytes := bytes) (maxL := maxL) (ret := ret) hM hp.1 hrc hrs hfr hlo hws hcw (fun a' U hW => word_at hW (Or.inl (by first | rfl | simp [Cond.onTables, Cond.keeps, Cond.steady])) hini)
  obtain ⟨hx, hb, hml, ho, -⟩ := S
  obtain ⟨-, ⟨cellB, hcB, hoB, hclB⟩, hPc⟩ := hp
  intro T hT X
  obtain ⟨v, vm₁, ⟨U', l2, c2, s2⟩, hW₁, X', ⟨g', mk, t, L, e1, e2, hq, h1, hL, h2, h3⟩, st⟩ := vx_callVW X hx (C := C) (hh := hh) (bytes := bytes) (maxL := maxL) (ret := ret) ho hl hin hse hcode hy hK (by rw [hT]; exact hcB) hoB hclB hg (hsize.trans hml.symm) (argsL := As) (rest := rest) (fun sig h => hn.trans (hlen sig h)) hstack hW (by rw [hb]; exact hdg)
    (fun vm₁ hW₁ => ⟨hf.1, hf.2, hPc (T.setVm vm₁) hT hW₁⟩)
  dsimp only [Pt.U, Pt.locs, Pt.cells, Pt.slots] at X' e1 e2 h1 h2 h3 st
  subst h1; subst h2; subst h3
  exact ⟨v, (T.setVm vm₁).calling g' mk (Value.ref b :: As).toArray, t, U', L, hT, X', hL, e1, e2, hq, st⟩
section
variable {y : MethodName} {bytes cc : ByteArray} {maxL nL mc ms n index : Nat} {ret : Option FieldType} {ws : List Cond} {rm : Room} {Pc : Array Value → State → Prop} {Qc : Array Value → State → Outcome → State → Prop} {XC : String → State → State → Prop} {free : Addr → Prop} {Ts : List Cond} {own C : String} {b : Addr} {As rest : List Value} {g : JFrame}
theorem vx_runVX {hh : List (Nat × Nat × Nat × Nat)} (S : CallFix p m c cc nL s args Ts own) (hM : vx_Met l y ws rm Pc Qc XC mc ms free) (cw : vx_CVW R s args own C index y bytes maxL ret hh ws rm mc ms n) (hp : PreV s H C b Pc As)
    (hg : g.method = m) (hn : As.length = n) (hsize : g.locals.size = nL) (hstack : g.stack = As.reverse ++ .ref b :: rest) (hW : 2 * g.monitorRoom + (rest.map fun v => v.category).sum ≤ 8) (hdg : decode cc g.pc = .ok (.invokevirtual index, 3)) (hf : cells + mc ≤ R.cells ∧ slots + ms ≤ R.slots) :
    vx_Run p l e R s m args below meth c H locs cells slots mc ms g rest (Qc (Value.ref b :: As).toArray) XC free := by
  obtain ⟨⟨hrc, hrs, hfr, hlo, hws, hcw⟩, hcode, hini, hy, hlen, hl, hin, hse⟩ := cw
  have hK : vx_Back l R p e below s args y 3 8 (PreOf R mc ms Pc) (PostOf Qc mc ms free) (vx_Post XC mc ms free) := vx_backW (hh := hh) (bytes := bytes) (maxL := maxL) (ret := ret) hM hp.1 hrc hrs hfr hlo hws hcw (fun a' U hW => word_at hW (Or.inl (by first | rfl | simp [Cond.onTables, Cond.keeps, Cond.steady])) hini)
  obtain ⟨hx, hb, hml, ho, -⟩ := S
  obtain ⟨-, ⟨cellB, hcB, hoB, hclB⟩, hPc⟩ := hp
  intro T hT X
  rcases vx_callVX X hx (C := C) (hh := hh) (bytes := bytes) (maxL := maxL) (ret := ret) ho hl hin hse hcode hy hK (by rw [hT]; exact hcB) hoB hclB hg (hsize.trans hml.symm) (argsL := As) (rest := rest) (fun sig h => hn.trans (hlen sig h)) hstack hW (by rw [hb]; exact hdg)
    (fun vm₁ hW₁ => ⟨hf.1, hf.2, hPc (T.setVm vm₁) hT hW₁⟩) with ⟨v, vm₁, ⟨U', l2, c2, s2⟩, hW₁, X', ⟨g', mk, t, L, e1, e2, hq, h1, hL, h2, h3⟩, st⟩ | ⟨q, vm₁, ⟨U', l2, c2, s2⟩, hW₁, X', ⟨g', mk, t, L, E, ce, e1, e2, hq, hce, hcv, hcl, h1, hL, h2, h3⟩, st⟩
  · dsimp only [Pt.U, Pt.locs, Pt.cells, Pt.slots] at X' e1 e2 h1 h2 h3 st
    subst h1; subst h2; subst h3
    exact Or.inl ⟨v, (T.setVm vm₁).calling g' mk (Value.ref b :: As).toArray, t, U', L, hT, X', hL, e1, e2, hq, st⟩
  · dsimp only [Pt.U, Pt.locs, Pt.cells, Pt.slots] at X' e1 e2 h1 h2 h3 st hcl
    subst h1; subst h2; subst h3
    exact Or.inr ⟨q, (T.setVm vm₁).calling g' mk (Value.ref b :: As).toArray, t, U', L, E, ce, hT, X', hL, e1, e2, hq, hce, hcv, vx_cls hW₁ hcl, st⟩
theorem vx_runSX {hh : List (Nat × Nat × Nat × Nat)} (S : CallFix p m c cc nL s args Ts own) (hM : vx_Met l y ws rm Pc Qc XC mc ms free) (cw : vx_CSW R s args own index y bytes maxL ret hh ws rm mc ms n) (hp : PreS s H Pc As)
    (hg : g.method = m) (hn : As.length = n) (hsize : g.locals.size = nL) (hstack : g.stack = As.reverse ++ rest) (hW : 2 * g.monitorRoom + (rest.map fun v => v.category).sum ≤ 8) (hdg : decode cc g.pc = .ok (.invokestatic index, 3)) (hf : cells + mc ≤ R.cells ∧ slots + ms ≤ R.slots) :
    vx_Run p l e R s m args below meth c H locs cells slots mc ms g rest (Qc As.toArray) XC free := by
  obtain ⟨⟨hrc, hrs, hfr, hlo, hws, hcw⟩, hcode, hini, hy, hlen, hl, hstt⟩ := cw
  have hK : vx_Back l R p e below s args y 3 8 (PreOf R mc ms Pc) (PostOf Qc mc ms free) (vx_Post XC mc ms free) := vx_backW (hh := hh) (bytes := bytes) (maxL := maxL) (ret := ret) hM hp.1 hrc hrs hfr hlo hws hcw (fun a' U hW => word_at hW (Or.inl (by first | rfl | simp [Cond.onTables, Cond.keeps, Cond.steady])) hini)
  obtain ⟨hx, hb, hml, ho, -⟩ := S
  intro T hT X
  rcases vx_callSX X hx (hh := hh) (bytes := bytes) (maxL := maxL) (ret := ret) ho hl hstt hini hcode hy hK hg (hsize.trans hml.symm) (argsL := As) (rest := rest) (fun sig h => hn.trans (hlen sig h)) hstack hW (by rw [hb]; exact hdg)
    (fun vm₁ hW₁ => ⟨hf.1, hf.2, hp.2 (T.setVm vm₁) hT hW₁⟩) with ⟨v, vm₁, ⟨U', l2, c2, s2⟩, hW₁, X', ⟨g', mk, t, L, e1, e2, hq, h1, hL, h2, h3⟩, st⟩ | ⟨q, vm₁, ⟨U', l2, c2, s2⟩, hW₁, X', ⟨g', mk, t, L, E, ce, e1, e2, hq, hce, hcv, hcl, h1, hL, h2, h3⟩, st⟩
  · dsimp only [Pt.U, Pt.locs, Pt.cells, Pt.slots] at X' e1 e2 h1 h2 h3 st
    subst h1; subst h2; subst h3
    exact Or.inl ⟨v, (T.setVm vm₁).calling g' mk As.toArray, t, U', L, hT, X', hL, e1, e2, hq, st⟩
  · dsimp only [Pt.U, Pt.locs, Pt.cells, Pt.slots] at X' e1 e2 h1 h2 h3 st hcl
    subst h1; subst h2; subst h3
    exact Or.inr ⟨q, (T.setVm vm₁).calling g' mk As.toArray, t, U', L, E, ce, hT, X', hL, e1, e2, hq, hce, hcv, vx_cls hW₁ hcl, st⟩
end
end VXH
theorem vx_ofWH {l : Launch} {y : MethodName} {ws ws' : List Cond} {rm : Room} {Pc : Array Value → State → Prop} {Qc : Array Value → State → Outcome → State → Prop} {XC : String → State → State → Prop} {mc ms : Nat} {free : Addr → Prop} {cc : ByteArray} {maxL : Nat} {ret : Option FieldType} {hh : List (Nat × Nat × Nat × Nat)}
    (hy : plainName y.cls = true) (hw : ws = Cond.codeWith y cc maxL ret hh :: ws')
    (body : ∀ p e s m args below meth c s₁, BodyLoose p l y (headSpec ws rm) cc maxL ret e s m args below meth c s₁ → c.maxLocals = maxL → Pc args s →
      W p l e (headSpec ws rm).room s m args below meth c s.heap [] 0 0 (vx_MQ below Qc XC args s mc ms free) (entryFrame m args maxL)) : vx_Met l y ws rm Pc Qc XC mc ms free := by
  refine MetFree.of_bodyS (code := cc) (maxLocals := maxL) (ret := ret) hy ?_ ?_
  · intro args s m h hn
    obtain ⟨m9, meth, c, hn9, h1, h2, h3, h4, -, h5, h6, -⟩ := Cond.codeWith_spec (atoms_spec (ws := ws) h _ (by rw [hw]; exact List.mem_cons_self))
    cases hn.symm.trans hn9
    exact ⟨meth, c, h1, h2, h3, h4, h5, h6⟩
  · intro p e s m args below meth c s₁ B hml hP _
    have hh0 : s₁.heap = s.heap := by rw [B.state]; rfl
    obtain ⟨t, a1, o, b1, b2, b3⟩ := body p e s m args below meth c s₁ B hml hP s₁ hh0 (Stand.of_body B)
    exact ⟨t, o, a1, b1, b2, b3⟩
/-! ===== END ===== -/
end
section
/-! the walk over whole numbers: an int is iI z, a long is lI z, for a whole number z -/
def iI (z : Int) : Int32 := Int32.ofInt z
def lI (z : Int) : Int64 := Int64.ofInt z
abbrev iR (z : Int) : Prop := -2147483648 ≤ z ∧ z ≤ 2147483647
abbrev lR (z : Int) : Prop := -9223372036854775808 ≤ z ∧ z ≤ 9223372036854775807
theorem iI_toInt {z : Int} (h : iR z) : (iI z).toInt = z := Int32.toInt_ofInt_of_le (by omega) (by omega)
theorem lI_toInt {z : Int} (h : lR z) : (lI z).toInt = z := Int64.toInt_ofInt_of_le (by omega) (by omega)
theorem iI_eq {a b : Int} (ha : iR a) (hb : iR b) : iI a = iI b ↔ a = b := by rw [← Int32.toInt_inj, iI_toInt ha, iI_toInt hb]
theorem iI_lt {a b : Int} (ha : iR a) (hb : iR b) : iI a < iI b ↔ a < b := by rw [Int32.lt_iff_toInt_lt, iI_toInt ha, iI_toInt hb]
theorem iI_le {a b : Int} (ha : iR a) (hb : iR b) : iI a ≤ iI b ↔ a ≤ b := by rw [Int32.le_iff_toInt_le, iI_toInt ha, iI_toInt hb]
theorem lI_eq {a b : Int} (ha : lR a) (hb : lR b) : lI a = lI b ↔ a = b := by rw [← Int64.toInt_inj, lI_toInt ha, lI_toInt hb]
theorem lI_lt {a b : Int} (ha : lR a) (hb : lR b) : lI a < lI b ↔ a < b := by rw [Int64.lt_iff_toInt_lt, lI_toInt ha, lI_toInt hb]
theorem lI_le {a b : Int} (ha : lR a) (hb : lR b) : lI a ≤ lI b ↔ a ≤ b := by rw [Int64.le_iff_toInt_le, lI_toInt ha, lI_toInt hb]
theorem iI_0 : iI 0 = 0 := by decide
theorem iI_add (a b : Int) : iI a + iI b = iI (a + b) := (Int32.ofInt_add a b).symm
theorem iI_sub (a b : Int) : iI a - iI b = iI (a - b) := (Int32.ofInt_sub a b).symm
theorem iI_mul (a b : Int) : iI a * iI b = iI (a * b) := (Int32.ofInt_mul a b).symm
theorem iI_neg (a : Int) : -iI a = iI (-a) := (Int32.ofInt_neg a).symm
theorem lI_add (a b : Int) : lI a + lI b = lI (a + b) := (Int64.ofInt_add a b).symm
theorem lI_sub (a b : Int) : lI a - lI b = lI (a - b) := (Int64.ofInt_sub a b).symm
theorem lI_mul (a b : Int) : lI a * lI b = lI (a * b) := (Int64.ofInt_mul a b).symm
theorem lI_neg (a : Int) : -lI a = lI (-a) := (Int64.ofInt_neg a).symm
theorem iI_long {a : Int} (h : iR a) : (iI a).toInt64 = lI a := Int64.toInt_inj.mp (by rw [Int32.toInt_toInt64, iI_toInt h, lI_toInt ⟨by omega, by omega⟩])
theorem lI_int (a : Int) : (lI a).toInt32 = iI a := Int64.toInt32_ofInt
theorem lI_ne0 {b : Int} (h : 0 < b) (hb : lR b) : ¬ lI b = 0 := fun q => by
  have h1 := (lI_eq hb (show lR 0 by omega)).mp q
  omega
theorem lI_div {a b : Int} (ha : 0 ≤ a) (hra : lR a) (hb : 0 < b) (hrb : lR b) : lI a / lI b = lI (a / b) := by
  rw [← Int64.toInt_inj, Int64.toInt_div_of_ne_right _ _ (fun q => by
    have h1 := (lI_eq hrb (show lR (-1) by omega)).mp q
    omega), lI_toInt hra, lI_toInt hrb, Int.tdiv_eq_ediv_of_nonneg ha]
  have h1 : 0 ≤ a / b := Int.ediv_nonneg ha (by omega)
  have h2 : a / b ≤ a := Int.ediv_le_self b ha
  rw [lI_toInt ⟨by omega, by omega⟩]
theorem lI_mod {a b : Int} (ha : 0 ≤ a) (hra : lR a) (hb : 0 < b) (hrb : lR b) : lI a - lI a / lI b * lI b = lI (a % b) := by
  rw [lI_div ha hra hb hrb, lI_mul, lI_sub]
  have h1 := Int.emod_add_mul_ediv a b
  have h2 : a / b * b = b * (a / b) := Int.mul_comm _ _
  congr 1
  omega
theorem iI_nat {z : Int} {k : Nat} (hk : (k : Int) = z) (h : k ≤ 2147483647) : (iI z).toNatClampNeg = k := by
  rw [← Int32.toNat_toInt, iI_toInt ⟨by omega, by omega⟩]
  omega
theorem iI_in {z : Int} {k n : Nat} (hk : (k : Int) = z) (h : k < n) (hn : n ≤ 2147483647) : vp_in (iI z) n := by
  rintro (q | q)
  · rw [← iI_0, iI_lt ⟨by omega, by omega⟩ ⟨by omega, by omega⟩] at q
    omega
  · rw [iI_nat hk (by omega)] at q
    omega
abbrev iA (f : Nat → Int) : Nat → Int32 := fun j => iI (f j)
abbrev lA (f : Nat → Int) : Nat → Int64 := fun j => lI (f j)
theorem iA_up (f : Nat → Int) {k k2 : Nat} (v : Int) (h : k2 = k) : upd (iA f) k2 (iI v) = iA (va_up f k v) := by
  subst h
  funext j
  simp only [upd, va_up, iA]
  split <;> rfl
theorem lA_up (f : Nat → Int) {k k2 : Nat} (v : Int) (h : k2 = k) : vp_updL (lA f) k2 (lI v) = lA (va_up f k v) := by
  subst h
  funext j
  simp only [vp_updL, va_up, lA]
  split <;> rfl
theorem iI_bool {v : Int} (h : v = 0 ∨ v = 1) : vp_nar .boolean (iI v) = iI v := by
  rcases h with rfl | rfl <;> decide
theorem iI_narrow {v : Int} (h : v = 0 ∨ v = 1) : narrow .boolean (.int (iI v)) = .int (iI v) := by
  rcases h with rfl | rfl <;> decide
/-- what the calls ask of the launch beside good words: any such predicate -/
def jj_EV (EV : (Nat → Prop) → State → Heap → Prop) : Prop :=
  (∀ (A : Nat → Prop) (U : State) (H H1 : Heap), EV A U H → (∀ a : Nat, a < H.size → ¬ A a → H1[a]? = H[a]?) → EV A U H1) ∧
  (∀ (A B : Nat → Prop) (U : State) (H : Heap), EV A U H → (∀ q, B q → A q) → EV B U H) ∧
  (∀ (A : Nat → Prop) (s U : State) (H : Heap), s.WarmedH U.vm → EV A s H → EV A U H) ∧
  (∀ (A : Nat → Prop) (u U : State) (H : Heap), u.vm = U.vm → EV A u H → EV A U H)
/-- what a walk knows all along -/
abbrev jj_C (p : Program) (s : State) (m : MethodId) (args : Array Value) (meth : Method) (c : Code) (D : va_G) (cl : List vw_C) (A : Nat → Prop) (nL : Nat) (cc : ByteArray) (own : String) (Ts : List Cond) (tys : List (ClassId × FieldType)) (EV : (Nat → Prop) → State → Heap → Prop) : Prop :=
  p.tables.exec = Jvm.exec ∧ c.code = cc ∧ c.maxLocals = nL ∧ s.vm.findClass own = some m.cls ∧ (∀ w ∈ Ts, w.before args s = true) ∧ va_K D cl tys s ∧ (∀ q, s.heap.size ≤ q → A q) ∧ EV A s s.heap ∧ jj_EV EV ∧ meth.locks = false
/-- at pc, with the locals lv, the stack st and the world ws, whatever heap holds it: a state with Q is reached -/
def jj_W (p : Program) (l : Launch) (e : Env) (R : Room) (s : State) (m : MethodId) (args : Array Value) (below : List Frame) (meth : Method) (c : Code) (D : va_G) (cl : List vw_C) (A : Nat → Prop) (nL cells slots : Nat) (Q : State → Prop) (pc : Nat) (lv : List (Nat × Value)) (st : List Value) (ws : va_W) : Prop :=
  ∀ (H : Heap) (locs : List Loc) (ls : Array Slot), va_P D cl ws H → va_D A ws → va_S A s.heap H locs → lv_has ls nL lv → W p l e R s m args below meth c H locs cells slots Q (F0 m pc ls st)
section JJW
variable {p : Program} {l : Launch} {e : Env} {R : Room} {s : State} {m : MethodId} {args : Array Value} {below : List Frame} {meth : Method} {c : Code} {D : va_G} {cl : List vw_C} {A : Nat → Prop} {nL cells slots : Nat} {Q : State → Prop} {cc : ByteArray} {pc : Nat} {rest : List Value} {lv : List (Nat × Value)} {ws : va_W} {own : String} {Ts : List Cond} {tys : List (ClassId × FieldType)} {EV : (Nat → Prop) → State → Heap → Prop}

theorem jj_iconst (C0 : jj_C p s m args meth c D cl A nL cc own Ts tys EV) {n : Int} (hdg : decode cc pc = .ok (.iconst n, 1)) (kk : jj_W p l e R s m args below meth c D cl A nL cells slots Q (pc + 1) (lv) (.int (iI n) :: rest) (ws)) : jj_W p l e R s m args below meth c D cl A nL cells slots Q (pc) (lv) (rest) (ws) :=
  fun H locs ls hP hD hS hl => lv_iconst C0.1 C0.2.1 hdg rfl (kk H locs ls hP hD hS hl)
theorem jj_bipush (C0 : jj_C p s m args meth c D cl A nL cc own Ts tys EV) {n : Int} (hdg : decode cc pc = .ok (.bipush n, 2)) (hv : (Int8.ofInt n).toInt32 = iI n) (kk : jj_W p l e R s m args below meth c D cl A nL cells slots Q (pc + 2) (lv) (.int (iI n) :: rest) (ws)) : jj_W p l e R s m args below meth c D cl A nL cells slots Q (pc) (lv) (rest) (ws) :=
  fun H locs ls hP hD hS hl => lv_bipush C0.1 C0.2.1 hdg hv (kk H locs ls hP hD hS hl)
theorem jj_sipush (C0 : jj_C p s m args meth c D cl A nL cc own Ts tys EV) {n : Int} (hdg : decode cc pc = .ok (.sipush n, 3)) (hv : (Int16.ofInt n).toInt32 = iI n) (kk : jj_W p l e R s m args below meth c D cl A nL cells slots Q (pc + 3) (lv) (.int (iI n) :: rest) (ws)) : jj_W p l e R s m args below meth c D cl A nL cells slots Q (pc) (lv) (rest) (ws) :=
  fun H locs ls hP hD hS hl => lv_sipush C0.1 C0.2.1 hdg hv (kk H locs ls hP hD hS hl)
theorem jj_ldc (C0 : jj_C p s m args meth c D cl A nL cc own Ts tys EV) {index : Nat} {v : Int32} {z : Int} (hz : v = iI z) (hconst : (Jvm.Cond.constant own index v).before args s = true) (hdg : decode cc pc = .ok (.ldc index, 2)) (kk : jj_W p l e R s m args below meth c D cl A nL cells slots Q (pc + 2) (lv) (.int (iI z) :: rest) (ws)) : jj_W p l e R s m args below meth c D cl A nL cells slots Q (pc) (lv) (rest) (ws) :=
  fun H locs ls hP hD hS hl => lv_ldc C0.1 C0.2.1 C0.2.2.2.1 hconst hdg (by subst hz; exact kk H locs ls hP hD hS hl)
theorem jj_ldc2 (C0 : jj_C p s m args meth c D cl A nL cc own Ts tys EV) {index : Nat} {v : Int64} {z : Int} (hz : v = lI z) (hconst : (Jvm.Cond.constantLong own index v).before args s = true) (hdg : decode cc pc = .ok (.ldc2_w index, 3)) (kk : jj_W p l e R s m args below meth c D cl A nL cells slots Q (pc + 3) (lv) (.long (lI z) :: rest) (ws)) : jj_W p l e R s m args below meth c D cl A nL cells slots Q (pc) (lv) (rest) (ws) :=
  fun H locs ls hP hD hS hl => lv_ldc2 C0.1 C0.2.1 C0.2.2.2.1 hconst hdg (by subst hz; exact kk H locs ls hP hD hS hl)
theorem jj_lconst (C0 : jj_C p s m args meth c D cl A nL cc own Ts tys EV) {n : Fin 2} {z : Int} (hz : Int64.ofNat (n : Nat) = lI z) (hdg : decode cc pc = .ok (.lconst n, 1)) (kk : jj_W p l e R s m args below meth c D cl A nL cells slots Q (pc + 1) (lv) (.long (lI z) :: rest) (ws)) : jj_W p l e R s m args below meth c D cl A nL cells slots Q (pc) (lv) (rest) (ws) :=
  fun H locs ls hP hD hS hl => lv_lconst C0.1 C0.2.1 hdg hz (kk H locs ls hP hD hS hl)
theorem jj_anull (C0 : jj_C p s m args meth c D cl A nL cc own Ts tys EV) (hdg : decode cc pc = .ok (.aconst_null, 1)) (kk : jj_W p l e R s m args below meth c D cl A nL cells slots Q (pc + 1) (lv) (.null :: rest) (ws)) : jj_W p l e R s m args below meth c D cl A nL cells slots Q (pc) (lv) (rest) (ws) :=
  fun H locs ls hP hD hS hl => lv_null C0.1 C0.2.1 hdg (kk H locs ls hP hD hS hl)
theorem jj_iload_n (C0 : jj_C p s m args meth c D cl A nL cc own Ts tys EV) {k : Fin 4} (j : Nat) {x : Int32} (hk : lv[j]? = some ((k : Nat), .int x)) (hdg : decode cc pc = .ok (.iload_n k, 1)) (kk : jj_W p l e R s m args below meth c D cl A nL cells slots Q (pc + 1) (lv) (.int x :: rest) (ws)) : jj_W p l e R s m args below meth c D cl A nL cells slots Q (pc) (lv) (rest) (ws) :=
  fun H locs ls hP hD hS hl => lv_iload_n C0.1 C0.2.1 hdg rfl (lv_at hl j hk) (kk H locs ls hP hD hS hl)
theorem jj_iload (C0 : jj_C p s m args meth c D cl A nL cc own Ts tys EV) {i : Nat} (j : Nat) {x : Int32} (hk : lv[j]? = some (i, .int x)) (hdg : decode cc pc = .ok (.iload i, 2)) (kk : jj_W p l e R s m args below meth c D cl A nL cells slots Q (pc + 2) (lv) (.int x :: rest) (ws)) : jj_W p l e R s m args below meth c D cl A nL cells slots Q (pc) (lv) (rest) (ws) :=
  fun H locs ls hP hD hS hl => lv_iload C0.1 C0.2.1 hdg (lv_at hl j hk) (kk H locs ls hP hD hS hl)
theorem jj_istore_n (C0 : jj_C p s m args meth c D cl A nL cc own Ts tys EV) {k : Fin 4} {i : Nat} (hi : (k : Nat) = i) {x : Int32} {lv' : List (Nat × Value)} (hn : i < nL) (hlv : (i, Value.int x) :: lv.filter (fun q => !(q.1 == i) && !(q.1 + 1 == i && q.2.category == 2)) = lv') (hdg : decode cc pc = .ok (.istore_n k, 1)) (kk : jj_W p l e R s m args below meth c D cl A nL cells slots Q (pc + 1) (lv') (rest) (ws)) : jj_W p l e R s m args below meth c D cl A nL cells slots Q (pc) (lv) (.int x :: rest) (ws) :=
  fun H locs ls hP hD hS hl => lv_istore_n C0.1 C0.2.1 hdg hi hl hn hlv (fun ls2 hl2 => kk H locs ls2 hP hD hS hl2)
theorem jj_istore (C0 : jj_C p s m args meth c D cl A nL cc own Ts tys EV) {i : Nat} {x : Int32} {lv' : List (Nat × Value)} (hn : i < nL) (hlv : (i, Value.int x) :: lv.filter (fun q => !(q.1 == i) && !(q.1 + 1 == i && q.2.category == 2)) = lv') (hdg : decode cc pc = .ok (.istore i, 2)) (kk : jj_W p l e R s m args below meth c D cl A nL cells slots Q (pc + 2) (lv') (rest) (ws)) : jj_W p l e R s m args below meth c D cl A nL cells slots Q (pc) (lv) (.int x :: rest) (ws) :=
  fun H locs ls hP hD hS hl => lv_istore C0.1 C0.2.1 hdg hl hn hlv (fun ls2 hl2 => kk H locs ls2 hP hD hS hl2)
theorem jj_lload_n (C0 : jj_C p s m args meth c D cl A nL cc own Ts tys EV) {k : Fin 4} (j : Nat) {x : Int64} (hk : lv[j]? = some ((k : Nat), .long x)) (hdg : decode cc pc = .ok (.lload_n k, 1)) (kk : jj_W p l e R s m args below meth c D cl A nL cells slots Q (pc + 1) (lv) (.long x :: rest) (ws)) : jj_W p l e R s m args below meth c D cl A nL cells slots Q (pc) (lv) (rest) (ws) :=
  fun H locs ls hP hD hS hl => lv_lload_n C0.1 C0.2.1 hdg rfl (lv_at hl j hk) (kk H locs ls hP hD hS hl)
theorem jj_lload (C0 : jj_C p s m args meth c D cl A nL cc own Ts tys EV) {i : Nat} (j : Nat) {x : Int64} (hk : lv[j]? = some (i, .long x)) (hdg : decode cc pc = .ok (.lload i, 2)) (kk : jj_W p l e R s m args below meth c D cl A nL cells slots Q (pc + 2) (lv) (.long x :: rest) (ws)) : jj_W p l e R s m args below meth c D cl A nL cells slots Q (pc) (lv) (rest) (ws) :=
  fun H locs ls hP hD hS hl => lv_lload C0.1 C0.2.1 hdg (lv_at hl j hk) (kk H locs ls hP hD hS hl)
theorem jj_lstore_n (C0 : jj_C p s m args meth c D cl A nL cc own Ts tys EV) {k : Fin 4} {i : Nat} (hi : (k : Nat) = i) {x : Int64} {lv' : List (Nat × Value)} (hn : i + 1 < nL) (hlv : (i, Value.long x) :: lv.filter (fun q => !(q.1 == i) && (!(q.1 == i + 1) && !(q.1 + 1 == i && q.2.category == 2))) = lv') (hdg : decode cc pc = .ok (.lstore_n k, 1)) (kk : jj_W p l e R s m args below meth c D cl A nL cells slots Q (pc + 1) (lv') (rest) (ws)) : jj_W p l e R s m args below meth c D cl A nL cells slots Q (pc) (lv) (.long x :: rest) (ws) :=
  fun H locs ls hP hD hS hl => lv_lstore_n C0.1 C0.2.1 hdg hi hl hn hlv (fun ls2 hl2 => kk H locs ls2 hP hD hS hl2)
theorem jj_lstore (C0 : jj_C p s m args meth c D cl A nL cc own Ts tys EV) {i : Nat} {x : Int64} {lv' : List (Nat × Value)} (hn : i + 1 < nL) (hlv : (i, Value.long x) :: lv.filter (fun q => !(q.1 == i) && (!(q.1 == i + 1) && !(q.1 + 1 == i && q.2.category == 2))) = lv') (hdg : decode cc pc = .ok (.lstore i, 2)) (kk : jj_W p l e R s m args below meth c D cl A nL cells slots Q (pc + 2) (lv') (rest) (ws)) : jj_W p l e R s m args below meth c D cl A nL cells slots Q (pc) (lv) (.long x :: rest) (ws) :=
  fun H locs ls hP hD hS hl => lv_lstore C0.1 C0.2.1 hdg hl hn hlv (fun ls2 hl2 => kk H locs ls2 hP hD hS hl2)
theorem jj_aload_n (C0 : jj_C p s m args meth c D cl A nL cc own Ts tys EV) {k : Fin 4} (j : Nat) {x : Nat} (hk : lv[j]? = some ((k : Nat), .ref x)) (hdg : decode cc pc = .ok (.aload_n k, 1)) (kk : jj_W p l e R s m args below meth c D cl A nL cells slots Q (pc + 1) (lv) (.ref x :: rest) (ws)) : jj_W p l e R s m args below meth c D cl A nL cells slots Q (pc) (lv) (rest) (ws) :=
  fun H locs ls hP hD hS hl => lv_aload_n C0.1 C0.2.1 hdg rfl (lv_at hl j hk) (kk H locs ls hP hD hS hl)
theorem jj_aload (C0 : jj_C p s m args meth c D cl A nL cc own Ts tys EV) {i : Nat} (j : Nat) {x : Nat} (hk : lv[j]? = some (i, .ref x)) (hdg : decode cc pc = .ok (.aload i, 2)) (kk : jj_W p l e R s m args below meth c D cl A nL cells slots Q (pc + 2) (lv) (.ref x :: rest) (ws)) : jj_W p l e R s m args below meth c D cl A nL cells slots Q (pc) (lv) (rest) (ws) :=
  fun H locs ls hP hD hS hl => lv_aload C0.1 C0.2.1 hdg (lv_at hl j hk) (kk H locs ls hP hD hS hl)
theorem jj_astore_n (C0 : jj_C p s m args meth c D cl A nL cc own Ts tys EV) {k : Fin 4} {i : Nat} (hi : (k : Nat) = i) {x : Nat} {lv' : List (Nat × Value)} (hn : i < nL) (hlv : (i, Value.ref x) :: lv.filter (fun q => !(q.1 == i) && !(q.1 + 1 == i && q.2.category == 2)) = lv') (hdg : decode cc pc = .ok (.astore_n k, 1)) (kk : jj_W p l e R s m args below meth c D cl A nL cells slots Q (pc + 1) (lv') (rest) (ws)) : jj_W p l e R s m args below meth c D cl A nL cells slots Q (pc) (lv) (.ref x :: rest) (ws) :=
  fun H locs ls hP hD hS hl => lv_astore_n C0.1 C0.2.1 hdg hi hl hn hlv (fun ls2 hl2 => kk H locs ls2 hP hD hS hl2)
theorem jj_astore (C0 : jj_C p s m args meth c D cl A nL cc own Ts tys EV) {i : Nat} {x : Nat} {lv' : List (Nat × Value)} (hn : i < nL) (hlv : (i, Value.ref x) :: lv.filter (fun q => !(q.1 == i) && !(q.1 + 1 == i && q.2.category == 2)) = lv') (hdg : decode cc pc = .ok (.astore i, 2)) (kk : jj_W p l e R s m args below meth c D cl A nL cells slots Q (pc + 2) (lv') (rest) (ws)) : jj_W p l e R s m args below meth c D cl A nL cells slots Q (pc) (lv) (.ref x :: rest) (ws) :=
  fun H locs ls hP hD hS hl => lv_astore C0.1 C0.2.1 hdg hl hn hlv (fun ls2 hl2 => kk H locs ls2 hP hD hS hl2)
theorem jj_iinc (C0 : jj_C p s m args meth c D cl A nL cc own Ts tys EV) {i : Nat} {n x z : Int} {lv' : List (Nat × Value)} (j : Nat) (hk : lv[j]? = some (i, .int (iI x))) (hz : x + n = z) (hn : i < nL) (hlv : (i, Value.int (iI z)) :: lv.filter (fun q => !(q.1 == i) && !(q.1 + 1 == i && q.2.category == 2)) = lv') (hdg : decode cc pc = .ok (.iinc i n, 3)) (kk : jj_W p l e R s m args below meth c D cl A nL cells slots Q (pc + 3) (lv') (rest) (ws)) : jj_W p l e R s m args below meth c D cl A nL cells slots Q (pc) (lv) (rest) (ws) :=
  fun H locs ls hP hD hS hl => lv_iinc C0.1 C0.2.1 hdg hl hk (by rw [← hz]; exact iI_add x n) hn hlv (fun ls2 hl2 => kk H locs ls2 hP hD hS hl2)
theorem jj_lv {lv' : List (Nat × Value)} {st : List Value} (ks : List Nat) (h : lv_pick lv ks = lv') (kk : jj_W p l e R s m args below meth c D cl A nL cells slots Q (pc) (lv') (st) (ws)) : jj_W p l e R s m args below meth c D cl A nL cells slots Q (pc) (lv) (st) (ws) :=
  fun H locs ls hP hD hS hl => kk H locs ls hP hD hS (lv_sub hl ks h)
theorem jj_ws {st : List Value} {ws' : va_W} (h : ws = ws') (kk : jj_W p l e R s m args below meth c D cl A nL cells slots Q (pc) (lv) (st) (ws')) : jj_W p l e R s m args below meth c D cl A nL cells slots Q (pc) (lv) (st) (ws) := by
  subst h; exact kk
theorem jj_iadd (C0 : jj_C p s m args meth c D cl A nL cc own Ts tys EV) {a b : Int} (hdg : decode cc pc = .ok (.iadd, 1)) (kk : jj_W p l e R s m args below meth c D cl A nL cells slots Q (pc + 1) (lv) (.int (iI (a + b)) :: rest) (ws)) : jj_W p l e R s m args below meth c D cl A nL cells slots Q (pc) (lv) (.int (iI b) :: .int (iI a) :: rest) (ws) :=
  fun H locs ls hP hD hS hl => lv_iadd C0.1 C0.2.1 hdg (by rw [iI_add]; exact kk H locs ls hP hD hS hl)
theorem jj_isub (C0 : jj_C p s m args meth c D cl A nL cc own Ts tys EV) {a b : Int} (hdg : decode cc pc = .ok (.isub, 1)) (kk : jj_W p l e R s m args below meth c D cl A nL cells slots Q (pc + 1) (lv) (.int (iI (a - b)) :: rest) (ws)) : jj_W p l e R s m args below meth c D cl A nL cells slots Q (pc) (lv) (.int (iI b) :: .int (iI a) :: rest) (ws) :=
  fun H locs ls hP hD hS hl => lv_isub C0.1 C0.2.1 hdg (by rw [iI_sub]; exact kk H locs ls hP hD hS hl)
theorem jj_imul (C0 : jj_C p s m args meth c D cl A nL cc own Ts tys EV) {a b : Int} (hdg : decode cc pc = .ok (.imul, 1)) (kk : jj_W p l e R s m args below meth c D cl A nL cells slots Q (pc + 1) (lv) (.int (iI (a * b)) :: rest) (ws)) : jj_W p l e R s m args below meth c D cl A nL cells slots Q (pc) (lv) (.int (iI b) :: .int (iI a) :: rest) (ws) :=
  fun H locs ls hP hD hS hl => lv_imul C0.1 C0.2.1 hdg (by rw [iI_mul]; exact kk H locs ls hP hD hS hl)
theorem jj_ineg (C0 : jj_C p s m args meth c D cl A nL cc own Ts tys EV) {a : Int} (hdg : decode cc pc = .ok (.ineg, 1)) (kk : jj_W p l e R s m args below meth c D cl A nL cells slots Q (pc + 1) (lv) (.int (iI (-a)) :: rest) (ws)) : jj_W p l e R s m args below meth c D cl A nL cells slots Q (pc) (lv) (.int (iI a) :: rest) (ws) :=
  fun H locs ls hP hD hS hl => lv_ineg C0.1 C0.2.1 hdg (by rw [iI_neg]; exact kk H locs ls hP hD hS hl)
theorem jj_ladd (C0 : jj_C p s m args meth c D cl A nL cc own Ts tys EV) {a b : Int} (hdg : decode cc pc = .ok (.ladd, 1)) (kk : jj_W p l e R s m args below meth c D cl A nL cells slots Q (pc + 1) (lv) (.long (lI (a + b)) :: rest) (ws)) : jj_W p l e R s m args below meth c D cl A nL cells slots Q (pc) (lv) (.long (lI b) :: .long (lI a) :: rest) (ws) :=
  fun H locs ls hP hD hS hl => lv_ladd C0.1 C0.2.1 hdg (by rw [lI_add]; exact kk H locs ls hP hD hS hl)
theorem jj_lsub (C0 : jj_C p s m args meth c D cl A nL cc own Ts tys EV) {a b : Int} (hdg : decode cc pc = .ok (.lsub, 1)) (kk : jj_W p l e R s m args below meth c D cl A nL cells slots Q (pc + 1) (lv) (.long (lI (a - b)) :: rest) (ws)) : jj_W p l e R s m args below meth c D cl A nL cells slots Q (pc) (lv) (.long (lI b) :: .long (lI a) :: rest) (ws) :=
  fun H locs ls hP hD hS hl => lv_lsub C0.1 C0.2.1 hdg (by rw [lI_sub]; exact kk H locs ls hP hD hS hl)
theorem jj_lmul (C0 : jj_C p s m args meth c D cl A nL cc own Ts tys EV) {a b : Int} (hdg : decode cc pc = .ok (.lmul, 1)) (kk : jj_W p l e R s m args below meth c D cl A nL cells slots Q (pc + 1) (lv) (.long (lI (a * b)) :: rest) (ws)) : jj_W p l e R s m args below meth c D cl A nL cells slots Q (pc) (lv) (.long (lI b) :: .long (lI a) :: rest) (ws) :=
  fun H locs ls hP hD hS hl => lv_lmul C0.1 C0.2.1 hdg (by rw [lI_mul]; exact kk H locs ls hP hD hS hl)
theorem jj_lneg (C0 : jj_C p s m args meth c D cl A nL cc own Ts tys EV) {a : Int} (hdg : decode cc pc = .ok (.lneg, 1)) (kk : jj_W p l e R s m args below meth c D cl A nL cells slots Q (pc + 1) (lv) (.long (lI (-a)) :: rest) (ws)) : jj_W p l e R s m args below meth c D cl A nL cells slots Q (pc) (lv) (.long (lI a) :: rest) (ws) :=
  fun H locs ls hP hD hS hl => lv_lneg C0.1 C0.2.1 hdg (by rw [lI_neg]; exact kk H locs ls hP hD hS hl)
theorem jj_i2l (C0 : jj_C p s m args meth c D cl A nL cc own Ts tys EV) {a : Int} (ha : iR a) (hdg : decode cc pc = .ok (.i2l, 1)) (kk : jj_W p l e R s m args below meth c D cl A nL cells slots Q (pc + 1) (lv) (.long (lI a) :: rest) (ws)) : jj_W p l e R s m args below meth c D cl A nL cells slots Q (pc) (lv) (.int (iI a) :: rest) (ws) :=
  fun H locs ls hP hD hS hl => lv_i2l C0.1 C0.2.1 hdg (iI_long ha) (kk H locs ls hP hD hS hl)
theorem jj_l2i (C0 : jj_C p s m args meth c D cl A nL cc own Ts tys EV) {a : Int} (hdg : decode cc pc = .ok (.l2i, 1)) (kk : jj_W p l e R s m args below meth c D cl A nL cells slots Q (pc + 1) (lv) (.int (iI a) :: rest) (ws)) : jj_W p l e R s m args below meth c D cl A nL cells slots Q (pc) (lv) (.long (lI a) :: rest) (ws) :=
  fun H locs ls hP hD hS hl => lv_l2i C0.1 C0.2.1 hdg (lI_int a) (kk H locs ls hP hD hS hl)
theorem jj_ldiv (C0 : jj_C p s m args meth c D cl A nL cc own Ts tys EV) {a b : Int} (ha : 0 ≤ a) (hra : lR a) (hb : 0 < b) (hrb : lR b) (hdg : decode cc pc = .ok (.ldiv, 1)) (kk : jj_W p l e R s m args below meth c D cl A nL cells slots Q (pc + 1) (lv) (.long (lI (a / b)) :: rest) (ws)) : jj_W p l e R s m args below meth c D cl A nL cells slots Q (pc) (lv) (.long (lI b) :: .long (lI a) :: rest) (ws) :=
  fun H locs ls hP hD hS hl => lv_ldiv C0.1 C0.2.1 hdg (lI_ne0 hb hrb) (by rw [lI_div ha hra hb hrb]; exact kk H locs ls hP hD hS hl)
theorem jj_lrem (C0 : jj_C p s m args meth c D cl A nL cc own Ts tys EV) {a b : Int} (ha : 0 ≤ a) (hra : lR a) (hb : 0 < b) (hrb : lR b) (hdg : decode cc pc = .ok (.lrem, 1)) (kk : jj_W p l e R s m args below meth c D cl A nL cells slots Q (pc + 1) (lv) (.long (lI (a % b)) :: rest) (ws)) : jj_W p l e R s m args below meth c D cl A nL cells slots Q (pc) (lv) (.long (lI b) :: .long (lI a) :: rest) (ws) :=
  fun H locs ls hP hD hS hl => lv_lrem C0.1 C0.2.1 hdg (lI_ne0 hb hrb) (by rw [lI_mod ha hra hb hrb]; exact kk H locs ls hP hD hS hl)
theorem jj_topi {a b : Int} (h : a = b) (kk : jj_W p l e R s m args below meth c D cl A nL cells slots Q (pc) (lv) (.int (iI b) :: rest) (ws)) : jj_W p l e R s m args below meth c D cl A nL cells slots Q (pc) (lv) (.int (iI a) :: rest) (ws) := by
  subst h; exact kk
theorem jj_topl {a b : Int} (h : a = b) (kk : jj_W p l e R s m args below meth c D cl A nL cells slots Q (pc) (lv) (.long (lI b) :: rest) (ws)) : jj_W p l e R s m args below meth c D cl A nL cells slots Q (pc) (lv) (.long (lI a) :: rest) (ws) := by
  subst h; exact kk
theorem jj_dup (C0 : jj_C p s m args meth c D cl A nL cc own Ts tys EV) {va : Value} (hdg : decode cc pc = .ok (.dup, 1)) (hva : va.category = 1) (kk : jj_W p l e R s m args below meth c D cl A nL cells slots Q (pc + 1) (lv) (va :: va :: rest) (ws)) : jj_W p l e R s m args below meth c D cl A nL cells slots Q (pc) (lv) (va :: rest) (ws) :=
  fun H locs ls hP hD hS hl => lv_dup C0.1 C0.2.1 hdg hva (kk H locs ls hP hD hS hl)
theorem jj_pop (C0 : jj_C p s m args meth c D cl A nL cc own Ts tys EV) {va : Value} (hdg : decode cc pc = .ok (.pop, 1)) (hva : va.category = 1) (kk : jj_W p l e R s m args below meth c D cl A nL cells slots Q (pc + 1) (lv) (rest) (ws)) : jj_W p l e R s m args below meth c D cl A nL cells slots Q (pc) (lv) (va :: rest) (ws) :=
  fun H locs ls hP hD hS hl => lv_pop C0.1 C0.2.1 hdg hva (kk H locs ls hP hD hS hl)
theorem jj_dup2_11 (C0 : jj_C p s m args meth c D cl A nL cc own Ts tys EV) {va vb : Value} (hdg : decode cc pc = .ok (.dup2, 1)) (hva : va.category = 1) (hvb : vb.category = 1) (kk : jj_W p l e R s m args below meth c D cl A nL cells slots Q (pc + 1) (lv) (va :: vb :: va :: vb :: rest) (ws)) : jj_W p l e R s m args below meth c D cl A nL cells slots Q (pc) (lv) (va :: vb :: rest) (ws) :=
  fun H locs ls hP hD hS hl => lv_dup2_11 C0.1 C0.2.1 hdg hva hvb (kk H locs ls hP hD hS hl)
theorem jj_dup2_2 (C0 : jj_C p s m args meth c D cl A nL cc own Ts tys EV) {va : Value} (hdg : decode cc pc = .ok (.dup2, 1)) (hva : va.category = 2) (kk : jj_W p l e R s m args below meth c D cl A nL cells slots Q (pc + 1) (lv) (va :: va :: rest) (ws)) : jj_W p l e R s m args below meth c D cl A nL cells slots Q (pc) (lv) (va :: rest) (ws) :=
  fun H locs ls hP hD hS hl => lv_dup2_2 C0.1 C0.2.1 hdg hva (kk H locs ls hP hD hS hl)
theorem jj_dup_x1 (C0 : jj_C p s m args meth c D cl A nL cc own Ts tys EV) {va vb : Value} (hdg : decode cc pc = .ok (.dup_x1, 1)) (hva : va.category = 1) (hvb : vb.category = 1) (kk : jj_W p l e R s m args below meth c D cl A nL cells slots Q (pc + 1) (lv) (va :: vb :: va :: rest) (ws)) : jj_W p l e R s m args below meth c D cl A nL cells slots Q (pc) (lv) (va :: vb :: rest) (ws) :=
  fun H locs ls hP hD hS hl => lv_dup_x1 C0.1 C0.2.1 hdg hva hvb (kk H locs ls hP hD hS hl)
theorem iI_eq0 {a : Int} (ha : iR a) : iI a = 0 ↔ a = 0 := by rw [← iI_0, iI_eq ha (by omega)]
theorem iI_lt0 {a : Int} (ha : iR a) : iI a < 0 ↔ a < 0 := by rw [← iI_0, iI_lt ha (by omega)]
theorem iI_le0 {a : Int} (ha : iR a) : iI a ≤ 0 ↔ a ≤ 0 := by rw [← iI_0, iI_le ha (by omega)]
theorem iI_0le {a : Int} (ha : iR a) : 0 ≤ iI a ↔ 0 ≤ a := by rw [← iI_0, iI_le (by omega) ha]
theorem iI_0lt {a : Int} (ha : iR a) : 0 < iI a ↔ 0 < a := by rw [← iI_0, iI_lt (by omega) ha]
theorem jj_icmp_eq (C0 : jj_C p s m args meth c D cl A nL cc own Ts tys EV) {a b off : Int} {tgt : Nat} (ha : iR a) (hb : iR b) (hdg : decode cc pc = .ok (.if_icmp .eq off, 3)) (ht : (pc : Int) + off = (tgt : Int)) (kt : a = b → jj_W p l e R s m args below meth c D cl A nL cells slots Q (tgt) (lv) (rest) (ws)) (kf : a ≠ b → jj_W p l e R s m args below meth c D cl A nL cells slots Q (pc + 3) (lv) (rest) (ws)) : jj_W p l e R s m args below meth c D cl A nL cells slots Q (pc) (lv) (.int (iI b) :: .int (iI a) :: rest) (ws) :=
  fun H locs ls hP hD hS hl => lv_icmp_eq C0.1 C0.2.1 hdg ht (fun h => kt (by rw [iI_eq ha hb] at h; first | exact h | omega) H locs ls hP hD hS hl) (fun h => kf (by rw [iI_eq ha hb] at h; first | exact h | omega) H locs ls hP hD hS hl)
theorem jj_if_eq (C0 : jj_C p s m args meth c D cl A nL cc own Ts tys EV) {a off : Int} {tgt : Nat} (ha : iR a) (hdg : decode cc pc = .ok (.ifCond .eq off, 3)) (ht : (pc : Int) + off = (tgt : Int)) (kt : a = 0 → jj_W p l e R s m args below meth c D cl A nL cells slots Q (tgt) (lv) (rest) (ws)) (kf : a ≠ 0 → jj_W p l e R s m args below meth c D cl A nL cells slots Q (pc + 3) (lv) (rest) (ws)) : jj_W p l e R s m args below meth c D cl A nL cells slots Q (pc) (lv) (.int (iI a) :: rest) (ws) :=
  fun H locs ls hP hD hS hl => lv_if_eq C0.1 C0.2.1 hdg ht (fun h => kt (by rw [iI_eq0 ha] at h; first | exact h | omega) H locs ls hP hD hS hl) (fun h => kf (by rw [iI_eq0 ha] at h; first | exact h | omega) H locs ls hP hD hS hl)
theorem jj_lcmp_eq (C0 : jj_C p s m args meth c D cl A nL cc own Ts tys EV) {a b off : Int} {tgt : Nat} (ha : lR a) (hb : lR b) (hdg : decode cc pc = .ok (.lcmp, 1)) (hdg2 : decode cc (pc + 1) = .ok (.ifCond .eq off, 3)) (ht : ((pc + 1 : Nat) : Int) + off = (tgt : Int)) (kt : a = b → jj_W p l e R s m args below meth c D cl A nL cells slots Q (tgt) (lv) (rest) (ws)) (kf : a ≠ b → jj_W p l e R s m args below meth c D cl A nL cells slots Q (pc + 1 + 3) (lv) (rest) (ws)) : jj_W p l e R s m args below meth c D cl A nL cells slots Q (pc) (lv) (.long (lI b) :: .long (lI a) :: rest) (ws) :=
  fun H locs ls hP hD hS hl => W.lcmp C0.1 C0.2.1 hdg (lv_if_eq C0.1 C0.2.1 hdg2 ht (fun h => kt (by rw [lg_cmp_eq, lI_eq ha hb] at h; first | exact h | omega) H locs ls hP hD hS hl) (fun h => kf (by rw [lg_cmp_eq, lI_eq ha hb] at h; first | exact h | omega) H locs ls hP hD hS hl))
theorem jj_icmp_ne (C0 : jj_C p s m args meth c D cl A nL cc own Ts tys EV) {a b off : Int} {tgt : Nat} (ha : iR a) (hb : iR b) (hdg : decode cc pc = .ok (.if_icmp .ne off, 3)) (ht : (pc : Int) + off = (tgt : Int)) (kt : a ≠ b → jj_W p l e R s m args below meth c D cl A nL cells slots Q (tgt) (lv) (rest) (ws)) (kf : a = b → jj_W p l e R s m args below meth c D cl A nL cells slots Q (pc + 3) (lv) (rest) (ws)) : jj_W p l e R s m args below meth c D cl A nL cells slots Q (pc) (lv) (.int (iI b) :: .int (iI a) :: rest) (ws) :=
  fun H locs ls hP hD hS hl => lv_icmp_ne C0.1 C0.2.1 hdg ht (fun h => kt (by rw [iI_eq ha hb] at h; first | exact h | omega) H locs ls hP hD hS hl) (fun h => kf (by rw [iI_eq ha hb] at h; first | exact h | omega) H locs ls hP hD hS hl)
theorem jj_if_ne (C0 : jj_C p s m args meth c D cl A nL cc own Ts tys EV) {a off : Int} {tgt : Nat} (ha : iR a) (hdg : decode cc pc = .ok (.ifCond .ne off, 3)) (ht : (pc : Int) + off = (tgt : Int)) (kt : a ≠ 0 → jj_W p l e R s m args below meth c D cl A nL cells slots Q (tgt) (lv) (rest) (ws)) (kf : a = 0 → jj_W p l e R s m args below meth c D cl A nL cells slots Q (pc + 3) (lv) (rest) (ws)) : jj_W p l e R s m args below meth c D cl A nL cells slots Q (pc) (lv) (.int (iI a) :: rest) (ws) :=
  fun H locs ls hP hD hS hl => lv_if_ne C0.1 C0.2.1 hdg ht (fun h => kt (by rw [iI_eq0 ha] at h; first | exact h | omega) H locs ls hP hD hS hl) (fun h => kf (by rw [iI_eq0 ha] at h; first | exact h | omega) H locs ls hP hD hS hl)
theorem jj_lcmp_ne (C0 : jj_C p s m args meth c D cl A nL cc own Ts tys EV) {a b off : Int} {tgt : Nat} (ha : lR a) (hb : lR b) (hdg : decode cc pc = .ok (.lcmp, 1)) (hdg2 : decode cc (pc + 1) = .ok (.ifCond .ne off, 3)) (ht : ((pc + 1 : Nat) : Int) + off = (tgt : Int)) (kt : a ≠ b → jj_W p l e R s m args below meth c D cl A nL cells slots Q (tgt) (lv) (rest) (ws)) (kf : a = b → jj_W p l e R s m args below meth c D cl A nL cells slots Q (pc + 1 + 3) (lv) (rest) (ws)) : jj_W p l e R s m args below meth c D cl A nL cells slots Q (pc) (lv) (.long (lI b) :: .long (lI a) :: rest) (ws) :=
  fun H locs ls hP hD hS hl => W.lcmp C0.1 C0.2.1 hdg (lv_if_ne C0.1 C0.2.1 hdg2 ht (fun h => kt (by rw [lg_cmp_eq, lI_eq ha hb] at h; first | exact h | omega) H locs ls hP hD hS hl) (fun h => kf (by rw [lg_cmp_eq, lI_eq ha hb] at h; first | exact h | omega) H locs ls hP hD hS hl))
theorem jj_icmp_lt (C0 : jj_C p s m args meth c D cl A nL cc own Ts tys EV) {a b off : Int} {tgt : Nat} (ha : iR a) (hb : iR b) (hdg : decode cc pc = .ok (.if_icmp .lt off, 3)) (ht : (pc : Int) + off = (tgt : Int)) (kt : a < b → jj_W p l e R s m args below meth c D cl A nL cells slots Q (tgt) (lv) (rest) (ws)) (kf : b ≤ a → jj_W p l e R s m args below meth c D cl A nL cells slots Q (pc + 3) (lv) (rest) (ws)) : jj_W p l e R s m args below meth c D cl A nL cells slots Q (pc) (lv) (.int (iI b) :: .int (iI a) :: rest) (ws) :=
  fun H locs ls hP hD hS hl => lv_icmp_lt C0.1 C0.2.1 hdg ht (fun h => kt (by rw [iI_lt ha hb] at h; first | exact h | omega) H locs ls hP hD hS hl) (fun h => kf (by rw [iI_lt ha hb] at h; first | exact h | omega) H locs ls hP hD hS hl)
theorem jj_if_lt (C0 : jj_C p s m args meth c D cl A nL cc own Ts tys EV) {a off : Int} {tgt : Nat} (ha : iR a) (hdg : decode cc pc = .ok (.ifCond .lt off, 3)) (ht : (pc : Int) + off = (tgt : Int)) (kt : a < 0 → jj_W p l e R s m args below meth c D cl A nL cells slots Q (tgt) (lv) (rest) (ws)) (kf : 0 ≤ a → jj_W p l e R s m args below meth c D cl A nL cells slots Q (pc + 3) (lv) (rest) (ws)) : jj_W p l e R s m args below meth c D cl A nL cells slots Q (pc) (lv) (.int (iI a) :: rest) (ws) :=
  fun H locs ls hP hD hS hl => lv_if_lt C0.1 C0.2.1 hdg ht (fun h => kt (by rw [iI_lt0 ha] at h; first | exact h | omega) H locs ls hP hD hS hl) (fun h => kf (by rw [iI_lt0 ha] at h; first | exact h | omega) H locs ls hP hD hS hl)
theorem jj_lcmp_lt (C0 : jj_C p s m args meth c D cl A nL cc own Ts tys EV) {a b off : Int} {tgt : Nat} (ha : lR a) (hb : lR b) (hdg : decode cc pc = .ok (.lcmp, 1)) (hdg2 : decode cc (pc + 1) = .ok (.ifCond .lt off, 3)) (ht : ((pc + 1 : Nat) : Int) + off = (tgt : Int)) (kt : a < b → jj_W p l e R s m args below meth c D cl A nL cells slots Q (tgt) (lv) (rest) (ws)) (kf : b ≤ a → jj_W p l e R s m args below meth c D cl A nL cells slots Q (pc + 1 + 3) (lv) (rest) (ws)) : jj_W p l e R s m args below meth c D cl A nL cells slots Q (pc) (lv) (.long (lI b) :: .long (lI a) :: rest) (ws) :=
  fun H locs ls hP hD hS hl => W.lcmp C0.1 C0.2.1 hdg (lv_if_lt C0.1 C0.2.1 hdg2 ht (fun h => kt (by rw [lg_cmp_lt, lI_lt ha hb] at h; first | exact h | omega) H locs ls hP hD hS hl) (fun h => kf (by rw [lg_cmp_lt, lI_lt ha hb] at h; first | exact h | omega) H locs ls hP hD hS hl))
theorem jj_icmp_ge (C0 : jj_C p s m args meth c D cl A nL cc own Ts tys EV) {a b off : Int} {tgt : Nat} (ha : iR a) (hb : iR b) (hdg : decode cc pc = .ok (.if_icmp .ge off, 3)) (ht : (pc : Int) + off = (tgt : Int)) (kt : b ≤ a → jj_W p l e R s m args below meth c D cl A nL cells slots Q (tgt) (lv) (rest) (ws)) (kf : a < b → jj_W p l e R s m args below meth c D cl A nL cells slots Q (pc + 3) (lv) (rest) (ws)) : jj_W p l e R s m args below meth c D cl A nL cells slots Q (pc) (lv) (.int (iI b) :: .int (iI a) :: rest) (ws) :=
  fun H locs ls hP hD hS hl => lv_icmp_ge C0.1 C0.2.1 hdg ht (fun h => kt (by rw [iI_le hb ha] at h; first | exact h | omega) H locs ls hP hD hS hl) (fun h => kf (by rw [iI_le hb ha] at h; first | exact h | omega) H locs ls hP hD hS hl)
theorem jj_if_ge (C0 : jj_C p s m args meth c D cl A nL cc own Ts tys EV) {a off : Int} {tgt : Nat} (ha : iR a) (hdg : decode cc pc = .ok (.ifCond .ge off, 3)) (ht : (pc : Int) + off = (tgt : Int)) (kt : 0 ≤ a → jj_W p l e R s m args below meth c D cl A nL cells slots Q (tgt) (lv) (rest) (ws)) (kf : a < 0 → jj_W p l e R s m args below meth c D cl A nL cells slots Q (pc + 3) (lv) (rest) (ws)) : jj_W p l e R s m args below meth c D cl A nL cells slots Q (pc) (lv) (.int (iI a) :: rest) (ws) :=
  fun H locs ls hP hD hS hl => lv_if_ge C0.1 C0.2.1 hdg ht (fun h => kt (by rw [iI_0le ha] at h; first | exact h | omega) H locs ls hP hD hS hl) (fun h => kf (by rw [iI_0le ha] at h; first | exact h | omega) H locs ls hP hD hS hl)
theorem jj_lcmp_ge (C0 : jj_C p s m args meth c D cl A nL cc own Ts tys EV) {a b off : Int} {tgt : Nat} (ha : lR a) (hb : lR b) (hdg : decode cc pc = .ok (.lcmp, 1)) (hdg2 : decode cc (pc + 1) = .ok (.ifCond .ge off, 3)) (ht : ((pc + 1 : Nat) : Int) + off = (tgt : Int)) (kt : b ≤ a → jj_W p l e R s m args below meth c D cl A nL cells slots Q (tgt) (lv) (rest) (ws)) (kf : a < b → jj_W p l e R s m args below meth c D cl A nL cells slots Q (pc + 1 + 3) (lv) (rest) (ws)) : jj_W p l e R s m args below meth c D cl A nL cells slots Q (pc) (lv) (.long (lI b) :: .long (lI a) :: rest) (ws) :=
  fun H locs ls hP hD hS hl => W.lcmp C0.1 C0.2.1 hdg (lv_if_ge C0.1 C0.2.1 hdg2 ht (fun h => kt (by rw [lg_cmp_ge, lI_le hb ha] at h; first | exact h | omega) H locs ls hP hD hS hl) (fun h => kf (by rw [lg_cmp_ge, lI_le hb ha] at h; first | exact h | omega) H locs ls hP hD hS hl))
theorem jj_icmp_gt (C0 : jj_C p s m args meth c D cl A nL cc own Ts tys EV) {a b off : Int} {tgt : Nat} (ha : iR a) (hb : iR b) (hdg : decode cc pc = .ok (.if_icmp .gt off, 3)) (ht : (pc : Int) + off = (tgt : Int)) (kt : b < a → jj_W p l e R s m args below meth c D cl A nL cells slots Q (tgt) (lv) (rest) (ws)) (kf : a ≤ b → jj_W p l e R s m args below meth c D cl A nL cells slots Q (pc + 3) (lv) (rest) (ws)) : jj_W p l e R s m args below meth c D cl A nL cells slots Q (pc) (lv) (.int (iI b) :: .int (iI a) :: rest) (ws) :=
  fun H locs ls hP hD hS hl => lv_icmp_gt C0.1 C0.2.1 hdg ht (fun h => kt (by rw [iI_lt hb ha] at h; first | exact h | omega) H locs ls hP hD hS hl) (fun h => kf (by rw [iI_lt hb ha] at h; first | exact h | omega) H locs ls hP hD hS hl)
theorem jj_if_gt (C0 : jj_C p s m args meth c D cl A nL cc own Ts tys EV) {a off : Int} {tgt : Nat} (ha : iR a) (hdg : decode cc pc = .ok (.ifCond .gt off, 3)) (ht : (pc : Int) + off = (tgt : Int)) (kt : 0 < a → jj_W p l e R s m args below meth c D cl A nL cells slots Q (tgt) (lv) (rest) (ws)) (kf : a ≤ 0 → jj_W p l e R s m args below meth c D cl A nL cells slots Q (pc + 3) (lv) (rest) (ws)) : jj_W p l e R s m args below meth c D cl A nL cells slots Q (pc) (lv) (.int (iI a) :: rest) (ws) :=
  fun H locs ls hP hD hS hl => lv_if_gt C0.1 C0.2.1 hdg ht (fun h => kt (by rw [iI_0lt ha] at h; first | exact h | omega) H locs ls hP hD hS hl) (fun h => kf (by rw [iI_0lt ha] at h; first | exact h | omega) H locs ls hP hD hS hl)
theorem jj_lcmp_gt (C0 : jj_C p s m args meth c D cl A nL cc own Ts tys EV) {a b off : Int} {tgt : Nat} (ha : lR a) (hb : lR b) (hdg : decode cc pc = .ok (.lcmp, 1)) (hdg2 : decode cc (pc + 1) = .ok (.ifCond .gt off, 3)) (ht : ((pc + 1 : Nat) : Int) + off = (tgt : Int)) (kt : b < a → jj_W p l e R s m args below meth c D cl A nL cells slots Q (tgt) (lv) (rest) (ws)) (kf : a ≤ b → jj_W p l e R s m args below meth c D cl A nL cells slots Q (pc + 1 + 3) (lv) (rest) (ws)) : jj_W p l e R s m args below meth c D cl A nL cells slots Q (pc) (lv) (.long (lI b) :: .long (lI a) :: rest) (ws) :=
  fun H locs ls hP hD hS hl => W.lcmp C0.1 C0.2.1 hdg (lv_if_gt C0.1 C0.2.1 hdg2 ht (fun h => kt (by rw [lg_cmp_gt, lI_lt hb ha] at h; first | exact h | omega) H locs ls hP hD hS hl) (fun h => kf (by rw [lg_cmp_gt, lI_lt hb ha] at h; first | exact h | omega) H locs ls hP hD hS hl))
theorem jj_icmp_le (C0 : jj_C p s m args meth c D cl A nL cc own Ts tys EV) {a b off : Int} {tgt : Nat} (ha : iR a) (hb : iR b) (hdg : decode cc pc = .ok (.if_icmp .le off, 3)) (ht : (pc : Int) + off = (tgt : Int)) (kt : a ≤ b → jj_W p l e R s m args below meth c D cl A nL cells slots Q (tgt) (lv) (rest) (ws)) (kf : b < a → jj_W p l e R s m args below meth c D cl A nL cells slots Q (pc + 3) (lv) (rest) (ws)) : jj_W p l e R s m args below meth c D cl A nL cells slots Q (pc) (lv) (.int (iI b) :: .int (iI a) :: rest) (ws) :=
  fun H locs ls hP hD hS hl => lv_icmp_le C0.1 C0.2.1 hdg ht (fun h => kt (by rw [iI_le ha hb] at h; first | exact h | omega) H locs ls hP hD hS hl) (fun h => kf (by rw [iI_le ha hb] at h; first | exact h | omega) H locs ls hP hD hS hl)
theorem jj_if_le (C0 : jj_C p s m args meth c D cl A nL cc own Ts tys EV) {a off : Int} {tgt : Nat} (ha : iR a) (hdg : decode cc pc = .ok (.ifCond .le off, 3)) (ht : (pc : Int) + off = (tgt : Int)) (kt : a ≤ 0 → jj_W p l e R s m args below meth c D cl A nL cells slots Q (tgt) (lv) (rest) (ws)) (kf : 0 < a → jj_W p l e R s m args below meth c D cl A nL cells slots Q (pc + 3) (lv) (rest) (ws)) : jj_W p l e R s m args below meth c D cl A nL cells slots Q (pc) (lv) (.int (iI a) :: rest) (ws) :=
  fun H locs ls hP hD hS hl => lv_if_le C0.1 C0.2.1 hdg ht (fun h => kt (by rw [iI_le0 ha] at h; first | exact h | omega) H locs ls hP hD hS hl) (fun h => kf (by rw [iI_le0 ha] at h; first | exact h | omega) H locs ls hP hD hS hl)
theorem jj_lcmp_le (C0 : jj_C p s m args meth c D cl A nL cc own Ts tys EV) {a b off : Int} {tgt : Nat} (ha : lR a) (hb : lR b) (hdg : decode cc pc = .ok (.lcmp, 1)) (hdg2 : decode cc (pc + 1) = .ok (.ifCond .le off, 3)) (ht : ((pc + 1 : Nat) : Int) + off = (tgt : Int)) (kt : a ≤ b → jj_W p l e R s m args below meth c D cl A nL cells slots Q (tgt) (lv) (rest) (ws)) (kf : b < a → jj_W p l e R s m args below meth c D cl A nL cells slots Q (pc + 1 + 3) (lv) (rest) (ws)) : jj_W p l e R s m args below meth c D cl A nL cells slots Q (pc) (lv) (.long (lI b) :: .long (lI a) :: rest) (ws) :=
  fun H locs ls hP hD hS hl => W.lcmp C0.1 C0.2.1 hdg (lv_if_le C0.1 C0.2.1 hdg2 ht (fun h => kt (by rw [lg_cmp_le, lI_le ha hb] at h; first | exact h | omega) H locs ls hP hD hS hl) (fun h => kf (by rw [lg_cmp_le, lI_le ha hb] at h; first | exact h | omega) H locs ls hP hD hS hl))
theorem jj_goto (C0 : jj_C p s m args meth c D cl A nL cc own Ts tys EV) {off : Int} {tgt : Nat} (hdg : decode cc pc = .ok (.goto off, 3)) (ht : (pc : Int) + off = (tgt : Int)) (kk : jj_W p l e R s m args below meth c D cl A nL cells slots Q (tgt) (lv) (rest) (ws)) : jj_W p l e R s m args below meth c D cl A nL cells slots Q (pc) (lv) (rest) (ws) :=
  fun H locs ls hP hD hS hl => lv_goto C0.1 C0.2.1 hdg ht (kk H locs ls hP hD hS hl)
theorem jj_get (C0 : jj_C p s m args meth c D cl A nL cc own Ts tys EV) {ref C : String} {T : u_T} {N ci index a : Nat} (hin : ∀ w ∈ u_ws C T N, w ∈ Ts) (q0 : Nat) {fs : List Value} (he : ws[q0]? = some (a, .inr (ci, fs))) (hc : cl[ci]? = some (C, T, N)) (k : Nat) (hk : k < N) (hlink : (Cond.fieldLink own index ref (T k).2.1 (T k).2.2.1).before args s = true) (hsame : ∀ x, s.fieldFound? (T k).1 (T k).2.1 (T k).2.2.1 = some x → s.fieldFound? ref (T k).2.1 (T k).2.2.1 = some x) {v : Value} (hv : fs[k]? = some v) (hdg : decode cc pc = .ok (.getfield index, 3)) (kk : jj_W p l e R s m args below meth c D cl A nL cells slots Q (pc + 3) (lv) (v :: rest) (ws)) : jj_W p l e R s m args below meth c D cl A nL cells slots Q (pc) (lv) (.ref a :: rest) (ws) :=
  fun H locs ls hP hD hS hl => va_get C0.1 C0.2.1 C0.2.2.2.2.1 hin C0.2.2.2.1 C0.2.2.2.2.2.1 hP q0 he hc k hk hlink hsame hv hdg (kk H locs ls hP hD hS hl)
theorem jj_getN (C0 : jj_C p s m args meth c D cl A nL cc own Ts tys EV) {ref C : String} {T : u_T} {N ci index a : Nat} {host : String} (hin : ∀ w ∈ u_ws C T N, w ∈ Ts) (q0 : Nat) {fs : List Value} (he : ws[q0]? = some (a, .inr (ci, fs))) (hc : cl[ci]? = some (C, T, N)) (k : Nat) (hk : k < N) (hlink : (Cond.fieldLinkNest own index ref (T k).2.1 (T k).2.2.1 host).before args s = true) (hsame : ∀ x, s.fieldFound? (T k).1 (T k).2.1 (T k).2.2.1 = some x → s.fieldFound? ref (T k).2.1 (T k).2.2.1 = some x) {v : Value} (hv : fs[k]? = some v) (hdg : decode cc pc = .ok (.getfield index, 3)) (kk : jj_W p l e R s m args below meth c D cl A nL cells slots Q (pc + 3) (lv) (v :: rest) (ws)) : jj_W p l e R s m args below meth c D cl A nL cells slots Q (pc) (lv) (.ref a :: rest) (ws) :=
  fun H locs ls hP hD hS hl => va_getN C0.1 C0.2.1 C0.2.2.2.2.1 hin C0.2.2.2.1 C0.2.2.2.2.2.1 hP q0 he hc k hk hlink hsame hv hdg (kk H locs ls hP hD hS hl)
theorem jj_put (C0 : jj_C p s m args meth c D cl A nL cc own Ts tys EV) {ref C : String} {T : u_T} {N ci index a : Nat} (hin : ∀ w ∈ u_ws C T N, w ∈ Ts) (ty0 : Nat → FieldType) (hty : ∀ k, k < N → parseFieldDescriptor (T k).2.2.1 = some (ty0 k)) (hnm : ∀ a, a < N → ∀ b, b < N → a ≠ b → (T a).2.1 ≠ (T b).2.1) (q0 : Nat) {fs : List Value} (he : ws[q0]? = some (a, .inr (ci, fs))) (hc : cl[ci]? = some (C, T, N)) (k : Nat) (hk : k < N) (hlink : (Cond.fieldLink own index ref (T k).2.1 (T k).2.2.1).before args s = true) (hsame : ∀ x, s.fieldFound? (T k).1 (T k).2.1 (T k).2.2.1 = some x → s.fieldFound? ref (T k).2.1 (T k).2.2.1 = some x) (hfin : (T k).2.2.2 = false) {ty : FieldType} {v : Value} (hd : parseFieldDescriptor (T k).2.2.1 = some ty) (hn : narrow ty v = v) (hfit : fits ty v = true) (hl0 : k < fs.length) {ws' : va_W} (hset : ws.set q0 (a, .inr (ci, fs.set k v)) = ws') (hdg : decode cc pc = .ok (.putfield index, 3)) (kk : jj_W p l e R s m args below meth c D cl A nL cells slots Q (pc + 3) (lv) (rest) (ws')) : jj_W p l e R s m args below meth c D cl A nL cells slots Q (pc) (lv) (v :: .ref a :: rest) (ws) :=
  fun H locs ls hP hD hS hl => va_put C0.1 C0.2.1 C0.2.2.2.2.1 hin ty0 hty hnm C0.2.2.2.1 C0.2.2.2.2.2.1 hP hD hS q0 he hc k hk hlink hsame hfin hd hn hfit hl0 hdg (fun H1 locs1 hP1 hD1 hS1 => by subst hset; exact kk H1 locs1 ls hP1 hD1 hS1 hl)
theorem jj_putN (C0 : jj_C p s m args meth c D cl A nL cc own Ts tys EV) {ref C : String} {T : u_T} {N ci index a : Nat} {host : String} (hin : ∀ w ∈ u_ws C T N, w ∈ Ts) (ty0 : Nat → FieldType) (hty : ∀ k, k < N → parseFieldDescriptor (T k).2.2.1 = some (ty0 k)) (hnm : ∀ a, a < N → ∀ b, b < N → a ≠ b → (T a).2.1 ≠ (T b).2.1) (q0 : Nat) {fs : List Value} (he : ws[q0]? = some (a, .inr (ci, fs))) (hc : cl[ci]? = some (C, T, N)) (k : Nat) (hk : k < N) (hlink : (Cond.fieldLinkNest own index ref (T k).2.1 (T k).2.2.1 host).before args s = true) (hsame : ∀ x, s.fieldFound? (T k).1 (T k).2.1 (T k).2.2.1 = some x → s.fieldFound? ref (T k).2.1 (T k).2.2.1 = some x) (hfin : (T k).2.2.2 = false) {ty : FieldType} {v : Value} (hd : parseFieldDescriptor (T k).2.2.1 = some ty) (hn : narrow ty v = v) (hfit : fits ty v = true) (hl0 : k < fs.length) {ws' : va_W} (hset : ws.set q0 (a, .inr (ci, fs.set k v)) = ws') (hdg : decode cc pc = .ok (.putfield index, 3)) (kk : jj_W p l e R s m args below meth c D cl A nL cells slots Q (pc + 3) (lv) (rest) (ws')) : jj_W p l e R s m args below meth c D cl A nL cells slots Q (pc) (lv) (v :: .ref a :: rest) (ws) :=
  fun H locs ls hP hD hS hl => va_putN C0.1 C0.2.1 C0.2.2.2.2.1 hin ty0 hty hnm C0.2.2.2.1 C0.2.2.2.2.2.1 hP hD hS q0 he hc k hk hlink hsame hfin hd hn hfit hl0 hdg (fun H1 locs1 hP1 hD1 hS1 => by subst hset; exact kk H1 locs1 ls hP1 hD1 hS1 hl)
theorem jj_putF (C0 : jj_C p s m args meth c D cl A nL cc own Ts tys EV) {ref C : String} {T : u_T} {N ci index a : Nat} (hin : ∀ w ∈ u_ws C T N, w ∈ Ts) (ty0 : Nat → FieldType) (hty : ∀ k, k < N → parseFieldDescriptor (T k).2.2.1 = some (ty0 k)) (hnm : ∀ a, a < N → ∀ b, b < N → a ≠ b → (T a).2.1 ≠ (T b).2.1) (q0 : Nat) {fs : List Value} (he : ws[q0]? = some (a, .inr (ci, fs))) (hc : cl[ci]? = some (C, T, N)) (k : Nat) (hk : k < N) (hlink : (Cond.fieldLink own index ref (T k).2.1 (T k).2.2.1).before args s = true) (hsame : ∀ x, s.fieldFound? (T k).1 (T k).2.1 (T k).2.2.1 = some x → s.fieldFound? ref (T k).2.1 (T k).2.2.1 = some x) (hfin : (T k).2.2.2 = true) (hin2 : meth.name = "<init>") (hdecl : (T k).1 = own) {ty : FieldType} {v : Value} (hd : parseFieldDescriptor (T k).2.2.1 = some ty) (hn : narrow ty v = v) (hfit : fits ty v = true) (hl0 : k < fs.length) {ws' : va_W} (hset : ws.set q0 (a, .inr (ci, fs.set k v)) = ws') (hdg : decode cc pc = .ok (.putfield index, 3)) (kk : jj_W p l e R s m args below meth c D cl A nL cells slots Q (pc + 3) (lv) (rest) (ws')) : jj_W p l e R s m args below meth c D cl A nL cells slots Q (pc) (lv) (v :: .ref a :: rest) (ws) :=
  fun H locs ls hP hD hS hl => va_putF C0.1 C0.2.1 C0.2.2.2.2.1 hin ty0 hty hnm C0.2.2.2.1 C0.2.2.2.2.2.1 hP hD hS q0 he hc k hk hlink hsame hfin hin2 hdecl hd hn hfit hl0 hdg (fun H1 locs1 hP1 hD1 hS1 => by subst hset; exact kk H1 locs1 ls hP1 hD1 hS1 hl)
theorem jj_iald (C0 : jj_C p s m args meth c D cl A nL cc own Ts tys EV) {a q0 t0 : Nat} {cA : ClassId} {n : Nat} {f : Nat → Int} (ha : ws[q0]? = some (a, .inl (cA, n, .inl (iA f)))) (ht : tys[t0]? = some (cA, .int)) {k : Nat} {z : Int} (hk : (k : Int) = z) (hkn : k < n) (hn : n ≤ 2147483647) (hdg : decode cc pc = .ok (.iaload, 1)) (kk : jj_W p l e R s m args below meth c D cl A nL cells slots Q (pc + 1) (lv) (.int (iI (f k)) :: rest) (ws)) : jj_W p l e R s m args below meth c D cl A nL cells slots Q (pc) (lv) (.int (iI z) :: .ref a :: rest) (ws) :=
  fun H locs ls hP hD hS hl => va_iald C0.1 C0.2.1 C0.2.2.2.2.2.1 hP q0 t0 ha ht (iI_in hk hkn hn) hdg (by rw [iI_nat hk (by omega)]; exact kk H locs ls hP hD hS hl)
theorem jj_zald (C0 : jj_C p s m args meth c D cl A nL cc own Ts tys EV) {a q0 t0 : Nat} {cA : ClassId} {n : Nat} {f : Nat → Int} (ha : ws[q0]? = some (a, .inl (cA, n, .inl (iA f)))) (ht : tys[t0]? = some (cA, .boolean)) {k : Nat} {z : Int} (hk : (k : Int) = z) (hkn : k < n) (hn : n ≤ 2147483647) (hdg : decode cc pc = .ok (.baload, 1)) (kk : jj_W p l e R s m args below meth c D cl A nL cells slots Q (pc + 1) (lv) (.int (iI (f k)) :: rest) (ws)) : jj_W p l e R s m args below meth c D cl A nL cells slots Q (pc) (lv) (.int (iI z) :: .ref a :: rest) (ws) :=
  fun H locs ls hP hD hS hl => va_zald C0.1 C0.2.1 C0.2.2.2.2.2.1 hP q0 t0 ha ht (iI_in hk hkn hn) hdg (by rw [iI_nat hk (by omega)]; exact kk H locs ls hP hD hS hl)
theorem jj_lald (C0 : jj_C p s m args meth c D cl A nL cc own Ts tys EV) {a q0 t0 : Nat} {cA : ClassId} {n : Nat} {f : Nat → Int} (ha : ws[q0]? = some (a, .inl (cA, n, .inr (.inl (lA f))))) (ht : tys[t0]? = some (cA, .long)) {k : Nat} {z : Int} (hk : (k : Int) = z) (hkn : k < n) (hn : n ≤ 2147483647) (hdg : decode cc pc = .ok (.laload, 1)) (kk : jj_W p l e R s m args below meth c D cl A nL cells slots Q (pc + 1) (lv) (.long (lI (f k)) :: rest) (ws)) : jj_W p l e R s m args below meth c D cl A nL cells slots Q (pc) (lv) (.int (iI z) :: .ref a :: rest) (ws) :=
  fun H locs ls hP hD hS hl => va_lald C0.1 C0.2.1 C0.2.2.2.2.2.1 hP q0 t0 ha ht (iI_in hk hkn hn) hdg (by rw [iI_nat hk (by omega)]; exact kk H locs ls hP hD hS hl)
theorem jj_iast (C0 : jj_C p s m args meth c D cl A nL cc own Ts tys EV) {a q0 t0 : Nat} {cA : ClassId} {n : Nat} {f : Nat → Int} (ha : ws[q0]? = some (a, .inl (cA, n, .inl (iA f)))) (ht : tys[t0]? = some (cA, .int)) {k : Nat} {z : Int} (hk : (k : Int) = z) (hkn : k < n) (hn : n ≤ 2147483647) {v : Int} {ws' : va_W} (hset : ws.set q0 (a, .inl (cA, n, .inl (iA (va_up f k v)))) = ws') (hdg : decode cc pc = .ok (.iastore, 1)) (kk : jj_W p l e R s m args below meth c D cl A nL cells slots Q (pc + 1) (lv) (rest) (ws')) : jj_W p l e R s m args below meth c D cl A nL cells slots Q (pc) (lv) (.int (iI v) :: .int (iI z) :: .ref a :: rest) (ws) :=
  fun H locs ls hP hD hS hl => va_iast C0.1 C0.2.1 C0.2.2.2.2.2.1 hP hD hS q0 t0 ha ht (iI_in hk hkn hn) hdg (fun H1 locs1 hP1 hD1 hS1 => by subst hset; rw [iA_up f v (iI_nat hk (by omega))] at hP1 hD1; exact kk H1 locs1 ls hP1 hD1 hS1 hl)
theorem jj_zast (C0 : jj_C p s m args meth c D cl A nL cc own Ts tys EV) {a q0 t0 : Nat} {cA : ClassId} {n : Nat} {f : Nat → Int} (ha : ws[q0]? = some (a, .inl (cA, n, .inl (iA f)))) (ht : tys[t0]? = some (cA, .boolean)) {k : Nat} {z : Int} (hk : (k : Int) = z) (hkn : k < n) (hn : n ≤ 2147483647) {v : Int} (hv : v = 0 ∨ v = 1) {ws' : va_W} (hset : ws.set q0 (a, .inl (cA, n, .inl (iA (va_up f k v)))) = ws') (hdg : decode cc pc = .ok (.bastore, 1)) (kk : jj_W p l e R s m args below meth c D cl A nL cells slots Q (pc + 1) (lv) (rest) (ws')) : jj_W p l e R s m args below meth c D cl A nL cells slots Q (pc) (lv) (.int (iI v) :: .int (iI z) :: .ref a :: rest) (ws) :=
  fun H locs ls hP hD hS hl => va_zast C0.1 C0.2.1 C0.2.2.2.2.2.1 hP hD hS q0 t0 ha ht (iI_in hk hkn hn) hdg (fun H1 locs1 hP1 hD1 hS1 => by subst hset; rw [iI_bool hv, iA_up f v (iI_nat hk (by omega))] at hP1 hD1; exact kk H1 locs1 ls hP1 hD1 hS1 hl)
theorem jj_last (C0 : jj_C p s m args meth c D cl A nL cc own Ts tys EV) {a q0 t0 : Nat} {cA : ClassId} {n : Nat} {f : Nat → Int} (ha : ws[q0]? = some (a, .inl (cA, n, .inr (.inl (lA f))))) (ht : tys[t0]? = some (cA, .long)) {k : Nat} {z : Int} (hk : (k : Int) = z) (hkn : k < n) (hn : n ≤ 2147483647) {v : Int} {ws' : va_W} (hset : ws.set q0 (a, .inl (cA, n, .inr (.inl (lA (va_up f k v))))) = ws') (hdg : decode cc pc = .ok (.lastore, 1)) (kk : jj_W p l e R s m args below meth c D cl A nL cells slots Q (pc + 1) (lv) (rest) (ws')) : jj_W p l e R s m args below meth c D cl A nL cells slots Q (pc) (lv) (.long (lI v) :: .int (iI z) :: .ref a :: rest) (ws) :=
  fun H locs ls hP hD hS hl => va_last C0.1 C0.2.1 C0.2.2.2.2.2.1 hP hD hS q0 t0 ha ht (iI_in hk hkn hn) hdg (fun H1 locs1 hP1 hD1 hS1 => by subst hset; rw [lA_up f v (iI_nat hk (by omega))] at hP1 hD1; exact kk H1 locs1 ls hP1 hD1 hS1 hl)
theorem jj_alen (C0 : jj_C p s m args meth c D cl A nL cc own Ts tys EV) {a q0 t0 : Nat} {cA : ClassId} {xx : vp_A} {ty : FieldType} {z : Int} (ha : ws[q0]? = some (a, .inl (cA, xx))) (ht : tys[t0]? = some (cA, ty)) (hz : (xx.1 : Int) = z) (hdg : decode cc pc = .ok (.arraylength, 1)) (kk : jj_W p l e R s m args below meth c D cl A nL cells slots Q (pc + 1) (lv) (.int (iI z) :: rest) (ws)) : jj_W p l e R s m args below meth c D cl A nL cells slots Q (pc) (lv) (.ref a :: rest) (ws) :=
  fun H locs ls hP hD hS hl => va_alen C0.1 C0.2.1 C0.2.2.2.2.2.1 hP q0 t0 ha ht (by rw [← hz]; exact Int32.ofInt_eq_ofNat.symm) hdg (kk H locs ls hP hD hS hl)
theorem iI_max {a b : Int} (ha : iR a) (hb : iR b) : (if iI a < iI b then iI b else iI a) = iI (max a b) := by
  by_cases h : a < b
  · rw [if_pos ((iI_lt ha hb).mpr h), Int.max_eq_right (by omega)]
  · rw [if_neg (fun q => h ((iI_lt ha hb).mp q)), Int.max_eq_left (by omega)]
theorem lI_max {a b : Int} (ha : lR a) (hb : lR b) : (if lI b < lI a then lI a else lI b) = lI (max a b) := by
  by_cases h : b < a
  · rw [if_pos ((lI_lt hb ha).mpr h), Int.max_eq_left (by omega)]
  · rw [if_neg (fun q => h ((lI_lt hb ha).mp q)), Int.max_eq_right (by omega)]
theorem iI_abs {a : Int} (ha : iR a) (h2 : a ≠ -2147483648) : (if 0 ≤ iI a then iI a else 0 - iI a) = iI (if 0 ≤ a then a else -a) := by
  by_cases h : 0 ≤ a
  · rw [if_pos ((iI_0le ha).mpr h), if_pos h]
  · rw [if_neg (fun q => h ((iI_0le ha).mp q)), if_neg h, ← iI_0, iI_sub]
    congr 1
    omega
theorem jj_mmax (C0 : jj_C p s m args meth c D cl A nL cc own Ts tys EV) {index : Nat} {a b : Int} (ha : iR a) (hb : iR b) (hlink : (Cond.methodLink own index Lib.Math.max.name).before args s = true) (hin : ∀ w ∈ [Cond.static Lib.Math.max.name, Cond.initialized "java/lang/Math", Cond.code Lib.Math.max.name Lib.Math.max.code 2 (some .int)], w.before args s = true) (hfr : 1 ≤ R.frames) (hlo : (rest.map fun v => v.category).sum + 13 ≤ R.locals) (hcs : cells ≤ R.cells ∧ slots ≤ R.slots) (hdg : decode cc pc = .ok (.invokestatic index, 3)) (kk : jj_W p l e R s m args below meth c D cl A nL cells slots Q (pc + 3) (lv) (.int (iI (max a b)) :: rest) (ws)) : jj_W p l e R s m args below meth c D cl A nL cells slots Q (pc) (lv) (.int (iI b) :: .int (iI a) :: rest) (ws) :=
  fun H locs ls hP hD hS hl => va_mmax C0.1 C0.2.1 (C0.2.2.1.trans hl.1.symm) C0.2.2.2.1 hlink (hin _ List.mem_cons_self) (hin _ (List.mem_cons_of_mem _ List.mem_cons_self)) (hin _ (List.mem_cons_of_mem _ (List.mem_cons_of_mem _ List.mem_cons_self))) hfr hlo hcs.1 hcs.2 hdg (by rw [iI_max ha hb]; exact kk H locs ls hP hD hS hl)
theorem jj_mmaxl (C0 : jj_C p s m args meth c D cl A nL cc own Ts tys EV) {index : Nat} {a b : Int} (ha : lR a) (hb : lR b) (hlink : (Cond.methodLink own index Lib.MathLoose.max_long.x).before args s = true) (hin : ∀ w ∈ [Cond.static Lib.MathLoose.max_long.x, Cond.initialized "java/lang/Math", Cond.code Lib.MathLoose.max_long.x Lib.MathLoose.max_long.code 4 (some .long)], w.before args s = true) (hfr : 1 ≤ R.frames) (hlo : (rest.map fun v => v.category).sum + 15 ≤ R.locals) (hcs : cells ≤ R.cells ∧ slots ≤ R.slots) (hdg : decode cc pc = .ok (.invokestatic index, 3)) (kk : jj_W p l e R s m args below meth c D cl A nL cells slots Q (pc + 3) (lv) (.long (lI (max a b)) :: rest) (ws)) : jj_W p l e R s m args below meth c D cl A nL cells slots Q (pc) (lv) (.long (lI b) :: .long (lI a) :: rest) (ws) :=
  fun H locs ls hP hD hS hl => va_mmax_long C0.1 C0.2.1 (C0.2.2.1.trans hl.1.symm) C0.2.2.2.1 hlink (hin _ List.mem_cons_self) (hin _ (List.mem_cons_of_mem _ List.mem_cons_self)) (hin _ (List.mem_cons_of_mem _ (List.mem_cons_of_mem _ List.mem_cons_self))) hfr hlo hcs.1 hcs.2 hdg (by rw [lI_max ha hb]; exact kk H locs ls hP hD hS hl)
theorem jj_mabs (C0 : jj_C p s m args meth c D cl A nL cc own Ts tys EV) {index : Nat} {a : Int} (ha : iR a) (h2 : a ≠ -2147483648) (hlink : (Cond.methodLink own index Lib.Math.abs.name).before args s = true) (hin : ∀ w ∈ [Cond.static Lib.Math.abs.name, Cond.initialized "java/lang/Math", Cond.code Lib.Math.abs.name Lib.Math.abs.code 1 (some .int)], w.before args s = true) (hfr : 1 ≤ R.frames) (hlo : (rest.map fun v => v.category).sum + 13 ≤ R.locals) (hcs : cells ≤ R.cells ∧ slots ≤ R.slots) (hdg : decode cc pc = .ok (.invokestatic index, 3)) (kk : jj_W p l e R s m args below meth c D cl A nL cells slots Q (pc + 3) (lv) (.int (iI (if 0 ≤ a then a else -a)) :: rest) (ws)) : jj_W p l e R s m args below meth c D cl A nL cells slots Q (pc) (lv) (.int (iI a) :: rest) (ws) :=
  fun H locs ls hP hD hS hl => va_mabs C0.1 C0.2.1 (C0.2.2.1.trans hl.1.symm) C0.2.2.2.1 hlink (hin _ List.mem_cons_self) (hin _ (List.mem_cons_of_mem _ List.mem_cons_self)) (hin _ (List.mem_cons_of_mem _ (List.mem_cons_of_mem _ List.mem_cons_self))) hfr hlo hcs.1 hcs.2 hdg (by rw [iI_abs ha h2]; exact kk H locs ls hP hD hS hl)
theorem iI_min {a b : Int} (ha : iR a) (hb : iR b) : (if iI b < iI a then iI b else iI a) = iI (min a b) := by
  by_cases h : b < a
  · rw [if_pos ((iI_lt hb ha).mpr h), Int.min_eq_right (by omega)]
  · rw [if_neg (fun q => h ((iI_lt hb ha).mp q)), Int.min_eq_left (by omega)]
theorem jj_mmin (C0 : jj_C p s m args meth c D cl A nL cc own Ts tys EV) {index : Nat} {a b : Int} (ha : iR a) (hb : iR b) (hlink : (Cond.methodLink own index Lib.Math.min.name).before args s = true) (hin : ∀ w ∈ [Cond.static Lib.Math.min.name, Cond.initialized "java/lang/Math", Cond.code Lib.Math.min.name Lib.Math.min.code 2 (some .int)], w.before args s = true) (hfr : 1 ≤ R.frames) (hlo : (rest.map fun v => v.category).sum + 13 ≤ R.locals) (hcs : cells ≤ R.cells ∧ slots ≤ R.slots) (hdg : decode cc pc = .ok (.invokestatic index, 3)) (kk : jj_W p l e R s m args below meth c D cl A nL cells slots Q (pc + 3) (lv) (.int (iI (min a b)) :: rest) (ws)) : jj_W p l e R s m args below meth c D cl A nL cells slots Q (pc) (lv) (.int (iI b) :: .int (iI a) :: rest) (ws) :=
  fun H locs ls hP hD hS hl => va_mmin C0.1 C0.2.1 (C0.2.2.1.trans hl.1.symm) C0.2.2.2.1 hlink (hin _ List.mem_cons_self) (hin _ (List.mem_cons_of_mem _ List.mem_cons_self)) (hin _ (List.mem_cons_of_mem _ (List.mem_cons_of_mem _ List.mem_cons_self))) hfr hlo hcs.1 hcs.2 hdg (by rw [iI_min ha hb]; exact kk H locs ls hP hD hS hl)
end JJW
/-- a method's start, and its end, over a world -/
def jj_B (EV : (Nat → Prop) → State → Heap → Prop) (D : va_G) (cl : List vw_C) (tys : List (ClassId × FieldType)) (ws : va_W) (sz : Nat) : State → Prop := fun U => U.heap.size = sz ∧ va_P D cl ws U.heap ∧ va_K D cl tys U ∧ va_D (fun _ => True) ws ∧ EV (va_A ws sz) U U.heap
def jj_P {S : Type} (D : va_G) (cl : List vw_C) (tys : List (ClassId × FieldType)) (A : Nat → Prop) (ws' : S → va_W) : S → State → Prop := fun u t => va_P D cl (ws' u) t.heap ∧ va_K D cl tys t ∧ va_D A (ws' u)
abbrev jj_Qi {S : Type} (D : va_G) (cl : List vw_C) (tys : List (ClassId × FieldType)) (val : S → Int) (post : S → Prop) (ws' : S → va_W) (A : Nat → Prop) := va_Qi (fun (r : Int32) (u : S) => r = iI (val u) ∧ post u) (jj_P D cl tys A ws') A
abbrev jj_Ql {S : Type} (D : va_G) (cl : List vw_C) (tys : List (ClassId × FieldType)) (val : S → Int) (post : S → Prop) (ws' : S → va_W) (A : Nat → Prop) := va_Ql (fun (r : Int64) (u : S) => r = lI (val u) ∧ post u) (jj_P D cl tys A ws') A
abbrev jj_Qv {S : Type} (D : va_G) (cl : List vw_C) (tys : List (ClassId × FieldType)) (post : S → Prop) (ws' : S → va_W) (A : Nat → Prop) := va_Qv (fun (u : S) => post u) (jj_P D cl tys A ws') A
/-- an address: of those of the world, by its place in val -/
abbrev jj_Qr {S : Type} (D : va_G) (cl : List vw_C) (tys : List (ClassId × FieldType)) (val : S → Nat) (post : S → Prop) (ws' : S → va_W) (A : Nat → Prop) := va_Qr (fun (u : S) => post u) (fun (u : S) (a : Nat) (t : State) => a = val u ∧ jj_P D cl tys A ws' u t) A
/-- contracts: from the world ws the method answers val u and leaves ws' u, for a u with post u -/
abbrev jj_Mi (EV : (Nat → Prop) → State → Heap → Prop) (D : va_G) (cl : List vw_C) (tys : List (ClassId × FieldType)) (l : Launch) (y : MethodName) (wsl : List Cond) (rm : Room) (as : List Value) (ws : va_W) {S : Type} (val : S → Int) (post : S → Prop) (ws' : S → va_W) : Prop := ∀ sz : Nat, Met l y wsl rm (va_Pc as (jj_B EV D cl tys ws sz)) (jj_Qi D cl tys val post ws' (va_A ws sz)) rm.cells rm.slots (va_A ws sz)
abbrev jj_Ml (EV : (Nat → Prop) → State → Heap → Prop) (D : va_G) (cl : List vw_C) (tys : List (ClassId × FieldType)) (l : Launch) (y : MethodName) (wsl : List Cond) (rm : Room) (as : List Value) (ws : va_W) {S : Type} (val : S → Int) (post : S → Prop) (ws' : S → va_W) : Prop := ∀ sz : Nat, Met l y wsl rm (va_Pc as (jj_B EV D cl tys ws sz)) (jj_Ql D cl tys val post ws' (va_A ws sz)) rm.cells rm.slots (va_A ws sz)
abbrev jj_Mv (EV : (Nat → Prop) → State → Heap → Prop) (D : va_G) (cl : List vw_C) (tys : List (ClassId × FieldType)) (l : Launch) (y : MethodName) (wsl : List Cond) (rm : Room) (as : List Value) (ws : va_W) {S : Type} (post : S → Prop) (ws' : S → va_W) : Prop := ∀ sz : Nat, Met l y wsl rm (va_Pc as (jj_B EV D cl tys ws sz)) (jj_Qv D cl tys post ws' (va_A ws sz)) rm.cells rm.slots (va_A ws sz)
abbrev jj_Mr (EV : (Nat → Prop) → State → Heap → Prop) (D : va_G) (cl : List vw_C) (tys : List (ClassId × FieldType)) (l : Launch) (y : MethodName) (wsl : List Cond) (rm : Room) (as : List Value) (ws : va_W) {S : Type} (val : S → Nat) (post : S → Prop) (ws' : S → va_W) : Prop := ∀ sz : Nat, Met l y wsl rm (va_Pc as (jj_B EV D cl tys ws sz)) (jj_Qr D cl tys val post ws' (va_A ws sz)) rm.cells rm.slots (va_A ws sz)
theorem jj_blind {EV : (Nat → Prop) → State → Heap → Prop} {D : va_G} {cl : List vw_C} {tys : List (ClassId × FieldType)} {ws : va_W} {sz : Nat} (as : List Value) (hEV : jj_EV EV) : FrameBlind (va_Pc as (jj_B EV D cl tys ws sz)) := fun a U g mk h =>
  ⟨h.1, h.2.1, h.2.2.1, va_K.moved (u := U) (U := U.calling g mk a) (Vm.Alike.refl U.vm) h.2.2.2.1, h.2.2.2.2.1, hEV.2.2.2 _ U (U.calling g mk a) _ rfl h.2.2.2.2.2⟩
section JJV
variable {p : Program} {l : Launch} {e : Env} {R : Room} {s : State} {m : MethodId} {args : Array Value} {below : List Frame} {meth : Method} {c : Code} {D : va_G} {cl : List vw_C} {A : Nat → Prop} {nL cells slots : Nat} {Q : State → Prop} {cc : ByteArray} {pc : Nat} {rest : List Value} {lv : List (Nat × Value)} {ws : va_W} {own : String} {Ts : List Cond} {tys : List (ClassId × FieldType)} {EV : (Nat → Prop) → State → Heap → Prop}

theorem jj_pre (C0 : jj_C p s m args meth c D cl A nL cc own Ts tys EV) {H : Heap} {locs : List Loc} (hP : va_P D cl ws H) (hD : va_D A ws) (hS : va_S A s.heap H locs) : (∀ q, va_A ws H.size q → A q) ∧ ∀ U : State, U.heap = H → s.WarmedH U.vm → jj_B EV D cl tys ws H.size U := by
  have hF : ∀ q, va_A ws H.size q → A q := by
    rintro q (⟨k, e, h⟩ | h)
    · exact hD.2 k (q, e) h
    · exact C0.2.2.2.2.2.2.1 q (Nat.le_trans hS.1 h)
  have hE := C0.2.2.2.2.2.2.2.2.1
  refine ⟨hF, fun U hU hW => ⟨by rw [hU], by rw [hU]; exact hP, va_K.moved hW.alike C0.2.2.2.2.2.1, ⟨hD.1, fun _ _ _ => trivial⟩, ?_⟩⟩
  rw [hU]
  exact hE.2.2.1 _ s U _ hW (hE.2.1 _ _ _ _ (hE.1 _ _ _ _ C0.2.2.2.2.2.2.2.1 hS.2.1) hF)

theorem jj_callVi (C0 : jj_C p s m args meth c D cl A nL cc own Ts tys EV) {y : MethodName} {bytes : ByteArray} {maxL n index cells' slots' : Nat} {ret : Option FieldType} {wsl : List Cond} {rm : Room} {As st : List Value} {S : Type} {val : S → Int} {post : S → Prop} {ws' : S → va_W} {C : String} {b : Nat} (hM : jj_Mi EV D cl tys l y wsl rm (.ref b :: As) ws val post ws') (cw : CallW R s args own C index y bytes maxL ret wsl rm rm.cells rm.slots n) {ci q0 : Nat} {T : u_T} {N : Nat} {fs : List Value} (hc : cl[ci]? = some (C, T, N)) (he : ws[q0]? = some (b, .inr (ci, fs))) (hst : st = As.reverse ++ .ref b :: rest) (hn : As.length = n) (hroom : (rest.map fun v => v.category).sum ≤ 8) (hf : cells + rm.cells ≤ R.cells ∧ slots + rm.slots ≤ R.slots) (hcs1 : cells + rm.cells = cells') (hcs2 : slots + rm.slots = slots') (hdg : decode cc pc = .ok (.invokevirtual index, 3)) (kk : ∀ u : S, post u → jj_W p l e R s m args below meth c D cl A nL cells' slots' Q (pc + 3) (lv) (.int (iI (val u)) :: rest) (ws' u)) : jj_W p l e R s m args below meth c D cl A nL cells slots Q (pc) (lv) (st) (ws) := by
  intro H locs ls hP hD hS hl
  obtain ⟨hF, hB0⟩ := jj_pre C0 hP hD hS
  exact va_calli (va_runV (As := As) (rest := rest) ⟨C0.1, C0.2.1, C0.2.2.1, C0.2.2.2.1, C0.2.2.2.2.1⟩ (hM H.size) cw ⟨jj_blind _ C0.2.2.2.2.2.2.2.2.1, va_recv C0.2.2.2.2.2.1 hP hc he, fun U hU hW => ⟨rfl, hB0 U hU hW⟩⟩ rfl hn hl.1 hst (lv_room hroom) hdg hf) hS (fun q _ h => hF q h) hF (fun r u t H1 locs1 ht hvm hw hB hz hk hS1 => by
    obtain ⟨rfl, hp⟩ := hw
    obtain ⟨hP1, hK1, hD1⟩ := hB
    rw [ht] at hP1
    subst hcs1 hcs2
    exact kk u hp H1 locs1 ls hP1 (hD1.weaken (fun k q _ h => hF q.1 h)) hS1 hl)
theorem jj_callVNi (C0 : jj_C p s m args meth c D cl A nL cc own Ts tys EV) {y : MethodName} {bytes : ByteArray} {maxL n index cells' slots' : Nat} {ret : Option FieldType} {wsl : List Cond} {rm : Room} {As st : List Value} {S : Type} {val : S → Int} {post : S → Prop} {ws' : S → va_W} {C : String} {host : String} {b : Nat} (hM : jj_Mi EV D cl tys l y wsl rm (.ref b :: As) ws val post ws') (cw : va_CN R s args own index y host bytes maxL ret wsl rm rm.cells rm.slots n ∧ (Cond.instanceMethod y).before args s = true ∧ (Cond.selects C y y).before args s = true) {ci q0 : Nat} {T : u_T} {N : Nat} {fs : List Value} (hc : cl[ci]? = some (C, T, N)) (he : ws[q0]? = some (b, .inr (ci, fs))) (hst : st = As.reverse ++ .ref b :: rest) (hn : As.length = n) (hroom : (rest.map fun v => v.category).sum ≤ 8) (hf : cells + rm.cells ≤ R.cells ∧ slots + rm.slots ≤ R.slots) (hcs1 : cells + rm.cells = cells') (hcs2 : slots + rm.slots = slots') (hdg : decode cc pc = .ok (.invokevirtual index, 3)) (kk : ∀ u : S, post u → jj_W p l e R s m args below meth c D cl A nL cells' slots' Q (pc + 3) (lv) (.int (iI (val u)) :: rest) (ws' u)) : jj_W p l e R s m args below meth c D cl A nL cells slots Q (pc) (lv) (st) (ws) := by
  intro H locs ls hP hD hS hl
  obtain ⟨hF, hB0⟩ := jj_pre C0 hP hD hS
  exact va_calli (va_runVN (As := As) (rest := rest) ⟨C0.1, C0.2.1, C0.2.2.1, C0.2.2.2.1, C0.2.2.2.2.1⟩ (hM H.size) cw ⟨jj_blind _ C0.2.2.2.2.2.2.2.2.1, va_recv C0.2.2.2.2.2.1 hP hc he, fun U hU hW => ⟨rfl, hB0 U hU hW⟩⟩ rfl hn hl.1 hst (lv_room hroom) hdg hf) hS (fun q _ h => hF q h) hF (fun r u t H1 locs1 ht hvm hw hB hz hk hS1 => by
    obtain ⟨rfl, hp⟩ := hw
    obtain ⟨hP1, hK1, hD1⟩ := hB
    rw [ht] at hP1
    subst hcs1 hcs2
    exact kk u hp H1 locs1 ls hP1 (hD1.weaken (fun k q _ h => hF q.1 h)) hS1 hl)
theorem jj_callSi (C0 : jj_C p s m args meth c D cl A nL cc own Ts tys EV) {y : MethodName} {bytes : ByteArray} {maxL n index cells' slots' : Nat} {ret : Option FieldType} {wsl : List Cond} {rm : Room} {As st : List Value} {S : Type} {val : S → Int} {post : S → Prop} {ws' : S → va_W} (hM : jj_Mi EV D cl tys l y wsl rm As ws val post ws') (cw : CallB R s args own index y bytes maxL ret wsl rm rm.cells rm.slots n ∧ (Cond.static y).before args s = true) (hst : st = As.reverse ++ rest) (hn : As.length = n) (hroom : (rest.map fun v => v.category).sum ≤ 8) (hf : cells + rm.cells ≤ R.cells ∧ slots + rm.slots ≤ R.slots) (hcs1 : cells + rm.cells = cells') (hcs2 : slots + rm.slots = slots') (hdg : decode cc pc = .ok (.invokestatic index, 3)) (kk : ∀ u : S, post u → jj_W p l e R s m args below meth c D cl A nL cells' slots' Q (pc + 3) (lv) (.int (iI (val u)) :: rest) (ws' u)) : jj_W p l e R s m args below meth c D cl A nL cells slots Q (pc) (lv) (st) (ws) := by
  intro H locs ls hP hD hS hl
  obtain ⟨hF, hB0⟩ := jj_pre C0 hP hD hS
  exact va_calli (va_runS (As := As) (rest := rest) ⟨C0.1, C0.2.1, C0.2.2.1, C0.2.2.2.1, C0.2.2.2.2.1⟩ (hM H.size) cw ⟨jj_blind _ C0.2.2.2.2.2.2.2.2.1, fun U hU hW => ⟨rfl, hB0 U hU hW⟩⟩ rfl hn hl.1 hst (lv_room hroom) hdg hf) hS (fun q _ h => hF q h) hF (fun r u t H1 locs1 ht hvm hw hB hz hk hS1 => by
    obtain ⟨rfl, hp⟩ := hw
    obtain ⟨hP1, hK1, hD1⟩ := hB
    rw [ht] at hP1
    subst hcs1 hcs2
    exact kk u hp H1 locs1 ls hP1 (hD1.weaken (fun k q _ h => hF q.1 h)) hS1 hl)
theorem jj_callSNi (C0 : jj_C p s m args meth c D cl A nL cc own Ts tys EV) {y : MethodName} {bytes : ByteArray} {maxL n index cells' slots' : Nat} {ret : Option FieldType} {wsl : List Cond} {rm : Room} {As st : List Value} {S : Type} {val : S → Int} {post : S → Prop} {ws' : S → va_W} {host : String} (hM : jj_Mi EV D cl tys l y wsl rm As ws val post ws') (cw : va_CN R s args own index y host bytes maxL ret wsl rm rm.cells rm.slots n ∧ (Cond.static y).before args s = true ∧ True) (hst : st = As.reverse ++ rest) (hn : As.length = n) (hroom : (rest.map fun v => v.category).sum ≤ 8) (hf : cells + rm.cells ≤ R.cells ∧ slots + rm.slots ≤ R.slots) (hcs1 : cells + rm.cells = cells') (hcs2 : slots + rm.slots = slots') (hdg : decode cc pc = .ok (.invokestatic index, 3)) (kk : ∀ u : S, post u → jj_W p l e R s m args below meth c D cl A nL cells' slots' Q (pc + 3) (lv) (.int (iI (val u)) :: rest) (ws' u)) : jj_W p l e R s m args below meth c D cl A nL cells slots Q (pc) (lv) (st) (ws) := by
  intro H locs ls hP hD hS hl
  obtain ⟨hF, hB0⟩ := jj_pre C0 hP hD hS
  exact va_calli (va_runSN (As := As) (rest := rest) ⟨C0.1, C0.2.1, C0.2.2.1, C0.2.2.2.1, C0.2.2.2.2.1⟩ (hM H.size) cw ⟨jj_blind _ C0.2.2.2.2.2.2.2.2.1, fun U hU hW => ⟨rfl, hB0 U hU hW⟩⟩ rfl hn hl.1 hst (lv_room hroom) hdg hf) hS (fun q _ h => hF q h) hF (fun r u t H1 locs1 ht hvm hw hB hz hk hS1 => by
    obtain ⟨rfl, hp⟩ := hw
    obtain ⟨hP1, hK1, hD1⟩ := hB
    rw [ht] at hP1
    subst hcs1 hcs2
    exact kk u hp H1 locs1 ls hP1 (hD1.weaken (fun k q _ h => hF q.1 h)) hS1 hl)
theorem jj_callVl (C0 : jj_C p s m args meth c D cl A nL cc own Ts tys EV) {y : MethodName} {bytes : ByteArray} {maxL n index cells' slots' : Nat} {ret : Option FieldType} {wsl : List Cond} {rm : Room} {As st : List Value} {S : Type} {val : S → Int} {post : S → Prop} {ws' : S → va_W} {C : String} {b : Nat} (hM : jj_Ml EV D cl tys l y wsl rm (.ref b :: As) ws val post ws') (cw : CallW R s args own C index y bytes maxL ret wsl rm rm.cells rm.slots n) {ci q0 : Nat} {T : u_T} {N : Nat} {fs : List Value} (hc : cl[ci]? = some (C, T, N)) (he : ws[q0]? = some (b, .inr (ci, fs))) (hst : st = As.reverse ++ .ref b :: rest) (hn : As.length = n) (hroom : (rest.map fun v => v.category).sum ≤ 8) (hf : cells + rm.cells ≤ R.cells ∧ slots + rm.slots ≤ R.slots) (hcs1 : cells + rm.cells = cells') (hcs2 : slots + rm.slots = slots') (hdg : decode cc pc = .ok (.invokevirtual index, 3)) (kk : ∀ u : S, post u → jj_W p l e R s m args below meth c D cl A nL cells' slots' Q (pc + 3) (lv) (.long (lI (val u)) :: rest) (ws' u)) : jj_W p l e R s m args below meth c D cl A nL cells slots Q (pc) (lv) (st) (ws) := by
  intro H locs ls hP hD hS hl
  obtain ⟨hF, hB0⟩ := jj_pre C0 hP hD hS
  exact va_calll (va_runV (As := As) (rest := rest) ⟨C0.1, C0.2.1, C0.2.2.1, C0.2.2.2.1, C0.2.2.2.2.1⟩ (hM H.size) cw ⟨jj_blind _ C0.2.2.2.2.2.2.2.2.1, va_recv C0.2.2.2.2.2.1 hP hc he, fun U hU hW => ⟨rfl, hB0 U hU hW⟩⟩ rfl hn hl.1 hst (lv_room hroom) hdg hf) hS (fun q _ h => hF q h) hF (fun r u t H1 locs1 ht hvm hw hB hz hk hS1 => by
    obtain ⟨rfl, hp⟩ := hw
    obtain ⟨hP1, hK1, hD1⟩ := hB
    rw [ht] at hP1
    subst hcs1 hcs2
    exact kk u hp H1 locs1 ls hP1 (hD1.weaken (fun k q _ h => hF q.1 h)) hS1 hl)
theorem jj_callVNl (C0 : jj_C p s m args meth c D cl A nL cc own Ts tys EV) {y : MethodName} {bytes : ByteArray} {maxL n index cells' slots' : Nat} {ret : Option FieldType} {wsl : List Cond} {rm : Room} {As st : List Value} {S : Type} {val : S → Int} {post : S → Prop} {ws' : S → va_W} {C : String} {host : String} {b : Nat} (hM : jj_Ml EV D cl tys l y wsl rm (.ref b :: As) ws val post ws') (cw : va_CN R s args own index y host bytes maxL ret wsl rm rm.cells rm.slots n ∧ (Cond.instanceMethod y).before args s = true ∧ (Cond.selects C y y).before args s = true) {ci q0 : Nat} {T : u_T} {N : Nat} {fs : List Value} (hc : cl[ci]? = some (C, T, N)) (he : ws[q0]? = some (b, .inr (ci, fs))) (hst : st = As.reverse ++ .ref b :: rest) (hn : As.length = n) (hroom : (rest.map fun v => v.category).sum ≤ 8) (hf : cells + rm.cells ≤ R.cells ∧ slots + rm.slots ≤ R.slots) (hcs1 : cells + rm.cells = cells') (hcs2 : slots + rm.slots = slots') (hdg : decode cc pc = .ok (.invokevirtual index, 3)) (kk : ∀ u : S, post u → jj_W p l e R s m args below meth c D cl A nL cells' slots' Q (pc + 3) (lv) (.long (lI (val u)) :: rest) (ws' u)) : jj_W p l e R s m args below meth c D cl A nL cells slots Q (pc) (lv) (st) (ws) := by
  intro H locs ls hP hD hS hl
  obtain ⟨hF, hB0⟩ := jj_pre C0 hP hD hS
  exact va_calll (va_runVN (As := As) (rest := rest) ⟨C0.1, C0.2.1, C0.2.2.1, C0.2.2.2.1, C0.2.2.2.2.1⟩ (hM H.size) cw ⟨jj_blind _ C0.2.2.2.2.2.2.2.2.1, va_recv C0.2.2.2.2.2.1 hP hc he, fun U hU hW => ⟨rfl, hB0 U hU hW⟩⟩ rfl hn hl.1 hst (lv_room hroom) hdg hf) hS (fun q _ h => hF q h) hF (fun r u t H1 locs1 ht hvm hw hB hz hk hS1 => by
    obtain ⟨rfl, hp⟩ := hw
    obtain ⟨hP1, hK1, hD1⟩ := hB
    rw [ht] at hP1
    subst hcs1 hcs2
    exact kk u hp H1 locs1 ls hP1 (hD1.weaken (fun k q _ h => hF q.1 h)) hS1 hl)
theorem jj_callSl (C0 : jj_C p s m args meth c D cl A nL cc own Ts tys EV) {y : MethodName} {bytes : ByteArray} {maxL n index cells' slots' : Nat} {ret : Option FieldType} {wsl : List Cond} {rm : Room} {As st : List Value} {S : Type} {val : S → Int} {post : S → Prop} {ws' : S → va_W} (hM : jj_Ml EV D cl tys l y wsl rm As ws val post ws') (cw : CallB R s args own index y bytes maxL ret wsl rm rm.cells rm.slots n ∧ (Cond.static y).before args s = true) (hst : st = As.reverse ++ rest) (hn : As.length = n) (hroom : (rest.map fun v => v.category).sum ≤ 8) (hf : cells + rm.cells ≤ R.cells ∧ slots + rm.slots ≤ R.slots) (hcs1 : cells + rm.cells = cells') (hcs2 : slots + rm.slots = slots') (hdg : decode cc pc = .ok (.invokestatic index, 3)) (kk : ∀ u : S, post u → jj_W p l e R s m args below meth c D cl A nL cells' slots' Q (pc + 3) (lv) (.long (lI (val u)) :: rest) (ws' u)) : jj_W p l e R s m args below meth c D cl A nL cells slots Q (pc) (lv) (st) (ws) := by
  intro H locs ls hP hD hS hl
  obtain ⟨hF, hB0⟩ := jj_pre C0 hP hD hS
  exact va_calll (va_runS (As := As) (rest := rest) ⟨C0.1, C0.2.1, C0.2.2.1, C0.2.2.2.1, C0.2.2.2.2.1⟩ (hM H.size) cw ⟨jj_blind _ C0.2.2.2.2.2.2.2.2.1, fun U hU hW => ⟨rfl, hB0 U hU hW⟩⟩ rfl hn hl.1 hst (lv_room hroom) hdg hf) hS (fun q _ h => hF q h) hF (fun r u t H1 locs1 ht hvm hw hB hz hk hS1 => by
    obtain ⟨rfl, hp⟩ := hw
    obtain ⟨hP1, hK1, hD1⟩ := hB
    rw [ht] at hP1
    subst hcs1 hcs2
    exact kk u hp H1 locs1 ls hP1 (hD1.weaken (fun k q _ h => hF q.1 h)) hS1 hl)
theorem jj_callSNl (C0 : jj_C p s m args meth c D cl A nL cc own Ts tys EV) {y : MethodName} {bytes : ByteArray} {maxL n index cells' slots' : Nat} {ret : Option FieldType} {wsl : List Cond} {rm : Room} {As st : List Value} {S : Type} {val : S → Int} {post : S → Prop} {ws' : S → va_W} {host : String} (hM : jj_Ml EV D cl tys l y wsl rm As ws val post ws') (cw : va_CN R s args own index y host bytes maxL ret wsl rm rm.cells rm.slots n ∧ (Cond.static y).before args s = true ∧ True) (hst : st = As.reverse ++ rest) (hn : As.length = n) (hroom : (rest.map fun v => v.category).sum ≤ 8) (hf : cells + rm.cells ≤ R.cells ∧ slots + rm.slots ≤ R.slots) (hcs1 : cells + rm.cells = cells') (hcs2 : slots + rm.slots = slots') (hdg : decode cc pc = .ok (.invokestatic index, 3)) (kk : ∀ u : S, post u → jj_W p l e R s m args below meth c D cl A nL cells' slots' Q (pc + 3) (lv) (.long (lI (val u)) :: rest) (ws' u)) : jj_W p l e R s m args below meth c D cl A nL cells slots Q (pc) (lv) (st) (ws) := by
  intro H locs ls hP hD hS hl
  obtain ⟨hF, hB0⟩ := jj_pre C0 hP hD hS
  exact va_calll (va_runSN (As := As) (rest := rest) ⟨C0.1, C0.2.1, C0.2.2.1, C0.2.2.2.1, C0.2.2.2.2.1⟩ (hM H.size) cw ⟨jj_blind _ C0.2.2.2.2.2.2.2.2.1, fun U hU hW => ⟨rfl, hB0 U hU hW⟩⟩ rfl hn hl.1 hst (lv_room hroom) hdg hf) hS (fun q _ h => hF q h) hF (fun r u t H1 locs1 ht hvm hw hB hz hk hS1 => by
    obtain ⟨rfl, hp⟩ := hw
    obtain ⟨hP1, hK1, hD1⟩ := hB
    rw [ht] at hP1
    subst hcs1 hcs2
    exact kk u hp H1 locs1 ls hP1 (hD1.weaken (fun k q _ h => hF q.1 h)) hS1 hl)
theorem jj_callVv (C0 : jj_C p s m args meth c D cl A nL cc own Ts tys EV) {y : MethodName} {bytes : ByteArray} {maxL n index cells' slots' : Nat} {ret : Option FieldType} {wsl : List Cond} {rm : Room} {As st : List Value} {S : Type}  {post : S → Prop} {ws' : S → va_W} {C : String} {b : Nat} (hM : jj_Mv EV D cl tys l y wsl rm (.ref b :: As) ws  post ws') (cw : CallW R s args own C index y bytes maxL ret wsl rm rm.cells rm.slots n) {ci q0 : Nat} {T : u_T} {N : Nat} {fs : List Value} (hc : cl[ci]? = some (C, T, N)) (he : ws[q0]? = some (b, .inr (ci, fs))) (hst : st = As.reverse ++ .ref b :: rest) (hn : As.length = n) (hroom : (rest.map fun v => v.category).sum ≤ 8) (hf : cells + rm.cells ≤ R.cells ∧ slots + rm.slots ≤ R.slots) (hcs1 : cells + rm.cells = cells') (hcs2 : slots + rm.slots = slots') (hdg : decode cc pc = .ok (.invokevirtual index, 3)) (kk : ∀ u : S, post u → jj_W p l e R s m args below meth c D cl A nL cells' slots' Q (pc + 3) (lv) (rest) (ws' u)) : jj_W p l e R s m args below meth c D cl A nL cells slots Q (pc) (lv) (st) (ws) := by
  intro H locs ls hP hD hS hl
  obtain ⟨hF, hB0⟩ := jj_pre C0 hP hD hS
  exact va_callv (va_runV (As := As) (rest := rest) ⟨C0.1, C0.2.1, C0.2.2.1, C0.2.2.2.1, C0.2.2.2.2.1⟩ (hM H.size) cw ⟨jj_blind _ C0.2.2.2.2.2.2.2.2.1, va_recv C0.2.2.2.2.2.1 hP hc he, fun U hU hW => ⟨rfl, hB0 U hU hW⟩⟩ rfl hn hl.1 hst (lv_room hroom) hdg hf) hS (fun q _ h => hF q h) hF (fun u t H1 locs1 ht hvm hp hB hz hk hS1 => by
    obtain ⟨hP1, hK1, hD1⟩ := hB
    rw [ht] at hP1
    subst hcs1 hcs2
    exact kk u hp H1 locs1 ls hP1 (hD1.weaken (fun k q _ h => hF q.1 h)) hS1 hl)
theorem jj_callVNv (C0 : jj_C p s m args meth c D cl A nL cc own Ts tys EV) {y : MethodName} {bytes : ByteArray} {maxL n index cells' slots' : Nat} {ret : Option FieldType} {wsl : List Cond} {rm : Room} {As st : List Value} {S : Type}  {post : S → Prop} {ws' : S → va_W} {C : String} {host : String} {b : Nat} (hM : jj_Mv EV D cl tys l y wsl rm (.ref b :: As) ws  post ws') (cw : va_CN R s args own index y host bytes maxL ret wsl rm rm.cells rm.slots n ∧ (Cond.instanceMethod y).before args s = true ∧ (Cond.selects C y y).before args s = true) {ci q0 : Nat} {T : u_T} {N : Nat} {fs : List Value} (hc : cl[ci]? = some (C, T, N)) (he : ws[q0]? = some (b, .inr (ci, fs))) (hst : st = As.reverse ++ .ref b :: rest) (hn : As.length = n) (hroom : (rest.map fun v => v.category).sum ≤ 8) (hf : cells + rm.cells ≤ R.cells ∧ slots + rm.slots ≤ R.slots) (hcs1 : cells + rm.cells = cells') (hcs2 : slots + rm.slots = slots') (hdg : decode cc pc = .ok (.invokevirtual index, 3)) (kk : ∀ u : S, post u → jj_W p l e R s m args below meth c D cl A nL cells' slots' Q (pc + 3) (lv) (rest) (ws' u)) : jj_W p l e R s m args below meth c D cl A nL cells slots Q (pc) (lv) (st) (ws) := by
  intro H locs ls hP hD hS hl
  obtain ⟨hF, hB0⟩ := jj_pre C0 hP hD hS
  exact va_callv (va_runVN (As := As) (rest := rest) ⟨C0.1, C0.2.1, C0.2.2.1, C0.2.2.2.1, C0.2.2.2.2.1⟩ (hM H.size) cw ⟨jj_blind _ C0.2.2.2.2.2.2.2.2.1, va_recv C0.2.2.2.2.2.1 hP hc he, fun U hU hW => ⟨rfl, hB0 U hU hW⟩⟩ rfl hn hl.1 hst (lv_room hroom) hdg hf) hS (fun q _ h => hF q h) hF (fun u t H1 locs1 ht hvm hp hB hz hk hS1 => by
    obtain ⟨hP1, hK1, hD1⟩ := hB
    rw [ht] at hP1
    subst hcs1 hcs2
    exact kk u hp H1 locs1 ls hP1 (hD1.weaken (fun k q _ h => hF q.1 h)) hS1 hl)
theorem jj_callSv (C0 : jj_C p s m args meth c D cl A nL cc own Ts tys EV) {y : MethodName} {bytes : ByteArray} {maxL n index cells' slots' : Nat} {ret : Option FieldType} {wsl : List Cond} {rm : Room} {As st : List Value} {S : Type}  {post : S → Prop} {ws' : S → va_W} (hM : jj_Mv EV D cl tys l y wsl rm As ws  post ws') (cw : CallB R s args own index y bytes maxL ret wsl rm rm.cells rm.slots n ∧ (Cond.static y).before args s = true) (hst : st = As.reverse ++ rest) (hn : As.length = n) (hroom : (rest.map fun v => v.category).sum ≤ 8) (hf : cells + rm.cells ≤ R.cells ∧ slots + rm.slots ≤ R.slots) (hcs1 : cells + rm.cells = cells') (hcs2 : slots + rm.slots = slots') (hdg : decode cc pc = .ok (.invokestatic index, 3)) (kk : ∀ u : S, post u → jj_W p l e R s m args below meth c D cl A nL cells' slots' Q (pc + 3) (lv) (rest) (ws' u)) : jj_W p l e R s m args below meth c D cl A nL cells slots Q (pc) (lv) (st) (ws) := by
  intro H locs ls hP hD hS hl
  obtain ⟨hF, hB0⟩ := jj_pre C0 hP hD hS
  exact va_callv (va_runS (As := As) (rest := rest) ⟨C0.1, C0.2.1, C0.2.2.1, C0.2.2.2.1, C0.2.2.2.2.1⟩ (hM H.size) cw ⟨jj_blind _ C0.2.2.2.2.2.2.2.2.1, fun U hU hW => ⟨rfl, hB0 U hU hW⟩⟩ rfl hn hl.1 hst (lv_room hroom) hdg hf) hS (fun q _ h => hF q h) hF (fun u t H1 locs1 ht hvm hp hB hz hk hS1 => by
    obtain ⟨hP1, hK1, hD1⟩ := hB
    rw [ht] at hP1
    subst hcs1 hcs2
    exact kk u hp H1 locs1 ls hP1 (hD1.weaken (fun k q _ h => hF q.1 h)) hS1 hl)
theorem jj_callSNv (C0 : jj_C p s m args meth c D cl A nL cc own Ts tys EV) {y : MethodName} {bytes : ByteArray} {maxL n index cells' slots' : Nat} {ret : Option FieldType} {wsl : List Cond} {rm : Room} {As st : List Value} {S : Type}  {post : S → Prop} {ws' : S → va_W} {host : String} (hM : jj_Mv EV D cl tys l y wsl rm As ws  post ws') (cw : va_CN R s args own index y host bytes maxL ret wsl rm rm.cells rm.slots n ∧ (Cond.static y).before args s = true ∧ True) (hst : st = As.reverse ++ rest) (hn : As.length = n) (hroom : (rest.map fun v => v.category).sum ≤ 8) (hf : cells + rm.cells ≤ R.cells ∧ slots + rm.slots ≤ R.slots) (hcs1 : cells + rm.cells = cells') (hcs2 : slots + rm.slots = slots') (hdg : decode cc pc = .ok (.invokestatic index, 3)) (kk : ∀ u : S, post u → jj_W p l e R s m args below meth c D cl A nL cells' slots' Q (pc + 3) (lv) (rest) (ws' u)) : jj_W p l e R s m args below meth c D cl A nL cells slots Q (pc) (lv) (st) (ws) := by
  intro H locs ls hP hD hS hl
  obtain ⟨hF, hB0⟩ := jj_pre C0 hP hD hS
  exact va_callv (va_runSN (As := As) (rest := rest) ⟨C0.1, C0.2.1, C0.2.2.1, C0.2.2.2.1, C0.2.2.2.2.1⟩ (hM H.size) cw ⟨jj_blind _ C0.2.2.2.2.2.2.2.2.1, fun U hU hW => ⟨rfl, hB0 U hU hW⟩⟩ rfl hn hl.1 hst (lv_room hroom) hdg hf) hS (fun q _ h => hF q h) hF (fun u t H1 locs1 ht hvm hp hB hz hk hS1 => by
    obtain ⟨hP1, hK1, hD1⟩ := hB
    rw [ht] at hP1
    subst hcs1 hcs2
    exact kk u hp H1 locs1 ls hP1 (hD1.weaken (fun k q _ h => hF q.1 h)) hS1 hl)
theorem jj_callVr (C0 : jj_C p s m args meth c D cl A nL cc own Ts tys EV) {y : MethodName} {bytes : ByteArray} {maxL n index cells' slots' : Nat} {ret : Option FieldType} {wsl : List Cond} {rm : Room} {As st : List Value} {S : Type} {val : S → Nat} {post : S → Prop} {ws' : S → va_W} {C : String} {b : Nat} (hM : jj_Mr EV D cl tys l y wsl rm (.ref b :: As) ws val post ws') (cw : CallW R s args own C index y bytes maxL ret wsl rm rm.cells rm.slots n) {ci q0 : Nat} {T : u_T} {N : Nat} {fs : List Value} (hc : cl[ci]? = some (C, T, N)) (he : ws[q0]? = some (b, .inr (ci, fs))) (hst : st = As.reverse ++ .ref b :: rest) (hn : As.length = n) (hroom : (rest.map fun v => v.category).sum ≤ 8) (hf : cells + rm.cells ≤ R.cells ∧ slots + rm.slots ≤ R.slots) (hcs1 : cells + rm.cells = cells') (hcs2 : slots + rm.slots = slots') (hdg : decode cc pc = .ok (.invokevirtual index, 3)) (kk : ∀ u : S, post u → jj_W p l e R s m args below meth c D cl A nL cells' slots' Q (pc + 3) (lv) (.ref (val u) :: rest) (ws' u)) : jj_W p l e R s m args below meth c D cl A nL cells slots Q (pc) (lv) (st) (ws) := by
  intro H locs ls hP hD hS hl
  obtain ⟨hF, hB0⟩ := jj_pre C0 hP hD hS
  exact va_callr (va_runV (As := As) (rest := rest) ⟨C0.1, C0.2.1, C0.2.2.1, C0.2.2.2.1, C0.2.2.2.2.1⟩ (hM H.size) cw ⟨jj_blind _ C0.2.2.2.2.2.2.2.2.1, va_recv C0.2.2.2.2.2.1 hP hc he, fun U hU hW => ⟨rfl, hB0 U hU hW⟩⟩ rfl hn hl.1 hst (lv_room hroom) hdg hf) hS (fun q _ h => hF q h) hF (fun u ra t H1 locs1 ht hvm hp hB hz hk hS1 => by
    obtain ⟨rfl, hP1, hK1, hD1⟩ := hB
    rw [ht] at hP1
    subst hcs1 hcs2
    exact kk u hp H1 locs1 ls hP1 (hD1.weaken (fun k q _ h => hF q.1 h)) hS1 hl)
theorem jj_callVNr (C0 : jj_C p s m args meth c D cl A nL cc own Ts tys EV) {y : MethodName} {bytes : ByteArray} {maxL n index cells' slots' : Nat} {ret : Option FieldType} {wsl : List Cond} {rm : Room} {As st : List Value} {S : Type} {val : S → Nat} {post : S → Prop} {ws' : S → va_W} {C : String} {host : String} {b : Nat} (hM : jj_Mr EV D cl tys l y wsl rm (.ref b :: As) ws val post ws') (cw : va_CN R s args own index y host bytes maxL ret wsl rm rm.cells rm.slots n ∧ (Cond.instanceMethod y).before args s = true ∧ (Cond.selects C y y).before args s = true) {ci q0 : Nat} {T : u_T} {N : Nat} {fs : List Value} (hc : cl[ci]? = some (C, T, N)) (he : ws[q0]? = some (b, .inr (ci, fs))) (hst : st = As.reverse ++ .ref b :: rest) (hn : As.length = n) (hroom : (rest.map fun v => v.category).sum ≤ 8) (hf : cells + rm.cells ≤ R.cells ∧ slots + rm.slots ≤ R.slots) (hcs1 : cells + rm.cells = cells') (hcs2 : slots + rm.slots = slots') (hdg : decode cc pc = .ok (.invokevirtual index, 3)) (kk : ∀ u : S, post u → jj_W p l e R s m args below meth c D cl A nL cells' slots' Q (pc + 3) (lv) (.ref (val u) :: rest) (ws' u)) : jj_W p l e R s m args below meth c D cl A nL cells slots Q (pc) (lv) (st) (ws) := by
  intro H locs ls hP hD hS hl
  obtain ⟨hF, hB0⟩ := jj_pre C0 hP hD hS
  exact va_callr (va_runVN (As := As) (rest := rest) ⟨C0.1, C0.2.1, C0.2.2.1, C0.2.2.2.1, C0.2.2.2.2.1⟩ (hM H.size) cw ⟨jj_blind _ C0.2.2.2.2.2.2.2.2.1, va_recv C0.2.2.2.2.2.1 hP hc he, fun U hU hW => ⟨rfl, hB0 U hU hW⟩⟩ rfl hn hl.1 hst (lv_room hroom) hdg hf) hS (fun q _ h => hF q h) hF (fun u ra t H1 locs1 ht hvm hp hB hz hk hS1 => by
    obtain ⟨rfl, hP1, hK1, hD1⟩ := hB
    rw [ht] at hP1
    subst hcs1 hcs2
    exact kk u hp H1 locs1 ls hP1 (hD1.weaken (fun k q _ h => hF q.1 h)) hS1 hl)
theorem jj_callSr (C0 : jj_C p s m args meth c D cl A nL cc own Ts tys EV) {y : MethodName} {bytes : ByteArray} {maxL n index cells' slots' : Nat} {ret : Option FieldType} {wsl : List Cond} {rm : Room} {As st : List Value} {S : Type} {val : S → Nat} {post : S → Prop} {ws' : S → va_W} (hM : jj_Mr EV D cl tys l y wsl rm As ws val post ws') (cw : CallB R s args own index y bytes maxL ret wsl rm rm.cells rm.slots n ∧ (Cond.static y).before args s = true) (hst : st = As.reverse ++ rest) (hn : As.length = n) (hroom : (rest.map fun v => v.category).sum ≤ 8) (hf : cells + rm.cells ≤ R.cells ∧ slots + rm.slots ≤ R.slots) (hcs1 : cells + rm.cells = cells') (hcs2 : slots + rm.slots = slots') (hdg : decode cc pc = .ok (.invokestatic index, 3)) (kk : ∀ u : S, post u → jj_W p l e R s m args below meth c D cl A nL cells' slots' Q (pc + 3) (lv) (.ref (val u) :: rest) (ws' u)) : jj_W p l e R s m args below meth c D cl A nL cells slots Q (pc) (lv) (st) (ws) := by
  intro H locs ls hP hD hS hl
  obtain ⟨hF, hB0⟩ := jj_pre C0 hP hD hS
  exact va_callr (va_runS (As := As) (rest := rest) ⟨C0.1, C0.2.1, C0.2.2.1, C0.2.2.2.1, C0.2.2.2.2.1⟩ (hM H.size) cw ⟨jj_blind _ C0.2.2.2.2.2.2.2.2.1, fun U hU hW => ⟨rfl, hB0 U hU hW⟩⟩ rfl hn hl.1 hst (lv_room hroom) hdg hf) hS (fun q _ h => hF q h) hF (fun u ra t H1 locs1 ht hvm hp hB hz hk hS1 => by
    obtain ⟨rfl, hP1, hK1, hD1⟩ := hB
    rw [ht] at hP1
    subst hcs1 hcs2
    exact kk u hp H1 locs1 ls hP1 (hD1.weaken (fun k q _ h => hF q.1 h)) hS1 hl)
theorem jj_callSNr (C0 : jj_C p s m args meth c D cl A nL cc own Ts tys EV) {y : MethodName} {bytes : ByteArray} {maxL n index cells' slots' : Nat} {ret : Option FieldType} {wsl : List Cond} {rm : Room} {As st : List Value} {S : Type} {val : S → Nat} {post : S → Prop} {ws' : S → va_W} {host : String} (hM : jj_Mr EV D cl tys l y wsl rm As ws val post ws') (cw : va_CN R s args own index y host bytes maxL ret wsl rm rm.cells rm.slots n ∧ (Cond.static y).before args s = true ∧ True) (hst : st = As.reverse ++ rest) (hn : As.length = n) (hroom : (rest.map fun v => v.category).sum ≤ 8) (hf : cells + rm.cells ≤ R.cells ∧ slots + rm.slots ≤ R.slots) (hcs1 : cells + rm.cells = cells') (hcs2 : slots + rm.slots = slots') (hdg : decode cc pc = .ok (.invokestatic index, 3)) (kk : ∀ u : S, post u → jj_W p l e R s m args below meth c D cl A nL cells' slots' Q (pc + 3) (lv) (.ref (val u) :: rest) (ws' u)) : jj_W p l e R s m args below meth c D cl A nL cells slots Q (pc) (lv) (st) (ws) := by
  intro H locs ls hP hD hS hl
  obtain ⟨hF, hB0⟩ := jj_pre C0 hP hD hS
  exact va_callr (va_runSN (As := As) (rest := rest) ⟨C0.1, C0.2.1, C0.2.2.1, C0.2.2.2.1, C0.2.2.2.2.1⟩ (hM H.size) cw ⟨jj_blind _ C0.2.2.2.2.2.2.2.2.1, fun U hU hW => ⟨rfl, hB0 U hU hW⟩⟩ rfl hn hl.1 hst (lv_room hroom) hdg hf) hS (fun q _ h => hF q h) hF (fun u ra t H1 locs1 ht hvm hp hB hz hk hS1 => by
    obtain ⟨rfl, hP1, hK1, hD1⟩ := hB
    rw [ht] at hP1
    subst hcs1 hcs2
    exact kk u hp H1 locs1 ls hP1 (hD1.weaken (fun k q _ h => hF q.1 h)) hS1 hl)
theorem jj_iret (C0 : jj_C p s m args meth c D cl A nL cc own Ts tys EV) {S : Type} {val : S → Int} {post : S → Prop} {ws' : S → va_W} {mc ms : Nat}  (hr : meth.sig.returnType = some .int) (u : S) (hp : post u) {z : Int} (hv : z = val u) (hws : ws = ws' u) (hc : cells ≤ mc) (hs : slots ≤ ms) (hdg : decode cc pc = .ok (.ireturn, 1)) : jj_W p l e R s m args below meth c D cl A nL cells slots (MQ below (jj_Qi D cl tys val post ws' A) args s mc ms A) (pc) (lv) ([.int (iI z)]) (ws) := by
  subst hv
  subst hws
  intro H locs ls hP hD hS hl
  refine W.widen hc hs ?_
  exact W.iret C0.1 C0.2.1 hr (fun t ht hW => ⟨⟨_, u, rfl, ⟨rfl, hp⟩, by rw [ht]; exact hP, va_K.moved hW.alike C0.2.2.2.2.2.1, hD⟩, hS.F ht⟩) hS.2.2 hdg C0.2.2.2.2.2.2.2.2.2
theorem jj_zret (C0 : jj_C p s m args meth c D cl A nL cc own Ts tys EV) {S : Type} {val : S → Int} {post : S → Prop} {ws' : S → va_W} {mc ms : Nat}  (hr : meth.sig.returnType = some .boolean) (u : S) (hp : post u) {z : Int} (hv : z = val u) (hz : val u = 0 ∨ val u = 1) (hws : ws = ws' u) (hc : cells ≤ mc) (hs : slots ≤ ms) (hdg : decode cc pc = .ok (.ireturn, 1)) : jj_W p l e R s m args below meth c D cl A nL cells slots (MQ below (jj_Qi D cl tys val post ws' A) args s mc ms A) (pc) (lv) ([.int (iI z)]) (ws) := by
  subst hv
  subst hws
  intro H locs ls hP hD hS hl
  refine W.widen hc hs ?_
  exact W.zret C0.1 C0.2.1 hr (iI_narrow hz) (fun t ht hW => ⟨⟨_, u, rfl, ⟨rfl, hp⟩, by rw [ht]; exact hP, va_K.moved hW.alike C0.2.2.2.2.2.1, hD⟩, hS.F ht⟩) hS.2.2 hdg C0.2.2.2.2.2.2.2.2.2
theorem jj_lret (C0 : jj_C p s m args meth c D cl A nL cc own Ts tys EV) {S : Type} {val : S → Int} {post : S → Prop} {ws' : S → va_W} {mc ms : Nat}  (hr : meth.sig.returnType = some .long) (u : S) (hp : post u) {z : Int} (hv : z = val u) (hws : ws = ws' u) (hc : cells ≤ mc) (hs : slots ≤ ms) (hdg : decode cc pc = .ok (.lreturn, 1)) : jj_W p l e R s m args below meth c D cl A nL cells slots (MQ below (jj_Ql D cl tys val post ws' A) args s mc ms A) (pc) (lv) ([.long (lI z)]) (ws) := by
  subst hv
  subst hws
  intro H locs ls hP hD hS hl
  refine W.widen hc hs ?_
  exact W.lret C0.1 C0.2.1 hr (fun t ht hW => ⟨⟨_, u, rfl, ⟨rfl, hp⟩, by rw [ht]; exact hP, va_K.moved hW.alike C0.2.2.2.2.2.1, hD⟩, hS.F ht⟩) hS.2.2 hdg C0.2.2.2.2.2.2.2.2.2
theorem jj_vret (C0 : jj_C p s m args meth c D cl A nL cc own Ts tys EV) {S : Type}  {post : S → Prop} {ws' : S → va_W} {mc ms : Nat}  (hr : meth.sig.returnType = none) (u : S) (hp : post u)  (hws : ws = ws' u) (hc : cells ≤ mc) (hs : slots ≤ ms) (hdg : decode cc pc = .ok (.return_, 1)) : jj_W p l e R s m args below meth c D cl A nL cells slots (MQ below (jj_Qv D cl tys  post ws' A) args s mc ms A) (pc) (lv) ([]) (ws) := by
  skip
  subst hws
  intro H locs ls hP hD hS hl
  refine W.widen hc hs ?_
  exact W.vret C0.1 C0.2.1 hr (fun t ht hW => ⟨⟨u, rfl, hp, by rw [ht]; exact hP, va_K.moved hW.alike C0.2.2.2.2.2.1, hD⟩, hS.F ht⟩) hS.2.2 hdg C0.2.2.2.2.2.2.2.2.2
theorem jj_aret (C0 : jj_C p s m args meth c D cl A nL cc own Ts tys EV) {S : Type} {val : S → Nat} {post : S → Prop} {ws' : S → va_W} {mc ms : Nat} {rt : FieldType} (hrt : (∃ n, rt = .object n) ∨ ∃ t, rt = .array t) (hr : meth.sig.returnType = some rt) (u : S) (hp : post u) {z : Nat} (hv : z = val u) (hws : ws = ws' u) (hc : cells ≤ mc) (hs : slots ≤ ms) (hdg : decode cc pc = .ok (.areturn, 1)) : jj_W p l e R s m args below meth c D cl A nL cells slots (MQ below (jj_Qr D cl tys val post ws' A) args s mc ms A) (pc) (lv) ([.ref z]) (ws) := by
  subst hv
  subst hws
  intro H locs ls hP hD hS hl
  refine W.widen hc hs ?_
  exact W.aret C0.1 C0.2.1 hr hrt (Or.inr ⟨_, rfl⟩) (fun t ht hW => ⟨⟨u, _, rfl, hp, rfl, by rw [ht]; exact hP, va_K.moved hW.alike C0.2.2.2.2.2.1, hD⟩, hS.F ht⟩) hS.2.2 hdg C0.2.2.2.2.2.2.2.2.2
end JJV
theorem jj_start {EV : (Nat → Prop) → State → Heap → Prop} {D : va_G} {cl : List vw_C} {tys : List (ClassId × FieldType)} {l : Launch} {y : MethodName} {wsl wsl' : List Cond} {rm : Room} {as : List Value} {ws : va_W} {cc : ByteArray} {nL : Nat} {ret : Option FieldType} {lv : List (Nat × Value)} (Qf : (Nat → Prop) → Array Value → State → Outcome → State → Prop) {mc ms : Nat} (hEV : jj_EV EV)
    (hy : plainName y.cls = true) (hw : wsl = Cond.code y cc nL ret :: wsl') (hlen : (lg_sl as).length ≤ nL) (hlv : lv_args 0 as = lv)
    (body : ∀ (p : Program) (e : Env) (s : State) (m : MethodId) (args : Array Value) (below : List Frame) (meth : Method) (c : Code) (A : Nat → Prop), jj_C p s m args meth c D cl A nL cc y.cls wsl tys EV → meth.sig.returnType = ret → meth.name = y.name → jj_W p l e rm s m args below meth c D cl A nL 0 0 (MQ below (Qf A) args s mc ms A) 0 lv [] ws) (sz : Nat) :
    Met l y wsl rm (va_Pc as (jj_B EV D cl tys ws sz)) (Qf (va_A ws sz)) mc ms (va_A ws sz) := by
  refine Met.ofW (cc := cc) (maxL := nL) (ret := ret) hy hw ?_
  intro p e s m args below meth c s₁ B hml hv
  obtain ⟨rfl, hsz, hP, hK, hD0, hEv⟩ := hv
  subst hsz
  have hown : s.vm.findClass y.cls = some m.cls := findClass_of_methodNamed B.named
  have hC : jj_C p s m as.toArray meth c D cl (va_A ws s.heap.size) nL cc y.cls wsl tys EV := ⟨B.exec, B.bytes, hml, hown, atoms_spec (ws := wsl) B.pre, hK, fun q h => Or.inr h, hEv, hEV, B.notSynchronized⟩
  have hl := lv_entry as (n := nL) hlen
  rw [lg_entry_eq]
  rw [hlv] at hl
  exact body p e s m as.toArray below meth c (va_A ws s.heap.size) hC B.returns (name_of_methodNamed B.named B.method).1 s.heap [] _ hP hD0.self va_S.rf hl
theorem jj_toU {p : Program} {s : State} {m : MethodId} {args : Array Value} {meth : Method} {c : Code} {D : va_G} {cl : List vw_C} {A : Nat → Prop} {nL : Nat} {cc : ByteArray} {own : String} {w : Cond} {tys : List (ClassId × FieldType)} {EV : (Nat → Prop) → State → Heap → Prop} (C1 : jj_C p s m args meth c D cl A nL cc own (w :: lw_U) tys EV) : jj_C p s m args meth c D cl A nL cc own lw_U tys EV :=
  ⟨C1.1, C1.2.1, C1.2.2.1, C1.2.2.2.1, fun w h => C1.2.2.2.2.1 w (List.mem_cons_of_mem _ h), C1.2.2.2.2.2⟩
/-- a loop, or a place where ways meet: X says how its state is, I what holds there, meas falls -/
theorem jj_ind {p : Program} {l : Launch} {e : Env} {R : Room} {s : State} {m : MethodId} {args : Array Value} {below : List Frame} {meth : Method} {c : Code} {D : va_G} {cl : List vw_C} {A : Nat → Prop} {nL cells slots : Nat} {Q : State → Prop} {pc : Nat} {X : Type} (meas : X → Nat) (lvf : X → List (Nat × Value)) (stf : X → List Value) (wsf : X → va_W) (I : X → Prop)
    (step : ∀ x, I x → (∀ y, I y → meas y < meas x → jj_W p l e R s m args below meth c D cl A nL cells slots Q pc (lvf y) (stf y) (wsf y)) → jj_W p l e R s m args below meth c D cl A nL cells slots Q pc (lvf x) (stf x) (wsf x)) (x0 : X) (h0 : I x0) : jj_W p l e R s m args below meth c D cl A nL cells slots Q pc (lvf x0) (stf x0) (wsf x0) := by
  have key : ∀ n x, meas x < n → I x → jj_W p l e R s m args below meth c D cl A nL cells slots Q pc (lvf x) (stf x) (wsf x) := by
    intro n
    induction n with
    | zero => intro x h; exact absurd h (Nat.not_lt_zero _)
    | succ n ih => intro x h hI; exact step x hI (fun y hy hm => ih y (by omega) hy)
  exact key _ x0 (Nat.lt_succ_self _) h0
/-- where ways meet at pcj: the walk from there first, for all states x that may come -/
theorem jj_join {p : Program} {l : Launch} {e : Env} {R : Room} {s : State} {m : MethodId} {args : Array Value} {below : List Frame} {meth : Method} {c : Code} {D : va_G} {cl : List vw_C} {A : Nat → Prop} {nL cells slots : Nat} {Q : State → Prop} {pc pcj : Nat} {lv : List (Nat × Value)} {st : List Value} {ws : va_W} {X : Type} (lvf : X → List (Nat × Value)) (stf : X → List Value) (wsf : X → va_W) (I : X → Prop)
    (h1 : ∀ x, I x → jj_W p l e R s m args below meth c D cl A nL cells slots Q pcj (lvf x) (stf x) (wsf x))
    (h2 : (∀ x, I x → jj_W p l e R s m args below meth c D cl A nL cells slots Q pcj (lvf x) (stf x) (wsf x)) → jj_W p l e R s m args below meth c D cl A nL cells slots Q pc lv st ws) : jj_W p l e R s m args below meth c D cl A nL cells slots Q pc lv st ws := h2 h1
end
