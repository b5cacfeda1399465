-- ===== PART A: goes FIRST, ahead of the names: the tables' words, and 'selects' of the private methods out of them =====
/-- a private method of a class that the tables say can be made, by its rows of tables_1 -/
def lw_okq (q : MethodName × Nat) : Prop := (q.1.cls ≠ "java/lang/invoke/MethodHandle" ∧ q.1.cls ≠ "java/lang/invoke/VarHandle") ∧ Cond.instantiable q.1.cls q.2 ∈ tables_1 ∧ Cond.privateMethod q.1 ∈ tables_1 ∧ Cond.instanceMethod q.1 ∈ tables_1
theorem lw_p0 : lw_okq (⟨"EverybodyHasTheBook", "refuse", "(I)I"⟩, 7) := ⟨⟨by decide +kernel, by decide +kernel⟩, List.mem_of_getElem? (i := 16) (by decide +kernel), List.mem_of_getElem? (i := 237) (by decide +kernel), List.mem_of_getElem? (i := 238) (by decide +kernel)⟩
theorem lw_p1 : lw_okq (⟨"EverybodyHasTheBook", "rowFault", "(I)I"⟩, 7) := ⟨⟨by decide +kernel, by decide +kernel⟩, List.mem_of_getElem? (i := 16) (by decide +kernel), List.mem_of_getElem? (i := 249) (by decide +kernel), List.mem_of_getElem? (i := 250) (by decide +kernel)⟩
theorem lw_p2 : lw_okq (⟨"EverybodyHasTheBook$Shelf", "lowestBits", "(J)J"⟩, 3) := ⟨⟨by decide +kernel, by decide +kernel⟩, List.mem_of_getElem? (i := 185) (by decide +kernel), List.mem_of_getElem? (i := 266) (by decide +kernel), List.mem_of_getElem? (i := 267) (by decide +kernel)⟩
theorem lw_p3 : lw_okq (⟨"EverybodyHasTheBook", "isGoerOrNone", "(I)Z"⟩, 7) := ⟨⟨by decide +kernel, by decide +kernel⟩, List.mem_of_getElem? (i := 16) (by decide +kernel), List.mem_of_getElem? (i := 293) (by decide +kernel), List.mem_of_getElem? (i := 294) (by decide +kernel)⟩
theorem lw_p4 : lw_okq (⟨"EverybodyHasTheBook", "isGoer", "(I)Z"⟩, 7) := ⟨⟨by decide +kernel, by decide +kernel⟩, List.mem_of_getElem? (i := 16) (by decide +kernel), List.mem_of_getElem? (i := 297) (by decide +kernel), List.mem_of_getElem? (i := 298) (by decide +kernel)⟩
theorem lw_p5 : lw_okq (⟨"EverybodyHasTheBook", "isInn", "(I)Z"⟩, 7) := ⟨⟨by decide +kernel, by decide +kernel⟩, List.mem_of_getElem? (i := 16) (by decide +kernel), List.mem_of_getElem? (i := 355) (by decide +kernel), List.mem_of_getElem? (i := 356) (by decide +kernel)⟩
theorem lw_p6 : lw_okq (⟨"EverybodyHasTheBook", "isSet", "(I)Z"⟩, 7) := ⟨⟨by decide +kernel, by decide +kernel⟩, List.mem_of_getElem? (i := 16) (by decide +kernel), List.mem_of_getElem? (i := 367) (by decide +kernel), List.mem_of_getElem? (i := 368) (by decide +kernel)⟩
theorem lw_p7 : lw_okq (⟨"EverybodyHasTheBook", "think", "()LEverybodyHasTheBook$Valley;"⟩, 7) := ⟨⟨by decide +kernel, by decide +kernel⟩, List.mem_of_getElem? (i := 16) (by decide +kernel), List.mem_of_getElem? (i := 411) (by decide +kernel), List.mem_of_getElem? (i := 412) (by decide +kernel)⟩
theorem lw_p8 : lw_okq (⟨"EverybodyHasTheBook$Tape", "readToken", "()V"⟩, 5) := ⟨⟨by decide +kernel, by decide +kernel⟩, List.mem_of_getElem? (i := 162) (by decide +kernel), List.mem_of_getElem? (i := 427) (by decide +kernel), List.mem_of_getElem? (i := 428) (by decide +kernel)⟩
theorem lw_p9 : lw_okq (⟨"EverybodyHasTheBook$Tape", "byteAt", "(I)I"⟩, 5) := ⟨⟨by decide +kernel, by decide +kernel⟩, List.mem_of_getElem? (i := 162) (by decide +kernel), List.mem_of_getElem? (i := 431) (by decide +kernel), List.mem_of_getElem? (i := 432) (by decide +kernel)⟩
theorem lw_p10 : lw_okq (⟨"EverybodyHasTheBook$Tape", "tokenAt", "(I)I"⟩, 5) := ⟨⟨by decide +kernel, by decide +kernel⟩, List.mem_of_getElem? (i := 162) (by decide +kernel), List.mem_of_getElem? (i := 435) (by decide +kernel), List.mem_of_getElem? (i := 436) (by decide +kernel)⟩
theorem lw_p11 : lw_okq (⟨"EverybodyHasTheBook$Tape", "readStatement", "(LEverybodyHasTheBook$Valley;)Z"⟩, 5) := ⟨⟨by decide +kernel, by decide +kernel⟩, List.mem_of_getElem? (i := 162) (by decide +kernel), List.mem_of_getElem? (i := 439) (by decide +kernel), List.mem_of_getElem? (i := 440) (by decide +kernel)⟩
theorem lw_p12 : lw_okq (⟨"EverybodyHasTheBook$Tape", "isWord", "(Ljava/lang/String;)Z"⟩, 5) := ⟨⟨by decide +kernel, by decide +kernel⟩, List.mem_of_getElem? (i := 162) (by decide +kernel), List.mem_of_getElem? (i := 444) (by decide +kernel), List.mem_of_getElem? (i := 445) (by decide +kernel)⟩
theorem lw_p13 : lw_okq (⟨"EverybodyHasTheBook$Tape", "readInn", "(LEverybodyHasTheBook$Valley;)Z"⟩, 5) := ⟨⟨by decide +kernel, by decide +kernel⟩, List.mem_of_getElem? (i := 162) (by decide +kernel), List.mem_of_getElem? (i := 496) (by decide +kernel), List.mem_of_getElem? (i := 497) (by decide +kernel)⟩
theorem lw_p14 : lw_okq (⟨"EverybodyHasTheBook$Tape", "takeNumber", "(II)I"⟩, 5) := ⟨⟨by decide +kernel, by decide +kernel⟩, List.mem_of_getElem? (i := 162) (by decide +kernel), List.mem_of_getElem? (i := 500) (by decide +kernel), List.mem_of_getElem? (i := 501) (by decide +kernel)⟩
theorem lw_p15 : lw_okq (⟨"EverybodyHasTheBook$Tape", "numberWithin", "(II)I"⟩, 5) := ⟨⟨by decide +kernel, by decide +kernel⟩, List.mem_of_getElem? (i := 162) (by decide +kernel), List.mem_of_getElem? (i := 504) (by decide +kernel), List.mem_of_getElem? (i := 505) (by decide +kernel)⟩
def lw_privs_1 : List (MethodName × Nat) := [(⟨"EverybodyHasTheBook", "refuse", "(I)I"⟩, 7), (⟨"EverybodyHasTheBook", "rowFault", "(I)I"⟩, 7), (⟨"EverybodyHasTheBook$Shelf", "lowestBits", "(J)J"⟩, 3), (⟨"EverybodyHasTheBook", "isGoerOrNone", "(I)Z"⟩, 7), (⟨"EverybodyHasTheBook", "isGoer", "(I)Z"⟩, 7), (⟨"EverybodyHasTheBook", "isInn", "(I)Z"⟩, 7), (⟨"EverybodyHasTheBook", "isSet", "(I)Z"⟩, 7), (⟨"EverybodyHasTheBook", "think", "()LEverybodyHasTheBook$Valley;"⟩, 7), (⟨"EverybodyHasTheBook$Tape", "readToken", "()V"⟩, 5), (⟨"EverybodyHasTheBook$Tape", "byteAt", "(I)I"⟩, 5), (⟨"EverybodyHasTheBook$Tape", "tokenAt", "(I)I"⟩, 5), (⟨"EverybodyHasTheBook$Tape", "readStatement", "(LEverybodyHasTheBook$Valley;)Z"⟩, 5), (⟨"EverybodyHasTheBook$Tape", "isWord", "(Ljava/lang/String;)Z"⟩, 5), (⟨"EverybodyHasTheBook$Tape", "readInn", "(LEverybodyHasTheBook$Valley;)Z"⟩, 5), (⟨"EverybodyHasTheBook$Tape", "takeNumber", "(II)I"⟩, 5), (⟨"EverybodyHasTheBook$Tape", "numberWithin", "(II)I"⟩, 5)]
theorem lw_r1 : ∀ q ∈ lw_privs_1, lw_okq q := List.forall_mem_cons.mpr ⟨lw_p0, List.forall_mem_cons.mpr ⟨lw_p1, List.forall_mem_cons.mpr ⟨lw_p2, List.forall_mem_cons.mpr ⟨lw_p3, List.forall_mem_cons.mpr ⟨lw_p4, List.forall_mem_cons.mpr ⟨lw_p5, List.forall_mem_cons.mpr ⟨lw_p6, List.forall_mem_cons.mpr ⟨lw_p7, List.forall_mem_cons.mpr ⟨lw_p8, List.forall_mem_cons.mpr ⟨lw_p9, List.forall_mem_cons.mpr ⟨lw_p10, List.forall_mem_cons.mpr ⟨lw_p11, List.forall_mem_cons.mpr ⟨lw_p12, List.forall_mem_cons.mpr ⟨lw_p13, List.forall_mem_cons.mpr ⟨lw_p14, List.forall_mem_cons.mpr ⟨lw_p15, fun _ h => absurd h List.not_mem_nil⟩⟩⟩⟩⟩⟩⟩⟩⟩⟩⟩⟩⟩⟩⟩⟩
theorem lw_p16 : lw_okq (⟨"EverybodyHasTheBook$Tape", "readGoer", "(LEverybodyHasTheBook$Valley;)Z"⟩, 5) := ⟨⟨by decide +kernel, by decide +kernel⟩, List.mem_of_getElem? (i := 162) (by decide +kernel), List.mem_of_getElem? (i := 512) (by decide +kernel), List.mem_of_getElem? (i := 513) (by decide +kernel)⟩
theorem lw_p17 : lw_okq (⟨"EverybodyHasTheBook$Tape", "readLetter", "(LEverybodyHasTheBook$Valley;)Z"⟩, 5) := ⟨⟨by decide +kernel, by decide +kernel⟩, List.mem_of_getElem? (i := 162) (by decide +kernel), List.mem_of_getElem? (i := 518) (by decide +kernel), List.mem_of_getElem? (i := 519) (by decide +kernel)⟩
theorem lw_p18 : lw_okq (⟨"EverybodyHasTheBook$Tape", "readAge", "(LEverybodyHasTheBook$Valley;)Z"⟩, 5) := ⟨⟨by decide +kernel, by decide +kernel⟩, List.mem_of_getElem? (i := 162) (by decide +kernel), List.mem_of_getElem? (i := 525) (by decide +kernel), List.mem_of_getElem? (i := 526) (by decide +kernel)⟩
theorem lw_p19 : lw_okq (⟨"EverybodyHasTheBook$Tape", "readWrite", "(LEverybodyHasTheBook$Valley;)Z"⟩, 5) := ⟨⟨by decide +kernel, by decide +kernel⟩, List.mem_of_getElem? (i := 162) (by decide +kernel), List.mem_of_getElem? (i := 530) (by decide +kernel), List.mem_of_getElem? (i := 531) (by decide +kernel)⟩
theorem lw_p20 : lw_okq (⟨"EverybodyHasTheBook", "refuseBelowZero", "(I)I"⟩, 7) := ⟨⟨by decide +kernel, by decide +kernel⟩, List.mem_of_getElem? (i := 16) (by decide +kernel), List.mem_of_getElem? (i := 548) (by decide +kernel), List.mem_of_getElem? (i := 549) (by decide +kernel)⟩
theorem lw_p21 : lw_okq (⟨"EverybodyHasTheBook", "tonight", "()LEverybodyHasTheBook$Valley;"⟩, 7) := ⟨⟨by decide +kernel, by decide +kernel⟩, List.mem_of_getElem? (i := 16) (by decide +kernel), List.mem_of_getElem? (i := 558) (by decide +kernel), List.mem_of_getElem? (i := 559) (by decide +kernel)⟩
theorem lw_p22 : lw_okq (⟨"EverybodyHasTheBook$Valley", "beginNight", "()V"⟩, 9) := ⟨⟨by decide +kernel, by decide +kernel⟩, List.mem_of_getElem? (i := 24) (by decide +kernel), List.mem_of_getElem? (i := 566) (by decide +kernel), List.mem_of_getElem? (i := 567) (by decide +kernel)⟩
theorem lw_p23 : lw_okq (⟨"EverybodyHasTheBook$Valley", "lineUp", "(ZI)V"⟩, 9) := ⟨⟨by decide +kernel, by decide +kernel⟩, List.mem_of_getElem? (i := 24) (by decide +kernel), List.mem_of_getElem? (i := 574) (by decide +kernel), List.mem_of_getElem? (i := 575) (by decide +kernel)⟩
theorem lw_p24 : lw_okq (⟨"EverybodyHasTheBook$Valley", "lateOnes", "()I"⟩, 9) := ⟨⟨by decide +kernel, by decide +kernel⟩, List.mem_of_getElem? (i := 24) (by decide +kernel), List.mem_of_getElem? (i := 583) (by decide +kernel), List.mem_of_getElem? (i := 584) (by decide +kernel)⟩
theorem lw_p25 : lw_okq (⟨"EverybodyHasTheBook$Valley", "lodge", "(LEverybodyHasTheBook$Goer;I)V"⟩, 9) := ⟨⟨by decide +kernel, by decide +kernel⟩, List.mem_of_getElem? (i := 24) (by decide +kernel), List.mem_of_getElem? (i := 587) (by decide +kernel), List.mem_of_getElem? (i := 588) (by decide +kernel)⟩
theorem lw_p26 : lw_okq (⟨"EverybodyHasTheBook$Valley", "bestWithRooms", "()I"⟩, 9) := ⟨⟨by decide +kernel, by decide +kernel⟩, List.mem_of_getElem? (i := 24) (by decide +kernel), List.mem_of_getElem? (i := 591) (by decide +kernel), List.mem_of_getElem? (i := 592) (by decide +kernel)⟩
theorem lw_p27 : lw_okq (⟨"EverybodyHasTheBook$Valley", "endYear", "()I"⟩, 9) := ⟨⟨by decide +kernel, by decide +kernel⟩, List.mem_of_getElem? (i := 24) (by decide +kernel), List.mem_of_getElem? (i := 727) (by decide +kernel), List.mem_of_getElem? (i := 728) (by decide +kernel)⟩
theorem lw_p28 : lw_okq (⟨"EverybodyHasTheBook", "bestBook", "(IIZ)I"⟩, 7) := ⟨⟨by decide +kernel, by decide +kernel⟩, List.mem_of_getElem? (i := 16) (by decide +kernel), List.mem_of_getElem? (i := 747) (by decide +kernel), List.mem_of_getElem? (i := 748) (by decide +kernel)⟩
theorem lw_p29 : lw_okq (⟨"EverybodyHasTheBook", "joyIfWritten", "(II)I"⟩, 7) := ⟨⟨by decide +kernel, by decide +kernel⟩, List.mem_of_getElem? (i := 16) (by decide +kernel), List.mem_of_getElem? (i := 751) (by decide +kernel), List.mem_of_getElem? (i := 752) (by decide +kernel)⟩
theorem lw_p30 : lw_okq (⟨"EverybodyHasTheBook", "joyIfGoneRound", "(II)I"⟩, 7) := ⟨⟨by decide +kernel, by decide +kernel⟩, List.mem_of_getElem? (i := 16) (by decide +kernel), List.mem_of_getElem? (i := 773) (by decide +kernel), List.mem_of_getElem? (i := 774) (by decide +kernel)⟩
theorem lw_p31 : lw_okq (⟨"EverybodyHasTheBook", "innOfRound", "(III)I"⟩, 7) := ⟨⟨by decide +kernel, by decide +kernel⟩, List.mem_of_getElem? (i := 16) (by decide +kernel), List.mem_of_getElem? (i := 777) (by decide +kernel), List.mem_of_getElem? (i := 778) (by decide +kernel)⟩
def lw_privs_2 : List (MethodName × Nat) := [(⟨"EverybodyHasTheBook$Tape", "readGoer", "(LEverybodyHasTheBook$Valley;)Z"⟩, 5), (⟨"EverybodyHasTheBook$Tape", "readLetter", "(LEverybodyHasTheBook$Valley;)Z"⟩, 5), (⟨"EverybodyHasTheBook$Tape", "readAge", "(LEverybodyHasTheBook$Valley;)Z"⟩, 5), (⟨"EverybodyHasTheBook$Tape", "readWrite", "(LEverybodyHasTheBook$Valley;)Z"⟩, 5), (⟨"EverybodyHasTheBook", "refuseBelowZero", "(I)I"⟩, 7), (⟨"EverybodyHasTheBook", "tonight", "()LEverybodyHasTheBook$Valley;"⟩, 7), (⟨"EverybodyHasTheBook$Valley", "beginNight", "()V"⟩, 9), (⟨"EverybodyHasTheBook$Valley", "lineUp", "(ZI)V"⟩, 9), (⟨"EverybodyHasTheBook$Valley", "lateOnes", "()I"⟩, 9), (⟨"EverybodyHasTheBook$Valley", "lodge", "(LEverybodyHasTheBook$Goer;I)V"⟩, 9), (⟨"EverybodyHasTheBook$Valley", "bestWithRooms", "()I"⟩, 9), (⟨"EverybodyHasTheBook$Valley", "endYear", "()I"⟩, 9), (⟨"EverybodyHasTheBook", "bestBook", "(IIZ)I"⟩, 7), (⟨"EverybodyHasTheBook", "joyIfWritten", "(II)I"⟩, 7), (⟨"EverybodyHasTheBook", "joyIfGoneRound", "(II)I"⟩, 7), (⟨"EverybodyHasTheBook", "innOfRound", "(III)I"⟩, 7)]
theorem lw_r2 : ∀ q ∈ lw_privs_2, lw_okq q := List.forall_mem_cons.mpr ⟨lw_p16, List.forall_mem_cons.mpr ⟨lw_p17, List.forall_mem_cons.mpr ⟨lw_p18, List.forall_mem_cons.mpr ⟨lw_p19, List.forall_mem_cons.mpr ⟨lw_p20, List.forall_mem_cons.mpr ⟨lw_p21, List.forall_mem_cons.mpr ⟨lw_p22, List.forall_mem_cons.mpr ⟨lw_p23, List.forall_mem_cons.mpr ⟨lw_p24, List.forall_mem_cons.mpr ⟨lw_p25, List.forall_mem_cons.mpr ⟨lw_p26, List.forall_mem_cons.mpr ⟨lw_p27, List.forall_mem_cons.mpr ⟨lw_p28, List.forall_mem_cons.mpr ⟨lw_p29, List.forall_mem_cons.mpr ⟨lw_p30, List.forall_mem_cons.mpr ⟨lw_p31, fun _ h => absurd h List.not_mem_nil⟩⟩⟩⟩⟩⟩⟩⟩⟩⟩⟩⟩⟩⟩⟩⟩
theorem lw_p32 : lw_okq (⟨"EverybodyHasTheBook$Valley", "draw", "(I)I"⟩, 9) := ⟨⟨by decide +kernel, by decide +kernel⟩, List.mem_of_getElem? (i := 24) (by decide +kernel), List.mem_of_getElem? (i := 833) (by decide +kernel), List.mem_of_getElem? (i := 834) (by decide +kernel)⟩
theorem lw_p33 : lw_okq (⟨"EverybodyHasTheBook", "shelvesInUse", "()I"⟩, 7) := ⟨⟨by decide +kernel, by decide +kernel⟩, List.mem_of_getElem? (i := 16) (by decide +kernel), List.mem_of_getElem? (i := 867) (by decide +kernel), List.mem_of_getElem? (i := 868) (by decide +kernel)⟩
theorem lw_p34 : lw_okq (⟨"EverybodyHasTheBookModel", "refuse", "(I)I"⟩, 34) := ⟨⟨by decide +kernel, by decide +kernel⟩, List.mem_of_getElem? (i := 871) (by decide +kernel), List.mem_of_getElem? (i := 994) (by decide +kernel), List.mem_of_getElem? (i := 995) (by decide +kernel)⟩
theorem lw_p35 : lw_okq (⟨"EverybodyHasTheBookModel", "noRow", "(I)I"⟩, 34) := ⟨⟨by decide +kernel, by decide +kernel⟩, List.mem_of_getElem? (i := 871) (by decide +kernel), List.mem_of_getElem? (i := 1002) (by decide +kernel), List.mem_of_getElem? (i := 1003) (by decide +kernel)⟩
theorem lw_p36 : lw_okq (⟨"EverybodyHasTheBookModel", "isGoer", "(I)Z"⟩, 34) := ⟨⟨by decide +kernel, by decide +kernel⟩, List.mem_of_getElem? (i := 871) (by decide +kernel), List.mem_of_getElem? (i := 1025) (by decide +kernel), List.mem_of_getElem? (i := 1026) (by decide +kernel)⟩
theorem lw_p37 : lw_okq (⟨"EverybodyHasTheBookModel", "choiceOf", "(I)I"⟩, 34) := ⟨⟨by decide +kernel, by decide +kernel⟩, List.mem_of_getElem? (i := 871) (by decide +kernel), List.mem_of_getElem? (i := 1037) (by decide +kernel), List.mem_of_getElem? (i := 1038) (by decide +kernel)⟩
theorem lw_p38 : lw_okq (⟨"EverybodyHasTheBookModel", "scoreOf", "(II)I"⟩, 34) := ⟨⟨by decide +kernel, by decide +kernel⟩, List.mem_of_getElem? (i := 871) (by decide +kernel), List.mem_of_getElem? (i := 1041) (by decide +kernel), List.mem_of_getElem? (i := 1042) (by decide +kernel)⟩
theorem lw_p39 : lw_okq (⟨"EverybodyHasTheBookModel", "scoreBy", "(III)I"⟩, 34) := ⟨⟨by decide +kernel, by decide +kernel⟩, List.mem_of_getElem? (i := 871) (by decide +kernel), List.mem_of_getElem? (i := 1045) (by decide +kernel), List.mem_of_getElem? (i := 1046) (by decide +kernel)⟩
theorem lw_p40 : lw_okq (⟨"EverybodyHasTheBookModel", "booked", "(I)I"⟩, 34) := ⟨⟨by decide +kernel, by decide +kernel⟩, List.mem_of_getElem? (i := 871) (by decide +kernel), List.mem_of_getElem? (i := 1049) (by decide +kernel), List.mem_of_getElem? (i := 1050) (by decide +kernel)⟩
theorem lw_p41 : lw_okq (⟨"EverybodyHasTheBookModel", "addInn", "(IIII)V"⟩, 34) := ⟨⟨by decide +kernel, by decide +kernel⟩, List.mem_of_getElem? (i := 871) (by decide +kernel), List.mem_of_getElem? (i := 1060) (by decide +kernel), List.mem_of_getElem? (i := 1061) (by decide +kernel)⟩
theorem lw_p42 : lw_okq (⟨"EverybodyHasTheBookModel", "isInn", "(I)Z"⟩, 34) := ⟨⟨by decide +kernel, by decide +kernel⟩, List.mem_of_getElem? (i := 871) (by decide +kernel), List.mem_of_getElem? (i := 1073) (by decide +kernel), List.mem_of_getElem? (i := 1074) (by decide +kernel)⟩
theorem lw_p43 : lw_okq (⟨"EverybodyHasTheBookModel", "isSet", "(I)Z"⟩, 34) := ⟨⟨by decide +kernel, by decide +kernel⟩, List.mem_of_getElem? (i := 871) (by decide +kernel), List.mem_of_getElem? (i := 1086) (by decide +kernel), List.mem_of_getElem? (i := 1087) (by decide +kernel)⟩
theorem lw_p44 : lw_okq (⟨"EverybodyHasTheBookModel", "writes", "(I)I"⟩, 34) := ⟨⟨by decide +kernel, by decide +kernel⟩, List.mem_of_getElem? (i := 871) (by decide +kernel), List.mem_of_getElem? (i := 1090) (by decide +kernel), List.mem_of_getElem? (i := 1091) (by decide +kernel)⟩
theorem lw_p45 : lw_okq (⟨"EverybodyHasTheBookModel", "getsLetter", "(II)V"⟩, 34) := ⟨⟨by decide +kernel, by decide +kernel⟩, List.mem_of_getElem? (i := 871) (by decide +kernel), List.mem_of_getElem? (i := 1098) (by decide +kernel), List.mem_of_getElem? (i := 1099) (by decide +kernel)⟩
theorem lw_p46 : lw_okq (⟨"EverybodyHasTheBookModel", "fresh", "()LEverybodyHasTheBookModel;"⟩, 34) := ⟨⟨by decide +kernel, by decide +kernel⟩, List.mem_of_getElem? (i := 871) (by decide +kernel), List.mem_of_getElem? (i := 1123) (by decide +kernel), List.mem_of_getElem? (i := 1124) (by decide +kernel)⟩
theorem lw_p47 : lw_okq (⟨"EverybodyHasTheBookModel", "takeFrom", "(LEverybodyHasTheBookModel;)V"⟩, 34) := ⟨⟨by decide +kernel, by decide +kernel⟩, List.mem_of_getElem? (i := 871) (by decide +kernel), List.mem_of_getElem? (i := 1129) (by decide +kernel), List.mem_of_getElem? (i := 1130) (by decide +kernel)⟩
def lw_privs_3 : List (MethodName × Nat) := [(⟨"EverybodyHasTheBook$Valley", "draw", "(I)I"⟩, 9), (⟨"EverybodyHasTheBook", "shelvesInUse", "()I"⟩, 7), (⟨"EverybodyHasTheBookModel", "refuse", "(I)I"⟩, 34), (⟨"EverybodyHasTheBookModel", "noRow", "(I)I"⟩, 34), (⟨"EverybodyHasTheBookModel", "isGoer", "(I)Z"⟩, 34), (⟨"EverybodyHasTheBookModel", "choiceOf", "(I)I"⟩, 34), (⟨"EverybodyHasTheBookModel", "scoreOf", "(II)I"⟩, 34), (⟨"EverybodyHasTheBookModel", "scoreBy", "(III)I"⟩, 34), (⟨"EverybodyHasTheBookModel", "booked", "(I)I"⟩, 34), (⟨"EverybodyHasTheBookModel", "addInn", "(IIII)V"⟩, 34), (⟨"EverybodyHasTheBookModel", "isInn", "(I)Z"⟩, 34), (⟨"EverybodyHasTheBookModel", "isSet", "(I)Z"⟩, 34), (⟨"EverybodyHasTheBookModel", "writes", "(I)I"⟩, 34), (⟨"EverybodyHasTheBookModel", "getsLetter", "(II)V"⟩, 34), (⟨"EverybodyHasTheBookModel", "fresh", "()LEverybodyHasTheBookModel;"⟩, 34), (⟨"EverybodyHasTheBookModel", "takeFrom", "(LEverybodyHasTheBookModel;)V"⟩, 34)]
theorem lw_r3 : ∀ q ∈ lw_privs_3, lw_okq q := List.forall_mem_cons.mpr ⟨lw_p32, List.forall_mem_cons.mpr ⟨lw_p33, List.forall_mem_cons.mpr ⟨lw_p34, List.forall_mem_cons.mpr ⟨lw_p35, List.forall_mem_cons.mpr ⟨lw_p36, List.forall_mem_cons.mpr ⟨lw_p37, List.forall_mem_cons.mpr ⟨lw_p38, List.forall_mem_cons.mpr ⟨lw_p39, List.forall_mem_cons.mpr ⟨lw_p40, List.forall_mem_cons.mpr ⟨lw_p41, List.forall_mem_cons.mpr ⟨lw_p42, List.forall_mem_cons.mpr ⟨lw_p43, List.forall_mem_cons.mpr ⟨lw_p44, List.forall_mem_cons.mpr ⟨lw_p45, List.forall_mem_cons.mpr ⟨lw_p46, List.forall_mem_cons.mpr ⟨lw_p47, fun _ h => absurd h List.not_mem_nil⟩⟩⟩⟩⟩⟩⟩⟩⟩⟩⟩⟩⟩⟩⟩⟩
theorem lw_p48 : lw_okq (⟨"EverybodyHasTheBookModel", "readAll", "()Z"⟩, 34) := ⟨⟨by decide +kernel, by decide +kernel⟩, List.mem_of_getElem? (i := 871) (by decide +kernel), List.mem_of_getElem? (i := 1136) (by decide +kernel), List.mem_of_getElem? (i := 1137) (by decide +kernel)⟩
theorem lw_p49 : lw_okq (⟨"EverybodyHasTheBookModel", "look", "()V"⟩, 34) := ⟨⟨by decide +kernel, by decide +kernel⟩, List.mem_of_getElem? (i := 871) (by decide +kernel), List.mem_of_getElem? (i := 1140) (by decide +kernel), List.mem_of_getElem? (i := 1141) (by decide +kernel)⟩
theorem lw_p50 : lw_okq (⟨"EverybodyHasTheBookModel", "statement", "()Z"⟩, 34) := ⟨⟨by decide +kernel, by decide +kernel⟩, List.mem_of_getElem? (i := 871) (by decide +kernel), List.mem_of_getElem? (i := 1151) (by decide +kernel), List.mem_of_getElem? (i := 1152) (by decide +kernel)⟩
theorem lw_p51 : lw_okq (⟨"EverybodyHasTheBookModel", "isWord", "(Ljava/lang/String;)Z"⟩, 34) := ⟨⟨by decide +kernel, by decide +kernel⟩, List.mem_of_getElem? (i := 871) (by decide +kernel), List.mem_of_getElem? (i := 1156) (by decide +kernel), List.mem_of_getElem? (i := 1157) (by decide +kernel)⟩
theorem lw_p52 : lw_okq (⟨"EverybodyHasTheBookModel", "innTold", "()Z"⟩, 34) := ⟨⟨by decide +kernel, by decide +kernel⟩, List.mem_of_getElem? (i := 871) (by decide +kernel), List.mem_of_getElem? (i := 1162) (by decide +kernel), List.mem_of_getElem? (i := 1163) (by decide +kernel)⟩
theorem lw_p53 : lw_okq (⟨"EverybodyHasTheBookModel", "tells", "(II)Z"⟩, 34) := ⟨⟨by decide +kernel, by decide +kernel⟩, List.mem_of_getElem? (i := 871) (by decide +kernel), List.mem_of_getElem? (i := 1166) (by decide +kernel), List.mem_of_getElem? (i := 1167) (by decide +kernel)⟩
theorem lw_p54 : lw_okq (⟨"EverybodyHasTheBookModel", "number", "(III)Z"⟩, 34) := ⟨⟨by decide +kernel, by decide +kernel⟩, List.mem_of_getElem? (i := 871) (by decide +kernel), List.mem_of_getElem? (i := 1170) (by decide +kernel), List.mem_of_getElem? (i := 1171) (by decide +kernel)⟩
theorem lw_p55 : lw_okq (⟨"EverybodyHasTheBookModel", "wrong", "()Z"⟩, 34) := ⟨⟨by decide +kernel, by decide +kernel⟩, List.mem_of_getElem? (i := 871) (by decide +kernel), List.mem_of_getElem? (i := 1174) (by decide +kernel), List.mem_of_getElem? (i := 1175) (by decide +kernel)⟩
theorem lw_p56 : lw_okq (⟨"EverybodyHasTheBookModel", "letterTold", "()Z"⟩, 34) := ⟨⟨by decide +kernel, by decide +kernel⟩, List.mem_of_getElem? (i := 871) (by decide +kernel), List.mem_of_getElem? (i := 1182) (by decide +kernel), List.mem_of_getElem? (i := 1183) (by decide +kernel)⟩
theorem lw_p57 : lw_okq (⟨"EverybodyHasTheBookModel", "writeTold", "()Z"⟩, 34) := ⟨⟨by decide +kernel, by decide +kernel⟩, List.mem_of_getElem? (i := 871) (by decide +kernel), List.mem_of_getElem? (i := 1187) (by decide +kernel), List.mem_of_getElem? (i := 1188) (by decide +kernel)⟩
theorem lw_p58 : lw_okq (⟨"EverybodyHasTheBookModel", "goThrough", "()V"⟩, 34) := ⟨⟨by decide +kernel, by decide +kernel⟩, List.mem_of_getElem? (i := 871) (by decide +kernel), List.mem_of_getElem? (i := 1211) (by decide +kernel), List.mem_of_getElem? (i := 1212) (by decide +kernel)⟩
theorem lw_p59 : lw_okq (⟨"EverybodyHasTheBookModel", "startNight", "()V"⟩, 34) := ⟨⟨by decide +kernel, by decide +kernel⟩, List.mem_of_getElem? (i := 871) (by decide +kernel), List.mem_of_getElem? (i := 1215) (by decide +kernel), List.mem_of_getElem? (i := 1216) (by decide +kernel)⟩
theorem lw_p60 : lw_okq (⟨"EverybodyHasTheBookModel", "comes", "(II)V"⟩, 34) := ⟨⟨by decide +kernel, by decide +kernel⟩, List.mem_of_getElem? (i := 871) (by decide +kernel), List.mem_of_getElem? (i := 1219) (by decide +kernel), List.mem_of_getElem? (i := 1220) (by decide +kernel)⟩
theorem lw_p61 : lw_okq (⟨"EverybodyHasTheBookModel", "headsIn", "(I)I"⟩, 34) := ⟨⟨by decide +kernel, by decide +kernel⟩, List.mem_of_getElem? (i := 871) (by decide +kernel), List.mem_of_getElem? (i := 1227) (by decide +kernel), List.mem_of_getElem? (i := 1228) (by decide +kernel)⟩
theorem lw_p62 : lw_okq (⟨"EverybodyHasTheBookModel", "joyBy", "(I)I"⟩, 34) := ⟨⟨by decide +kernel, by decide +kernel⟩, List.mem_of_getElem? (i := 871) (by decide +kernel), List.mem_of_getElem? (i := 1243) (by decide +kernel), List.mem_of_getElem? (i := 1244) (by decide +kernel)⟩
theorem lw_p63 : lw_okq (⟨"EverybodyHasTheBookModel", "joyOf", "(I)I"⟩, 34) := ⟨⟨by decide +kernel, by decide +kernel⟩, List.mem_of_getElem? (i := 871) (by decide +kernel), List.mem_of_getElem? (i := 1247) (by decide +kernel), List.mem_of_getElem? (i := 1248) (by decide +kernel)⟩
def lw_privs_4 : List (MethodName × Nat) := [(⟨"EverybodyHasTheBookModel", "readAll", "()Z"⟩, 34), (⟨"EverybodyHasTheBookModel", "look", "()V"⟩, 34), (⟨"EverybodyHasTheBookModel", "statement", "()Z"⟩, 34), (⟨"EverybodyHasTheBookModel", "isWord", "(Ljava/lang/String;)Z"⟩, 34), (⟨"EverybodyHasTheBookModel", "innTold", "()Z"⟩, 34), (⟨"EverybodyHasTheBookModel", "tells", "(II)Z"⟩, 34), (⟨"EverybodyHasTheBookModel", "number", "(III)Z"⟩, 34), (⟨"EverybodyHasTheBookModel", "wrong", "()Z"⟩, 34), (⟨"EverybodyHasTheBookModel", "letterTold", "()Z"⟩, 34), (⟨"EverybodyHasTheBookModel", "writeTold", "()Z"⟩, 34), (⟨"EverybodyHasTheBookModel", "goThrough", "()V"⟩, 34), (⟨"EverybodyHasTheBookModel", "startNight", "()V"⟩, 34), (⟨"EverybodyHasTheBookModel", "comes", "(II)V"⟩, 34), (⟨"EverybodyHasTheBookModel", "headsIn", "(I)I"⟩, 34), (⟨"EverybodyHasTheBookModel", "joyBy", "(I)I"⟩, 34), (⟨"EverybodyHasTheBookModel", "joyOf", "(I)I"⟩, 34)]
theorem lw_r4 : ∀ q ∈ lw_privs_4, lw_okq q := List.forall_mem_cons.mpr ⟨lw_p48, List.forall_mem_cons.mpr ⟨lw_p49, List.forall_mem_cons.mpr ⟨lw_p50, List.forall_mem_cons.mpr ⟨lw_p51, List.forall_mem_cons.mpr ⟨lw_p52, List.forall_mem_cons.mpr ⟨lw_p53, List.forall_mem_cons.mpr ⟨lw_p54, List.forall_mem_cons.mpr ⟨lw_p55, List.forall_mem_cons.mpr ⟨lw_p56, List.forall_mem_cons.mpr ⟨lw_p57, List.forall_mem_cons.mpr ⟨lw_p58, List.forall_mem_cons.mpr ⟨lw_p59, List.forall_mem_cons.mpr ⟨lw_p60, List.forall_mem_cons.mpr ⟨lw_p61, List.forall_mem_cons.mpr ⟨lw_p62, List.forall_mem_cons.mpr ⟨lw_p63, fun _ h => absurd h List.not_mem_nil⟩⟩⟩⟩⟩⟩⟩⟩⟩⟩⟩⟩⟩⟩⟩⟩
theorem lw_p64 : lw_okq (⟨"EverybodyHasTheBookModel", "isByBook", "(I)Z"⟩, 34) := ⟨⟨by decide +kernel, by decide +kernel⟩, List.mem_of_getElem? (i := 871) (by decide +kernel), List.mem_of_getElem? (i := 1259) (by decide +kernel), List.mem_of_getElem? (i := 1260) (by decide +kernel)⟩
theorem lw_p65 : lw_okq (⟨"EverybodyHasTheBookModel", "truestOf", "()I"⟩, 34) := ⟨⟨by decide +kernel, by decide +kernel⟩, List.mem_of_getElem? (i := 871) (by decide +kernel), List.mem_of_getElem? (i := 1271) (by decide +kernel), List.mem_of_getElem? (i := 1272) (by decide +kernel)⟩
theorem lw_p66 : lw_okq (⟨"EverybodyHasTheBookModel", "wrongBy", "(I)I"⟩, 34) := ⟨⟨by decide +kernel, by decide +kernel⟩, List.mem_of_getElem? (i := 871) (by decide +kernel), List.mem_of_getElem? (i := 1279) (by decide +kernel), List.mem_of_getElem? (i := 1280) (by decide +kernel)⟩
theorem lw_p67 : lw_okq (⟨"EverybodyHasTheBookModel", "isChoice", "(I)Z"⟩, 34) := ⟨⟨by decide +kernel, by decide +kernel⟩, List.mem_of_getElem? (i := 871) (by decide +kernel), List.mem_of_getElem? (i := 1295) (by decide +kernel), List.mem_of_getElem? (i := 1296) (by decide +kernel)⟩
theorem lw_p68 : lw_okq (⟨"EverybodyHasTheBookModel", "readBook", "(I)V"⟩, 34) := ⟨⟨by decide +kernel, by decide +kernel⟩, List.mem_of_getElem? (i := 871) (by decide +kernel), List.mem_of_getElem? (i := 1311) (by decide +kernel), List.mem_of_getElem? (i := 1312) (by decide +kernel)⟩
theorem lw_p69 : lw_okq (⟨"EverybodyHasTheBookModel", "joyIn", "(II)I"⟩, 34) := ⟨⟨by decide +kernel, by decide +kernel⟩, List.mem_of_getElem? (i := 871) (by decide +kernel), List.mem_of_getElem? (i := 1327) (by decide +kernel), List.mem_of_getElem? (i := 1328) (by decide +kernel)⟩
theorem lw_p70 : lw_okq (⟨"EverybodyHasTheBookModel", "yearGoesBy", "()V"⟩, 34) := ⟨⟨by decide +kernel, by decide +kernel⟩, List.mem_of_getElem? (i := 871) (by decide +kernel), List.mem_of_getElem? (i := 1331) (by decide +kernel), List.mem_of_getElem? (i := 1332) (by decide +kernel)⟩
theorem lw_p71 : lw_okq (⟨"EverybodyHasTheBookModel", "bestBook", "(II)I"⟩, 34) := ⟨⟨by decide +kernel, by decide +kernel⟩, List.mem_of_getElem? (i := 871) (by decide +kernel), List.mem_of_getElem? (i := 1346) (by decide +kernel), List.mem_of_getElem? (i := 1347) (by decide +kernel)⟩
theorem lw_p72 : lw_okq (⟨"EverybodyHasTheBookModel", "writtenBy", "(II)I"⟩, 34) := ⟨⟨by decide +kernel, by decide +kernel⟩, List.mem_of_getElem? (i := 871) (by decide +kernel), List.mem_of_getElem? (i := 1350) (by decide +kernel), List.mem_of_getElem? (i := 1351) (by decide +kernel)⟩
theorem lw_p73 : lw_okq (⟨"EverybodyHasTheBookModel", "findRound", "(I)V"⟩, 34) := ⟨⟨by decide +kernel, by decide +kernel⟩, List.mem_of_getElem? (i := 871) (by decide +kernel), List.mem_of_getElem? (i := 1367) (by decide +kernel), List.mem_of_getElem? (i := 1368) (by decide +kernel)⟩
theorem lw_p74 : lw_okq (⟨"EverybodyHasTheBookModel", "ownJoy", "(I)I"⟩, 34) := ⟨⟨by decide +kernel, by decide +kernel⟩, List.mem_of_getElem? (i := 871) (by decide +kernel), List.mem_of_getElem? (i := 1375) (by decide +kernel), List.mem_of_getElem? (i := 1376) (by decide +kernel)⟩
theorem lw_p75 : lw_okq (⟨"EverybodyHasTheBookModel", "draw", "(I)I"⟩, 34) := ⟨⟨by decide +kernel, by decide +kernel⟩, List.mem_of_getElem? (i := 871) (by decide +kernel), List.mem_of_getElem? (i := 1411) (by decide +kernel), List.mem_of_getElem? (i := 1412) (by decide +kernel)⟩
def lw_privs_5 : List (MethodName × Nat) := [(⟨"EverybodyHasTheBookModel", "isByBook", "(I)Z"⟩, 34), (⟨"EverybodyHasTheBookModel", "truestOf", "()I"⟩, 34), (⟨"EverybodyHasTheBookModel", "wrongBy", "(I)I"⟩, 34), (⟨"EverybodyHasTheBookModel", "isChoice", "(I)Z"⟩, 34), (⟨"EverybodyHasTheBookModel", "readBook", "(I)V"⟩, 34), (⟨"EverybodyHasTheBookModel", "joyIn", "(II)I"⟩, 34), (⟨"EverybodyHasTheBookModel", "yearGoesBy", "()V"⟩, 34), (⟨"EverybodyHasTheBookModel", "bestBook", "(II)I"⟩, 34), (⟨"EverybodyHasTheBookModel", "writtenBy", "(II)I"⟩, 34), (⟨"EverybodyHasTheBookModel", "findRound", "(I)V"⟩, 34), (⟨"EverybodyHasTheBookModel", "ownJoy", "(I)I"⟩, 34), (⟨"EverybodyHasTheBookModel", "draw", "(I)I"⟩, 34)]
theorem lw_r5 : ∀ q ∈ lw_privs_5, lw_okq q := List.forall_mem_cons.mpr ⟨lw_p64, List.forall_mem_cons.mpr ⟨lw_p65, List.forall_mem_cons.mpr ⟨lw_p66, List.forall_mem_cons.mpr ⟨lw_p67, List.forall_mem_cons.mpr ⟨lw_p68, List.forall_mem_cons.mpr ⟨lw_p69, List.forall_mem_cons.mpr ⟨lw_p70, List.forall_mem_cons.mpr ⟨lw_p71, List.forall_mem_cons.mpr ⟨lw_p72, List.forall_mem_cons.mpr ⟨lw_p73, List.forall_mem_cons.mpr ⟨lw_p74, List.forall_mem_cons.mpr ⟨lw_p75, fun _ h => absurd h List.not_mem_nil⟩⟩⟩⟩⟩⟩⟩⟩⟩⟩⟩⟩
def lw_privs : List (MethodName × Nat) := lw_privs_1 ++ (lw_privs_2 ++ (lw_privs_3 ++ (lw_privs_4 ++ (lw_privs_5))))
def lw_tbl : List Cond := k2_sels lw_privs ++ tables_1
theorem lw_privs_ok : ∀ q ∈ lw_privs, lw_okq q := by
  show ∀ q ∈ lw_privs_1 ++ (lw_privs_2 ++ (lw_privs_3 ++ (lw_privs_4 ++ (lw_privs_5)))), lw_okq q
  exact List.forall_mem_append.mpr ⟨lw_r1, List.forall_mem_append.mpr ⟨lw_r2, List.forall_mem_append.mpr ⟨lw_r3, List.forall_mem_append.mpr ⟨lw_r4, lw_r5⟩⟩⟩⟩

def RX0 : String := "EverybodyHasTheBook$Goer"
def TX0 : u_T := fun k => match k with
  | 0 => ("EverybodyHasTheBook$Goer", "kind", "I", false)
  | 1 => ("EverybodyHasTheBook$Goer", "heads", "I", false)
  | 2 => ("EverybodyHasTheBook$Goer", "a", "I", false)
  | 3 => ("EverybodyHasTheBook$Goer", "sleeping", "[I", true)
  | 4 => ("EverybodyHasTheBook$Goer", "outside", "I", false)
  | _ => ("EverybodyHasTheBook$Goer", "joyInYears", "I", false)
def tyX0 : Nat → FieldType := fun k => match k with
  | 0 => .int
  | 1 => .int
  | 2 => .int
  | 3 => .array .int
  | 4 => .int
  | _ => .int
abbrev wsX00 : List Cond := u_ws RX0 TX0 6
theorem nmX0 : ∀ a, a < 6 → ∀ b, b < 6 → a ≠ b → (TX0 a).2.1 ≠ (TX0 b).2.1 := by decide +kernel
theorem tyX0_ok : ∀ k, k < 6 → parseFieldDescriptor (TX0 k).2.2.1 = some (tyX0 k) := by decide +kernel
abbrev cX0_init : ByteArray := prog_2_method_1_code
def yX0_init : MethodName := ⟨RX0, "<init>", "()V"⟩
abbrev cX0_become : ByteArray := prog_2_method_2_code
def yX0_become : MethodName := ⟨RX0, "become", "(III)V"⟩
abbrev cX0_isOf : ByteArray := prog_2_method_3_code
def yX0_isOf : MethodName := ⟨RX0, "isOf", "(I)Z"⟩
abbrev cX0_leaveBeds : ByteArray := prog_2_method_4_code
def yX0_leaveBeds : MethodName := ⟨RX0, "leaveBeds", "()V"⟩
abbrev cX0_goesByBook : ByteArray := prog_2_method_5_code
def yX0_goesByBook : MethodName := ⟨RX0, "goesByBook", "()Z"⟩
abbrev cX0_comesLate : ByteArray := prog_2_method_6_code
def yX0_comesLate : MethodName := ⟨RX0, "comesLate", "()Z"⟩
def RX1 : String := "EverybodyHasTheBook$Inn"
def TX1 : u_T := fun k => match k with
  | 0 => ("EverybodyHasTheBook$Inn", "good", "I", false)
  | 1 => ("EverybodyHasTheBook$Inn", "base", "I", false)
  | 2 => ("EverybodyHasTheBook$Inn", "rooms", "I", false)
  | 3 => ("EverybodyHasTheBook$Inn", "price", "I", false)
  | 4 => ("EverybodyHasTheBook$Inn", "said", "I", false)
  | 5 => ("EverybodyHasTheBook$Inn", "letters", "I", false)
  | 6 => ("EverybodyHasTheBook$Inn", "lettersTogether", "I", false)
  | 7 => ("EverybodyHasTheBook$Inn", "guests", "I", false)
  | _ => ("EverybodyHasTheBook$Inn", "takenInYears", "I", false)
def tyX1 : Nat → FieldType := fun k => match k with
  | 0 => .int
  | 1 => .int
  | 2 => .int
  | 3 => .int
  | 4 => .int
  | 5 => .int
  | 6 => .int
  | 7 => .int
  | _ => .int
abbrev wsX10 : List Cond := u_ws RX1 TX1 9
theorem nmX1 : ∀ a, a < 9 → ∀ b, b < 9 → a ≠ b → (TX1 a).2.1 ≠ (TX1 b).2.1 := by decide +kernel
theorem tyX1_ok : ∀ k, k < 9 → parseFieldDescriptor (TX1 k).2.2.1 = some (tyX1 k) := by decide +kernel
abbrev cX1_init : ByteArray := prog_3_method_1_code
def yX1_init : MethodName := ⟨RX1, "<init>", "()V"⟩
abbrev cX1_open : ByteArray := prog_3_method_2_code
def yX1_open : MethodName := ⟨RX1, "open", "(III)V"⟩
abbrev cX1_becomeLike : ByteArray := prog_3_method_3_code
def yX1_becomeLike : MethodName := ⟨RX1, "becomeLike", "(LEverybodyHasTheBook$Inn;)V"⟩
abbrev cX1_hasRoomForLetter : ByteArray := prog_3_method_4_code
def yX1_hasRoomForLetter : MethodName := ⟨RX1, "hasRoomForLetter", "()Z"⟩
abbrev cX1_receiveLetter : ByteArray := prog_3_method_5_code
def yX1_receiveLetter : MethodName := ⟨RX1, "receiveLetter", "(I)Z"⟩
abbrev cX1_leanWith : ByteArray := prog_3_method_6_code
def yX1_leanWith : MethodName := ⟨RX1, "leanWith", "(II)I"⟩
abbrev cX1_isFull : ByteArray := prog_3_method_7_code
def yX1_isFull : MethodName := ⟨RX1, "isFull", "()Z"⟩
abbrev cX1_joyOfHead : ByteArray := prog_3_method_8_code
def yX1_joyOfHead : MethodName := ⟨RX1, "joyOfHead", "()I"⟩
abbrev cX1_takenTonight : ByteArray := prog_3_method_9_code
def yX1_takenTonight : MethodName := ⟨RX1, "takenTonight", "()I"⟩
abbrev cX1_growOlder : ByteArray := prog_3_method_10_code
def yX1_growOlder : MethodName := ⟨RX1, "growOlder", "()V"⟩
def RX2 : String := "EverybodyHasTheBook$Shelf"
def TX2 : u_T := fun k => match k with
  | 0 => ("EverybodyHasTheBook$Shelf", "held", "I", false)
  | 1 => ("EverybodyHasTheBook$Shelf", "size", "I", false)
  | _ => ("EverybodyHasTheBook$Shelf", "elements", "[J", true)
def tyX2 : Nat → FieldType := fun k => match k with
  | 0 => .int
  | 1 => .int
  | _ => .array .long
abbrev wsX20 : List Cond := u_ws RX2 TX2 3
theorem nmX2 : ∀ a, a < 3 → ∀ b, b < 3 → a ≠ b → (TX2 a).2.1 ≠ (TX2 b).2.1 := by decide +kernel
theorem tyX2_ok : ∀ k, k < 3 → parseFieldDescriptor (TX2 k).2.2.1 = some (tyX2 k) := by decide +kernel
abbrev cX2_init : ByteArray := prog_4_method_1_code
def yX2_init : MethodName := ⟨RX2, "<init>", "()V"⟩
abbrev cX2_holdsRow : ByteArray := prog_4_method_2_code
def yX2_holdsRow : MethodName := ⟨RX2, "holdsRow", "()Z"⟩
abbrev cX2_holdsGoer : ByteArray := prog_4_method_3_code
def yX2_holdsGoer : MethodName := ⟨RX2, "holdsGoer", "()Z"⟩
abbrev cX2_holdRow : ByteArray := prog_4_method_4_code
def yX2_holdRow : MethodName := ⟨RX2, "holdRow", "(II)V"⟩
abbrev cX2_hasRun : ByteArray := prog_4_method_5_code
def yX2_hasRun : MethodName := ⟨RX2, "hasRun", "(II)Z"⟩
abbrev cX2_put : ByteArray := prog_4_method_6_code
def yX2_put : MethodName := ⟨RX2, "put", "(IJ)V"⟩
abbrev cX2_lowestBits : ByteArray := prog_4_method_7_code
def yX2_lowestBits : MethodName := ⟨RX2, "lowestBits", "(J)J"⟩
def RX3 : String := "EverybodyHasTheBook$Tape"
def TX3 : u_T := fun k => match k with
  | 0 => ("EverybodyHasTheBook$Tape", "bytes", "[I", true)
  | 1 => ("EverybodyHasTheBook$Tape", "size", "I", false)
  | 2 => ("EverybodyHasTheBook$Tape", "tokenStart", "I", false)
  | 3 => ("EverybodyHasTheBook$Tape", "tokenEnd", "I", false)
  | _ => ("EverybodyHasTheBook$Tape", "token", "I", false)
def tyX3 : Nat → FieldType := fun k => match k with
  | 0 => .array .int
  | 1 => .int
  | 2 => .int
  | 3 => .int
  | _ => .int
abbrev wsX30 : List Cond := u_ws RX3 TX3 5
theorem nmX3 : ∀ a, a < 5 → ∀ b, b < 5 → a ≠ b → (TX3 a).2.1 ≠ (TX3 b).2.1 := by decide +kernel
theorem tyX3_ok : ∀ k, k < 5 → parseFieldDescriptor (TX3 k).2.2.1 = some (tyX3 k) := by decide +kernel
abbrev cX3_init : ByteArray := prog_5_method_1_code
def yX3_init : MethodName := ⟨RX3, "<init>", "()V"⟩
abbrev cX3_append : ByteArray := prog_5_method_2_code
def yX3_append : MethodName := ⟨RX3, "append", "(I)Z"⟩
abbrev cX3_readInto : ByteArray := prog_5_method_3_code
def yX3_readInto : MethodName := ⟨RX3, "readInto", "(LEverybodyHasTheBook$Valley;)I"⟩
abbrev cX3_readStatement : ByteArray := prog_5_method_4_code
def yX3_readStatement : MethodName := ⟨RX3, "readStatement", "(LEverybodyHasTheBook$Valley;)Z"⟩
abbrev cX3_readInn : ByteArray := prog_5_method_5_code
def yX3_readInn : MethodName := ⟨RX3, "readInn", "(LEverybodyHasTheBook$Valley;)Z"⟩
abbrev cX3_readGoer : ByteArray := prog_5_method_6_code
def yX3_readGoer : MethodName := ⟨RX3, "readGoer", "(LEverybodyHasTheBook$Valley;)Z"⟩
abbrev cX3_readLetter : ByteArray := prog_5_method_7_code
def yX3_readLetter : MethodName := ⟨RX3, "readLetter", "(LEverybodyHasTheBook$Valley;)Z"⟩
abbrev cX3_readAge : ByteArray := prog_5_method_8_code
def yX3_readAge : MethodName := ⟨RX3, "readAge", "(LEverybodyHasTheBook$Valley;)Z"⟩
abbrev cX3_readWrite : ByteArray := prog_5_method_9_code
def yX3_readWrite : MethodName := ⟨RX3, "readWrite", "(LEverybodyHasTheBook$Valley;)Z"⟩
abbrev cX3_takeNumber : ByteArray := prog_5_method_10_code
def yX3_takeNumber : MethodName := ⟨RX3, "takeNumber", "(II)I"⟩
abbrev cX3_numberWithin : ByteArray := prog_5_method_11_code
def yX3_numberWithin : MethodName := ⟨RX3, "numberWithin", "(II)I"⟩
abbrev cX3_isWord : ByteArray := prog_5_method_12_code
def yX3_isWord : MethodName := ⟨RX3, "isWord", "(Ljava/lang/String;)Z"⟩
abbrev cX3_readToken : ByteArray := prog_5_method_13_code
def yX3_readToken : MethodName := ⟨RX3, "readToken", "()V"⟩
abbrev cX3_tokenAt : ByteArray := prog_5_method_14_code
def yX3_tokenAt : MethodName := ⟨RX3, "tokenAt", "(I)I"⟩
abbrev cX3_byteAt : ByteArray := prog_5_method_15_code
def yX3_byteAt : MethodName := ⟨RX3, "byteAt", "(I)I"⟩
def RX4 : String := "EverybodyHasTheBook$Valley"
def TX4 : u_T := fun k => match k with
  | 0 => ("EverybodyHasTheBook$Valley", "inns", "[LEverybodyHasTheBook$Inn;", true)
  | 1 => ("EverybodyHasTheBook$Valley", "goers", "[LEverybodyHasTheBook$Goer;", true)
  | 2 => ("EverybodyHasTheBook$Valley", "innCount", "I", false)
  | 3 => ("EverybodyHasTheBook$Valley", "goerCount", "I", false)
  | 4 => ("EverybodyHasTheBook$Valley", "age", "I", false)
  | 5 => ("EverybodyHasTheBook$Valley", "yearsGone", "I", false)
  | 6 => ("EverybodyHasTheBook$Valley", "seed", "I", false)
  | 7 => ("EverybodyHasTheBook$Valley", "scores", "[I", true)
  | _ => ("EverybodyHasTheBook$Valley", "coming", "[LEverybodyHasTheBook$Goer;", true)
def tyX4 : Nat → FieldType := fun k => match k with
  | 0 => .array (.object "EverybodyHasTheBook$Inn")
  | 1 => .array (.object "EverybodyHasTheBook$Goer")
  | 2 => .int
  | 3 => .int
  | 4 => .int
  | 5 => .int
  | 6 => .int
  | 7 => .array .int
  | _ => .array (.object "EverybodyHasTheBook$Goer")
abbrev wsX40 : List Cond := u_ws RX4 TX4 9
theorem nmX4 : ∀ a, a < 9 → ∀ b, b < 9 → a ≠ b → (TX4 a).2.1 ≠ (TX4 b).2.1 := by decide +kernel
theorem tyX4_ok : ∀ k, k < 9 → parseFieldDescriptor (TX4 k).2.2.1 = some (tyX4 k) := by decide +kernel
abbrev cX4_init : ByteArray := prog_6_method_1_code
def yX4_init : MethodName := ⟨RX4, "<init>", "()V"⟩
abbrev cX4_becomeLike : ByteArray := prog_6_method_2_code
def yX4_becomeLike : MethodName := ⟨RX4, "becomeLike", "(LEverybodyHasTheBook$Valley;)V"⟩
abbrev cX4_addInn : ByteArray := prog_6_method_3_code
def yX4_addInn : MethodName := ⟨RX4, "addInn", "(III)I"⟩
abbrev cX4_addGoer : ByteArray := prog_6_method_4_code
def yX4_addGoer : MethodName := ⟨RX4, "addGoer", "(III)I"⟩
abbrev cX4_writeBook : ByteArray := prog_6_method_5_code
def yX4_writeBook : MethodName := ⟨RX4, "writeBook", "(I)I"⟩
abbrev cX4_innsInBook : ByteArray := prog_6_method_6_code
def yX4_innsInBook : MethodName := ⟨RX4, "innsInBook", "()I"⟩
abbrev cX4_roomsOfAll : ByteArray := prog_6_method_7_code
def yX4_roomsOfAll : MethodName := ⟨RX4, "roomsOfAll", "()I"⟩
abbrev cX4_headsOfAll : ByteArray := prog_6_method_8_code
def yX4_headsOfAll : MethodName := ⟨RX4, "headsOfAll", "()I"⟩
abbrev cX4_truestInn : ByteArray := prog_6_method_9_code
def yX4_truestInn : MethodName := ⟨RX4, "truestInn", "()I"⟩
abbrev cX4_scoreOf : ByteArray := prog_6_method_10_code
def yX4_scoreOf : MethodName := ⟨RX4, "scoreOf", "(LEverybodyHasTheBook$Goer;LEverybodyHasTheBook$Inn;)I"⟩
abbrev cX4_firstChoice : ByteArray := prog_6_method_11_code
def yX4_firstChoice : MethodName := ⟨RX4, "firstChoice", "(LEverybodyHasTheBook$Goer;)I"⟩
abbrev cX4_crowdOf : ByteArray := prog_6_method_12_code
def yX4_crowdOf : MethodName := ⟨RX4, "crowdOf", "(I)I"⟩
abbrev cX4_spendNight : ByteArray := prog_6_method_13_code
def yX4_spendNight : MethodName := ⟨RX4, "spendNight", "()V"⟩
abbrev cX4_spendNightWithTwoBooks : ByteArray := prog_6_method_14_code
def yX4_spendNightWithTwoBooks : MethodName := ⟨RX4, "spendNightWithTwoBooks", "(II)V"⟩
abbrev cX4_beginNight : ByteArray := prog_6_method_15_code
def yX4_beginNight : MethodName := ⟨RX4, "beginNight", "()V"⟩
abbrev cX4_lineUp : ByteArray := prog_6_method_16_code
def yX4_lineUp : MethodName := ⟨RX4, "lineUp", "(ZI)V"⟩
abbrev cX4_lateOnes : ByteArray := prog_6_method_17_code
def yX4_lateOnes : MethodName := ⟨RX4, "lateOnes", "()I"⟩
abbrev cX4_lodge : ByteArray := prog_6_method_18_code
def yX4_lodge : MethodName := ⟨RX4, "lodge", "(LEverybodyHasTheBook$Goer;I)V"⟩
abbrev cX4_bestWithRooms : ByteArray := prog_6_method_19_code
def yX4_bestWithRooms : MethodName := ⟨RX4, "bestWithRooms", "()I"⟩
abbrev cX4_fullInns : ByteArray := prog_6_method_20_code
def yX4_fullInns : MethodName := ⟨RX4, "fullInns", "()I"⟩
abbrev cX4_outsideOfAll : ByteArray := prog_6_method_21_code
def yX4_outsideOfAll : MethodName := ⟨RX4, "outsideOfAll", "()I"⟩
abbrev cX4_joyOf : ByteArray := prog_6_method_22_code
def yX4_joyOf : MethodName := ⟨RX4, "joyOf", "(LEverybodyHasTheBook$Goer;)I"⟩
abbrev cX4_joyOfAll : ByteArray := prog_6_method_23_code
def yX4_joyOfAll : MethodName := ⟨RX4, "joyOfAll", "()I"⟩
abbrev cX4_passYears : ByteArray := prog_6_method_24_code
def yX4_passYears : MethodName := ⟨RX4, "passYears", "(I)I"⟩
abbrev cX4_endYear : ByteArray := prog_6_method_25_code
def yX4_endYear : MethodName := ⟨RX4, "endYear", "()I"⟩
abbrev cX4_joyInYearsOfOwn : ByteArray := prog_6_method_26_code
def yX4_joyInYearsOfOwn : MethodName := ⟨RX4, "joyInYearsOfOwn", "()I"⟩
abbrev cX4_staysGood : ByteArray := prog_6_method_27_code
def yX4_staysGood : MethodName := ⟨RX4, "staysGood", "(III)Z"⟩
abbrev cX4_drawLetter : ByteArray := prog_6_method_28_code
def yX4_drawLetter : MethodName := ⟨RX4, "drawLetter", "()Z"⟩
abbrev cX4_draw : ByteArray := prog_6_method_29_code
def yX4_draw : MethodName := ⟨RX4, "draw", "(I)I"⟩
def RX5 : String := "EverybodyHasTheBook"
def TX5 : u_T := fun k => match k with
  | 0 => ("EverybodyHasTheBook", "now", "LEverybodyHasTheBook$Valley;", true)
  | 1 => ("EverybodyHasTheBook", "thought", "LEverybodyHasTheBook$Valley;", true)
  | 2 => ("EverybodyHasTheBook", "picture", "LEverybodyHasTheBook$Valley;", true)
  | 3 => ("EverybodyHasTheBook", "pictured", "Z", false)
  | 4 => ("EverybodyHasTheBook", "shelves", "[LEverybodyHasTheBook$Shelf;", true)
  | 5 => ("EverybodyHasTheBook", "tape", "LEverybodyHasTheBook$Tape;", true)
  | _ => ("EverybodyHasTheBook", "refusals", "[I", true)
def tyX5 : Nat → FieldType := fun k => match k with
  | 0 => .object "EverybodyHasTheBook$Valley"
  | 1 => .object "EverybodyHasTheBook$Valley"
  | 2 => .object "EverybodyHasTheBook$Valley"
  | 3 => .boolean
  | 4 => .array (.object "EverybodyHasTheBook$Shelf")
  | 5 => .object "EverybodyHasTheBook$Tape"
  | _ => .array .int
abbrev wsX50 : List Cond := u_ws RX5 TX5 7
theorem nmX5 : ∀ a, a < 7 → ∀ b, b < 7 → a ≠ b → (TX5 a).2.1 ≠ (TX5 b).2.1 := by decide +kernel
theorem tyX5_ok : ∀ k, k < 7 → parseFieldDescriptor (TX5 k).2.2.1 = some (tyX5 k) := by decide +kernel
abbrev cX5_init : ByteArray := prog_1_method_1_code
def yX5_init : MethodName := ⟨RX5, "<init>", "()V"⟩
abbrev cX5_row : ByteArray := prog_1_method_2_code
def yX5_row : MethodName := ⟨RX5, "row", "(III)I"⟩
abbrev cX5_set : ByteArray := prog_1_method_3_code
def yX5_set : MethodName := ⟨RX5, "set", "(IIJ)I"⟩
abbrev cX5_copy : ByteArray := prog_1_method_4_code
def yX5_copy : MethodName := ⟨RX5, "copy", "(IIIII)I"⟩
abbrev cX5_element : ByteArray := prog_1_method_5_code
def yX5_element : MethodName := ⟨RX5, "element", "(II)J"⟩
abbrev cX5_holds : ByteArray := prog_1_method_6_code
def yX5_holds : MethodName := ⟨RX5, "holds", "(I)I"⟩
abbrev cX5_show : ByteArray := prog_1_method_7_code
def yX5_show : MethodName := ⟨RX5, "show", "(II)I"⟩
abbrev cX5_says : ByteArray := prog_1_method_8_code
def yX5_says : MethodName := ⟨RX5, "says", "(II)I"⟩
abbrev cX5_inn : ByteArray := prog_1_method_9_code
def yX5_inn : MethodName := ⟨RX5, "inn", "(III)I"⟩
abbrev cX5_goer : ByteArray := prog_1_method_10_code
def yX5_goer : MethodName := ⟨RX5, "goer", "(III)I"⟩
abbrev cX5_change : ByteArray := prog_1_method_11_code
def yX5_change : MethodName := ⟨RX5, "change", "(III)I"⟩
abbrev cX5_say : ByteArray := prog_1_method_12_code
def yX5_say : MethodName := ⟨RX5, "say", "(II)I"⟩
abbrev cX5_write : ByteArray := prog_1_method_13_code
def yX5_write : MethodName := ⟨RX5, "write", "(I)I"⟩
abbrev cX5_letter : ByteArray := prog_1_method_14_code
def yX5_letter : MethodName := ⟨RX5, "letter", "(II)I"⟩
abbrev cX5_age : ByteArray := prog_1_method_15_code
def yX5_age : MethodName := ⟨RX5, "age", "(I)I"⟩
abbrev cX5_heads : ByteArray := prog_1_method_16_code
def yX5_heads : MethodName := ⟨RX5, "heads", "(II)I"⟩
abbrev cX5_feed : ByteArray := prog_1_method_17_code
def yX5_feed : MethodName := ⟨RX5, "feed", "(I)I"⟩
abbrev cX5_wipe : ByteArray := prog_1_method_18_code
def yX5_wipe : MethodName := ⟨RX5, "wipe", "()I"⟩
abbrev cX5_valley : ByteArray := prog_1_method_19_code
def yX5_valley : MethodName := ⟨RX5, "valley", "()I"⟩
abbrev cX5_innOf : ByteArray := prog_1_method_20_code
def yX5_innOf : MethodName := ⟨RX5, "innOf", "(II)I"⟩
abbrev cX5_goerOf : ByteArray := prog_1_method_21_code
def yX5_goerOf : MethodName := ⟨RX5, "goerOf", "(II)I"⟩
abbrev cX5_score : ByteArray := prog_1_method_22_code
def yX5_score : MethodName := ⟨RX5, "score", "(II)I"⟩
abbrev cX5_sleeps : ByteArray := prog_1_method_23_code
def yX5_sleeps : MethodName := ⟨RX5, "sleeps", "(II)I"⟩
abbrev cX5_guests : ByteArray := prog_1_method_24_code
def yX5_guests : MethodName := ⟨RX5, "guests", "(I)I"⟩
abbrev cX5_out : ByteArray := prog_1_method_25_code
def yX5_out : MethodName := ⟨RX5, "out", "(I)I"⟩
abbrev cX5_full : ByteArray := prog_1_method_26_code
def yX5_full : MethodName := ⟨RX5, "full", "()I"⟩
abbrev cX5_joy : ByteArray := prog_1_method_27_code
def yX5_joy : MethodName := ⟨RX5, "joy", "(I)I"⟩
abbrev cX5_taken : ByteArray := prog_1_method_28_code
def yX5_taken : MethodName := ⟨RX5, "taken", "(I)I"⟩
abbrev cX5_crowd : ByteArray := prog_1_method_29_code
def yX5_crowd : MethodName := ⟨RX5, "crowd", "(I)I"⟩
abbrev cX5_lean : ByteArray := prog_1_method_30_code
def yX5_lean : MethodName := ⟨RX5, "lean", "(I)I"⟩
abbrev cX5_truest : ByteArray := prog_1_method_31_code
def yX5_truest : MethodName := ⟨RX5, "truest", "()I"⟩
abbrev cX5_oldest : ByteArray := prog_1_method_32_code
def yX5_oldest : MethodName := ⟨RX5, "oldest", "()I"⟩
abbrev cX5_enough : ByteArray := prog_1_method_33_code
def yX5_enough : MethodName := ⟨RX5, "enough", "(I)I"⟩
abbrev cX5_better : ByteArray := prog_1_method_34_code
def yX5_better : MethodName := ⟨RX5, "better", "(I)I"⟩
abbrev cX5_trust : ByteArray := prog_1_method_35_code
def yX5_trust : MethodName := ⟨RX5, "trust", "(I)I"⟩
abbrev cX5_share : ByteArray := prog_1_method_36_code
def yX5_share : MethodName := ⟨RX5, "share", "(I)I"⟩
abbrev cX5_nine : ByteArray := prog_1_method_37_code
def yX5_nine : MethodName := ⟨RX5, "nine", "(III)I"⟩
abbrev cX5_two : ByteArray := prog_1_method_38_code
def yX5_two : MethodName := ⟨RX5, "two", "(II)I"⟩
abbrev cX5_judge : ByteArray := prog_1_method_39_code
def yX5_judge : MethodName := ⟨RX5, "judge", "(I)I"⟩
abbrev cX5_years : ByteArray := prog_1_method_40_code
def yX5_years : MethodName := ⟨RX5, "years", "(II)I"⟩
abbrev cX5_then : ByteArray := prog_1_method_41_code
def yX5_then : MethodName := ⟨RX5, "then", "(III)I"⟩
abbrev cX5_book : ByteArray := prog_1_method_42_code
def yX5_book : MethodName := ⟨RX5, "book", "(II)I"⟩
abbrev cX5_written : ByteArray := prog_1_method_43_code
def yX5_written : MethodName := ⟨RX5, "written", "(II)I"⟩
abbrev cX5_many : ByteArray := prog_1_method_44_code
def yX5_many : MethodName := ⟨RX5, "many", "(I)I"⟩
abbrev cX5_round : ByteArray := prog_1_method_45_code
def yX5_round : MethodName := ⟨RX5, "round", "(II)I"⟩
abbrev cX5_kept : ByteArray := prog_1_method_46_code
def yX5_kept : MethodName := ⟨RX5, "kept", "(II)I"⟩
abbrev cX5_called : ByteArray := prog_1_method_47_code
def yX5_called : MethodName := ⟨RX5, "called", "(III)I"⟩
abbrev cX5_spoilt : ByteArray := prog_1_method_48_code
def yX5_spoilt : MethodName := ⟨RX5, "spoilt", "(II)I"⟩
abbrev cX5_bears : ByteArray := prog_1_method_49_code
def yX5_bears : MethodName := ⟨RX5, "bears", "(IIII)I"⟩
abbrev cX5_recovers : ByteArray := prog_1_method_50_code
def yX5_recovers : MethodName := ⟨RX5, "recovers", "(I)I"⟩
abbrev cX5_dearest : ByteArray := prog_1_method_51_code
def yX5_dearest : MethodName := ⟨RX5, "dearest", "(II)I"⟩
abbrev cX5_year : ByteArray := prog_1_method_52_code
def yX5_year : MethodName := ⟨RX5, "year", "()I"⟩
abbrev cX5_goes : ByteArray := prog_1_method_53_code
def yX5_goes : MethodName := ⟨RX5, "goes", "(I)I"⟩
abbrev cX5_post : ByteArray := prog_1_method_54_code
def yX5_post : MethodName := ⟨RX5, "post", "(I)I"⟩
abbrev cX5_seed : ByteArray := prog_1_method_55_code
def yX5_seed : MethodName := ⟨RX5, "seed", "(I)I"⟩
abbrev cX5_image : ByteArray := prog_1_method_56_code
def yX5_image : MethodName := ⟨RX5, "image", "()I"⟩
abbrev cX5_back : ByteArray := prog_1_method_57_code
def yX5_back : MethodName := ⟨RX5, "back", "()I"⟩
abbrev cX5_status : ByteArray := prog_1_method_58_code
def yX5_status : MethodName := ⟨RX5, "status", "(I)I"⟩
abbrev cX5_refuse : ByteArray := prog_1_method_59_code
def yX5_refuse : MethodName := ⟨RX5, "refuse", "(I)I"⟩
abbrev cX5_refuseBelowZero : ByteArray := prog_1_method_60_code
def yX5_refuseBelowZero : MethodName := ⟨RX5, "refuseBelowZero", "(I)I"⟩
abbrev cX5_within : ByteArray := prog_1_method_61_code
def yX5_within : MethodName := ⟨RX5, "within", "(III)Z"⟩
abbrev cX5_isShelf : ByteArray := prog_1_method_62_code
def yX5_isShelf : MethodName := ⟨RX5, "isShelf", "(I)Z"⟩
abbrev cX5_isGood : ByteArray := prog_1_method_63_code
def yX5_isGood : MethodName := ⟨RX5, "isGood", "(I)Z"⟩
abbrev cX5_isSpan : ByteArray := prog_1_method_64_code
def yX5_isSpan : MethodName := ⟨RX5, "isSpan", "(I)Z"⟩
abbrev cX5_isInn : ByteArray := prog_1_method_65_code
def yX5_isInn : MethodName := ⟨RX5, "isInn", "(I)Z"⟩
abbrev cX5_isGoer : ByteArray := prog_1_method_66_code
def yX5_isGoer : MethodName := ⟨RX5, "isGoer", "(I)Z"⟩
abbrev cX5_isGoerOrNone : ByteArray := prog_1_method_67_code
def yX5_isGoerOrNone : MethodName := ⟨RX5, "isGoerOrNone", "(I)Z"⟩
abbrev cX5_isSet : ByteArray := prog_1_method_68_code
def yX5_isSet : MethodName := ⟨RX5, "isSet", "(I)Z"⟩
abbrev cX5_rowFault : ByteArray := prog_1_method_69_code
def yX5_rowFault : MethodName := ⟨RX5, "rowFault", "(I)I"⟩
abbrev cX5_shelvesInUse : ByteArray := prog_1_method_70_code
def yX5_shelvesInUse : MethodName := ⟨RX5, "shelvesInUse", "()I"⟩
abbrev cX5_tonight : ByteArray := prog_1_method_71_code
def yX5_tonight : MethodName := ⟨RX5, "tonight", "()LEverybodyHasTheBook$Valley;"⟩
abbrev cX5_think : ByteArray := prog_1_method_72_code
def yX5_think : MethodName := ⟨RX5, "think", "()LEverybodyHasTheBook$Valley;"⟩
abbrev cX5_joyIfWritten : ByteArray := prog_1_method_73_code
def yX5_joyIfWritten : MethodName := ⟨RX5, "joyIfWritten", "(II)I"⟩
abbrev cX5_bestBook : ByteArray := prog_1_method_74_code
def yX5_bestBook : MethodName := ⟨RX5, "bestBook", "(IIZ)I"⟩
abbrev cX5_joyIfGoneRound : ByteArray := prog_1_method_75_code
def yX5_joyIfGoneRound : MethodName := ⟨RX5, "joyIfGoneRound", "(II)I"⟩
abbrev cX5_innOfRound : ByteArray := prog_1_method_76_code
def yX5_innOfRound : MethodName := ⟨RX5, "innOfRound", "(III)I"⟩
abbrev cX5_power : ByteArray := prog_1_method_77_code
def yX5_power : MethodName := ⟨RX5, "power", "(II)I"⟩
def RX6 : String := "EverybodyHasTheBookModel"
def TX6 : u_T := fun k => match k with
  | 0 => ("EverybodyHasTheBookModel", "shelf", "[I", true)
  | 1 => ("EverybodyHasTheBookModel", "rowSort", "[I", true)
  | 2 => ("EverybodyHasTheBookModel", "rowSize", "[I", true)
  | 3 => ("EverybodyHasTheBookModel", "rows", "[[J", true)
  | 4 => ("EverybodyHasTheBookModel", "moved", "[J", true)
  | 5 => ("EverybodyHasTheBookModel", "shown", "[I", true)
  | 6 => ("EverybodyHasTheBookModel", "tape", "[I", true)
  | 7 => ("EverybodyHasTheBookModel", "tapeSize", "I", false)
  | 8 => ("EverybodyHasTheBookModel", "refused", "[I", true)
  | 9 => ("EverybodyHasTheBookModel", "inns", "I", false)
  | 10 => ("EverybodyHasTheBookModel", "inn", "[[I", true)
  | 11 => ("EverybodyHasTheBookModel", "goers", "I", false)
  | 12 => ("EverybodyHasTheBookModel", "goer", "[[I", true)
  | 13 => ("EverybodyHasTheBookModel", "age", "I", false)
  | 14 => ("EverybodyHasTheBookModel", "yearsGone", "I", false)
  | 15 => ("EverybodyHasTheBookModel", "seed", "I", false)
  | 16 => ("EverybodyHasTheBookModel", "kept", "LEverybodyHasTheBookModel;", false)
  | 17 => ("EverybodyHasTheBookModel", "tried", "LEverybodyHasTheBookModel;", false)
  | 18 => ("EverybodyHasTheBookModel", "at", "I", false)
  | 19 => ("EverybodyHasTheBookModel", "token", "I", false)
  | 20 => ("EverybodyHasTheBookModel", "from", "I", false)
  | 21 => ("EverybodyHasTheBookModel", "figures", "I", false)
  | 22 => ("EverybodyHasTheBookModel", "fault", "I", false)
  | 23 => ("EverybodyHasTheBookModel", "told", "[I", true)
  | 24 => ("EverybodyHasTheBookModel", "statements", "I", false)
  | 25 => ("EverybodyHasTheBookModel", "sleeps", "[[I", true)
  | 26 => ("EverybodyHasTheBookModel", "out", "[I", true)
  | 27 => ("EverybodyHasTheBookModel", "left", "[I", true)
  | 28 => ("EverybodyHasTheBookModel", "saidNow", "[I", true)
  | 29 => ("EverybodyHasTheBookModel", "thisJoy", "I", false)
  | 30 => ("EverybodyHasTheBookModel", "joys", "[I", true)
  | 31 => ("EverybodyHasTheBookModel", "yearJoy", "[I", true)
  | 32 => ("EverybodyHasTheBookModel", "bestJoy", "I", false)
  | _ => ("EverybodyHasTheBookModel", "bestRound", "[I", true)
def tyX6 : Nat → FieldType := fun k => match k with
  | 0 => .array .int
  | 1 => .array .int
  | 2 => .array .int
  | 3 => .array (.array .long)
  | 4 => .array .long
  | 5 => .array .int
  | 6 => .array .int
  | 7 => .int
  | 8 => .array .int
  | 9 => .int
  | 10 => .array (.array .int)
  | 11 => .int
  | 12 => .array (.array .int)
  | 13 => .int
  | 14 => .int
  | 15 => .int
  | 16 => .object "EverybodyHasTheBookModel"
  | 17 => .object "EverybodyHasTheBookModel"
  | 18 => .int
  | 19 => .int
  | 20 => .int
  | 21 => .int
  | 22 => .int
  | 23 => .array .int
  | 24 => .int
  | 25 => .array (.array .int)
  | 26 => .array .int
  | 27 => .array .int
  | 28 => .array .int
  | 29 => .int
  | 30 => .array .int
  | 31 => .array .int
  | 32 => .int
  | _ => .array .int
abbrev wsX60 : List Cond := u_ws RX6 TX6 34
theorem nmX6 : ∀ a, a < 34 → ∀ b, b < 34 → a ≠ b → (TX6 a).2.1 ≠ (TX6 b).2.1 := by decide +kernel
theorem tyX6_ok : ∀ k, k < 34 → parseFieldDescriptor (TX6 k).2.2.1 = some (tyX6 k) := by decide +kernel
abbrev cX6_init : ByteArray := prog_8_method_1_code
def yX6_init : MethodName := ⟨RX6, "<init>", "()V"⟩
abbrev cX6_refuse : ByteArray := prog_8_method_2_code
def yX6_refuse : MethodName := ⟨RX6, "refuse", "(I)I"⟩
abbrev cX6_in : ByteArray := prog_8_method_3_code
def yX6_in : MethodName := ⟨RX6, "in", "(JJJ)Z"⟩
abbrev cX6_within : ByteArray := prog_8_method_4_code
def yX6_within : MethodName := ⟨RX6, "within", "(II)I"⟩
abbrev cX6_isInn : ByteArray := prog_8_method_5_code
def yX6_isInn : MethodName := ⟨RX6, "isInn", "(I)Z"⟩
abbrev cX6_isGoer : ByteArray := prog_8_method_6_code
def yX6_isGoer : MethodName := ⟨RX6, "isGoer", "(I)Z"⟩
abbrev cX6_isYears : ByteArray := prog_8_method_7_code
def yX6_isYears : MethodName := ⟨RX6, "isYears", "(I)Z"⟩
abbrev cX6_row : ByteArray := prog_8_method_8_code
def yX6_row : MethodName := ⟨RX6, "row", "(III)I"⟩
abbrev cX6_fit : ByteArray := prog_8_method_9_code
def yX6_fit : MethodName := ⟨RX6, "fit", "(IJ)J"⟩
abbrev cX6_noRow : ByteArray := prog_8_method_10_code
def yX6_noRow : MethodName := ⟨RX6, "noRow", "(I)I"⟩
abbrev cX6_set : ByteArray := prog_8_method_11_code
def yX6_set : MethodName := ⟨RX6, "set", "(IIJ)I"⟩
abbrev cX6_copy : ByteArray := prog_8_method_12_code
def yX6_copy : MethodName := ⟨RX6, "copy", "(IIIII)I"⟩
abbrev cX6_element : ByteArray := prog_8_method_13_code
def yX6_element : MethodName := ⟨RX6, "element", "(II)J"⟩
abbrev cX6_holds : ByteArray := prog_8_method_14_code
def yX6_holds : MethodName := ⟨RX6, "holds", "(I)I"⟩
abbrev cX6_show : ByteArray := prog_8_method_15_code
def yX6_show : MethodName := ⟨RX6, "show", "(II)I"⟩
abbrev cX6_isUnder : ByteArray := prog_8_method_16_code
def yX6_isUnder : MethodName := ⟨RX6, "isUnder", "(II)Z"⟩
abbrev cX6_says : ByteArray := prog_8_method_17_code
def yX6_says : MethodName := ⟨RX6, "says", "(II)I"⟩
abbrev cX6_addInn : ByteArray := prog_8_method_18_code
def yX6_addInn : MethodName := ⟨RX6, "addInn", "(IIII)V"⟩
abbrev cX6_inn : ByteArray := prog_8_method_19_code
def yX6_inn : MethodName := ⟨RX6, "inn", "(III)I"⟩
abbrev cX6_goer : ByteArray := prog_8_method_20_code
def yX6_goer : MethodName := ⟨RX6, "goer", "(III)I"⟩
abbrev cX6_change : ByteArray := prog_8_method_21_code
def yX6_change : MethodName := ⟨RX6, "change", "(III)I"⟩
abbrev cX6_say : ByteArray := prog_8_method_22_code
def yX6_say : MethodName := ⟨RX6, "say", "(II)I"⟩
abbrev cX6_writes : ByteArray := prog_8_method_23_code
def yX6_writes : MethodName := ⟨RX6, "writes", "(I)I"⟩
abbrev cX6_isSet : ByteArray := prog_8_method_24_code
def yX6_isSet : MethodName := ⟨RX6, "isSet", "(I)Z"⟩
abbrev cX6_write : ByteArray := prog_8_method_25_code
def yX6_write : MethodName := ⟨RX6, "write", "(I)I"⟩
abbrev cX6_getsLetter : ByteArray := prog_8_method_26_code
def yX6_getsLetter : MethodName := ⟨RX6, "getsLetter", "(II)V"⟩
abbrev cX6_letter : ByteArray := prog_8_method_27_code
def yX6_letter : MethodName := ⟨RX6, "letter", "(II)I"⟩
abbrev cX6_age : ByteArray := prog_8_method_28_code
def yX6_age : MethodName := ⟨RX6, "age", "(I)I"⟩
abbrev cX6_heads : ByteArray := prog_8_method_29_code
def yX6_heads : MethodName := ⟨RX6, "heads", "(II)I"⟩
abbrev cX6_feed : ByteArray := prog_8_method_30_code
def yX6_feed : MethodName := ⟨RX6, "feed", "(I)I"⟩
abbrev cX6_wipe : ByteArray := prog_8_method_31_code
def yX6_wipe : MethodName := ⟨RX6, "wipe", "()I"⟩
abbrev cX6_isLetter : ByteArray := prog_8_method_32_code
def yX6_isLetter : MethodName := ⟨RX6, "isLetter", "(I)Z"⟩
abbrev cX6_isDigit : ByteArray := prog_8_method_33_code
def yX6_isDigit : MethodName := ⟨RX6, "isDigit", "(I)Z"⟩
abbrev cX6_look : ByteArray := prog_8_method_34_code
def yX6_look : MethodName := ⟨RX6, "look", "()V"⟩
abbrev cX6_wrong : ByteArray := prog_8_method_35_code
def yX6_wrong : MethodName := ⟨RX6, "wrong", "()Z"⟩
abbrev cX6_isWord : ByteArray := prog_8_method_36_code
def yX6_isWord : MethodName := ⟨RX6, "isWord", "(Ljava/lang/String;)Z"⟩
abbrev cX6_number : ByteArray := prog_8_method_37_code
def yX6_number : MethodName := ⟨RX6, "number", "(III)Z"⟩
abbrev cX6_tells : ByteArray := prog_8_method_38_code
def yX6_tells : MethodName := ⟨RX6, "tells", "(II)Z"⟩
abbrev cX6_innTold : ByteArray := prog_8_method_39_code
def yX6_innTold : MethodName := ⟨RX6, "innTold", "()Z"⟩
abbrev cX6_letterTold : ByteArray := prog_8_method_40_code
def yX6_letterTold : MethodName := ⟨RX6, "letterTold", "()Z"⟩
abbrev cX6_writeTold : ByteArray := prog_8_method_41_code
def yX6_writeTold : MethodName := ⟨RX6, "writeTold", "()Z"⟩
abbrev cX6_statement : ByteArray := prog_8_method_42_code
def yX6_statement : MethodName := ⟨RX6, "statement", "()Z"⟩
abbrev cX6_readAll : ByteArray := prog_8_method_43_code
def yX6_readAll : MethodName := ⟨RX6, "readAll", "()Z"⟩
abbrev cX6_valley : ByteArray := prog_8_method_44_code
def yX6_valley : MethodName := ⟨RX6, "valley", "()I"⟩
abbrev cX6_innOf : ByteArray := prog_8_method_45_code
def yX6_innOf : MethodName := ⟨RX6, "innOf", "(II)I"⟩
abbrev cX6_goerOf : ByteArray := prog_8_method_46_code
def yX6_goerOf : MethodName := ⟨RX6, "goerOf", "(II)I"⟩
abbrev cX6_booked : ByteArray := prog_8_method_47_code
def yX6_booked : MethodName := ⟨RX6, "booked", "(I)I"⟩
abbrev cX6_scoreBy : ByteArray := prog_8_method_48_code
def yX6_scoreBy : MethodName := ⟨RX6, "scoreBy", "(III)I"⟩
abbrev cX6_scoreOf : ByteArray := prog_8_method_49_code
def yX6_scoreOf : MethodName := ⟨RX6, "scoreOf", "(II)I"⟩
abbrev cX6_score : ByteArray := prog_8_method_50_code
def yX6_score : MethodName := ⟨RX6, "score", "(II)I"⟩
abbrev cX6_choiceOf : ByteArray := prog_8_method_51_code
def yX6_choiceOf : MethodName := ⟨RX6, "choiceOf", "(I)I"⟩
abbrev cX6_startNight : ByteArray := prog_8_method_52_code
def yX6_startNight : MethodName := ⟨RX6, "startNight", "()V"⟩
abbrev cX6_comes : ByteArray := prog_8_method_53_code
def yX6_comes : MethodName := ⟨RX6, "comes", "(II)V"⟩
abbrev cX6_goThrough : ByteArray := prog_8_method_54_code
def yX6_goThrough : MethodName := ⟨RX6, "goThrough", "()V"⟩
abbrev cX6_headsIn : ByteArray := prog_8_method_55_code
def yX6_headsIn : MethodName := ⟨RX6, "headsIn", "(I)I"⟩
abbrev cX6_sleeps : ByteArray := prog_8_method_56_code
def yX6_sleeps : MethodName := ⟨RX6, "sleeps", "(II)I"⟩
abbrev cX6_guests : ByteArray := prog_8_method_57_code
def yX6_guests : MethodName := ⟨RX6, "guests", "(I)I"⟩
abbrev cX6_out : ByteArray := prog_8_method_58_code
def yX6_out : MethodName := ⟨RX6, "out", "(I)I"⟩
abbrev cX6_full : ByteArray := prog_8_method_59_code
def yX6_full : MethodName := ⟨RX6, "full", "()I"⟩
abbrev cX6_joyOf : ByteArray := prog_8_method_60_code
def yX6_joyOf : MethodName := ⟨RX6, "joyOf", "(I)I"⟩
abbrev cX6_joyBy : ByteArray := prog_8_method_61_code
def yX6_joyBy : MethodName := ⟨RX6, "joyBy", "(I)I"⟩
abbrev cX6_joy : ByteArray := prog_8_method_62_code
def yX6_joy : MethodName := ⟨RX6, "joy", "(I)I"⟩
abbrev cX6_taken : ByteArray := prog_8_method_63_code
def yX6_taken : MethodName := ⟨RX6, "taken", "(I)I"⟩
abbrev cX6_isByBook : ByteArray := prog_8_method_64_code
def yX6_isByBook : MethodName := ⟨RX6, "isByBook", "(I)Z"⟩
abbrev cX6_crowd : ByteArray := prog_8_method_65_code
def yX6_crowd : MethodName := ⟨RX6, "crowd", "(I)I"⟩
abbrev cX6_lean : ByteArray := prog_8_method_66_code
def yX6_lean : MethodName := ⟨RX6, "lean", "(I)I"⟩
abbrev cX6_truestOf : ByteArray := prog_8_method_67_code
def yX6_truestOf : MethodName := ⟨RX6, "truestOf", "()I"⟩
abbrev cX6_truest : ByteArray := prog_8_method_68_code
def yX6_truest : MethodName := ⟨RX6, "truest", "()I"⟩
abbrev cX6_wrongBy : ByteArray := prog_8_method_69_code
def yX6_wrongBy : MethodName := ⟨RX6, "wrongBy", "(I)I"⟩
abbrev cX6_oldest : ByteArray := prog_8_method_70_code
def yX6_oldest : MethodName := ⟨RX6, "oldest", "()I"⟩
abbrev cX6_enough : ByteArray := prog_8_method_71_code
def yX6_enough : MethodName := ⟨RX6, "enough", "(I)I"⟩
abbrev cX6_better : ByteArray := prog_8_method_72_code
def yX6_better : MethodName := ⟨RX6, "better", "(I)I"⟩
abbrev cX6_isChoice : ByteArray := prog_8_method_73_code
def yX6_isChoice : MethodName := ⟨RX6, "isChoice", "(I)Z"⟩
abbrev cX6_trust : ByteArray := prog_8_method_74_code
def yX6_trust : MethodName := ⟨RX6, "trust", "(I)I"⟩
abbrev cX6_share : ByteArray := prog_8_method_75_code
def yX6_share : MethodName := ⟨RX6, "share", "(I)I"⟩
abbrev cX6_nine : ByteArray := prog_8_method_76_code
def yX6_nine : MethodName := ⟨RX6, "nine", "(III)I"⟩
abbrev cX6_two : ByteArray := prog_8_method_77_code
def yX6_two : MethodName := ⟨RX6, "two", "(II)I"⟩
abbrev cX6_readBook : ByteArray := prog_8_method_78_code
def yX6_readBook : MethodName := ⟨RX6, "readBook", "(I)V"⟩
abbrev cX6_judge : ByteArray := prog_8_method_79_code
def yX6_judge : MethodName := ⟨RX6, "judge", "(I)I"⟩
abbrev cX6_yearGoesBy : ByteArray := prog_8_method_80_code
def yX6_yearGoesBy : MethodName := ⟨RX6, "yearGoesBy", "()V"⟩
abbrev cX6_joyIn : ByteArray := prog_8_method_81_code
def yX6_joyIn : MethodName := ⟨RX6, "joyIn", "(II)I"⟩
abbrev cX6_years : ByteArray := prog_8_method_82_code
def yX6_years : MethodName := ⟨RX6, "years", "(II)I"⟩
abbrev cX6_then : ByteArray := prog_8_method_83_code
def yX6_then : MethodName := ⟨RX6, "then", "(III)I"⟩
abbrev cX6_writtenBy : ByteArray := prog_8_method_84_code
def yX6_writtenBy : MethodName := ⟨RX6, "writtenBy", "(II)I"⟩
abbrev cX6_bestBook : ByteArray := prog_8_method_85_code
def yX6_bestBook : MethodName := ⟨RX6, "bestBook", "(II)I"⟩
abbrev cX6_book : ByteArray := prog_8_method_86_code
def yX6_book : MethodName := ⟨RX6, "book", "(II)I"⟩
abbrev cX6_written : ByteArray := prog_8_method_87_code
def yX6_written : MethodName := ⟨RX6, "written", "(II)I"⟩
abbrev cX6_many : ByteArray := prog_8_method_88_code
def yX6_many : MethodName := ⟨RX6, "many", "(I)I"⟩
abbrev cX6_findRound : ByteArray := prog_8_method_89_code
def yX6_findRound : MethodName := ⟨RX6, "findRound", "(I)V"⟩
abbrev cX6_round : ByteArray := prog_8_method_90_code
def yX6_round : MethodName := ⟨RX6, "round", "(II)I"⟩
abbrev cX6_ownJoy : ByteArray := prog_8_method_91_code
def yX6_ownJoy : MethodName := ⟨RX6, "ownJoy", "(I)I"⟩
abbrev cX6_kept : ByteArray := prog_8_method_92_code
def yX6_kept : MethodName := ⟨RX6, "kept", "(II)I"⟩
abbrev cX6_called : ByteArray := prog_8_method_93_code
def yX6_called : MethodName := ⟨RX6, "called", "(III)I"⟩
abbrev cX6_spoilt : ByteArray := prog_8_method_94_code
def yX6_spoilt : MethodName := ⟨RX6, "spoilt", "(II)I"⟩
abbrev cX6_bears : ByteArray := prog_8_method_95_code
def yX6_bears : MethodName := ⟨RX6, "bears", "(IIII)I"⟩
abbrev cX6_recovers : ByteArray := prog_8_method_96_code
def yX6_recovers : MethodName := ⟨RX6, "recovers", "(I)I"⟩
abbrev cX6_dearest : ByteArray := prog_8_method_97_code
def yX6_dearest : MethodName := ⟨RX6, "dearest", "(II)I"⟩
abbrev cX6_year : ByteArray := prog_8_method_98_code
def yX6_year : MethodName := ⟨RX6, "year", "()I"⟩
abbrev cX6_goes : ByteArray := prog_8_method_99_code
def yX6_goes : MethodName := ⟨RX6, "goes", "(I)I"⟩
abbrev cX6_draw : ByteArray := prog_8_method_100_code
def yX6_draw : MethodName := ⟨RX6, "draw", "(I)I"⟩
abbrev cX6_post : ByteArray := prog_8_method_101_code
def yX6_post : MethodName := ⟨RX6, "post", "(I)I"⟩
abbrev cX6_seed : ByteArray := prog_8_method_102_code
def yX6_seed : MethodName := ⟨RX6, "seed", "(I)I"⟩
abbrev cX6_fresh : ByteArray := prog_8_method_103_code
def yX6_fresh : MethodName := ⟨RX6, "fresh", "()LEverybodyHasTheBookModel;"⟩
abbrev cX6_over : ByteArray := prog_8_method_104_code
def yX6_over : MethodName := ⟨RX6, "over", "([I[I)V"⟩
abbrev cX6_takeFrom : ByteArray := prog_8_method_105_code
def yX6_takeFrom : MethodName := ⟨RX6, "takeFrom", "(LEverybodyHasTheBookModel;)V"⟩
abbrev cX6_image : ByteArray := prog_8_method_106_code
def yX6_image : MethodName := ⟨RX6, "image", "()I"⟩
abbrev cX6_back : ByteArray := prog_8_method_107_code
def yX6_back : MethodName := ⟨RX6, "back", "()I"⟩
abbrev cX6_status : ByteArray := prog_8_method_108_code
def yX6_status : MethodName := ⟨RX6, "status", "(I)I"⟩
def RJ6 : String := "java/lang/Integer"
def TJ6 : u_T := fun k => match k with
  | _ => ("", "", "", false)
def tyJ6 : Nat → FieldType := fun k => match k with
  | _ => .int
abbrev wsJ60 : List Cond := u_ws RJ6 TJ6 0
theorem nmJ6 : ∀ a, a < 0 → ∀ b, b < 0 → a ≠ b → (TJ6 a).2.1 ≠ (TJ6 b).2.1 := by decide +kernel
theorem tyJ6_ok : ∀ k, k < 0 → parseFieldDescriptor (TJ6 k).2.2.1 = some (tyJ6 k) := by decide +kernel
abbrev cJ6_bitCount_0f7a4 : ByteArray := prog_9_method_49_code
def yJ6_bitCount_0f7a4 : MethodName := ⟨RJ6, "bitCount", "(I)I"⟩
def RJ9 : String := "java/lang/Math"
def TJ9 : u_T := fun k => match k with
  | _ => ("", "", "", false)
def tyJ9 : Nat → FieldType := fun k => match k with
  | _ => .int
abbrev wsJ90 : List Cond := u_ws RJ9 TJ9 0
theorem nmJ9 : ∀ a, a < 0 → ∀ b, b < 0 → a ≠ b → (TJ9 a).2.1 ≠ (TJ9 b).2.1 := by decide +kernel
theorem tyJ9_ok : ∀ k, k < 0 → parseFieldDescriptor (TJ9 k).2.2.1 = some (tyJ9 k) := by decide +kernel
abbrev cJ9_abs_0f7a4 : ByteArray := prog_10_method_59_code
def yJ9_abs_0f7a4 : MethodName := ⟨RJ9, "abs", "(I)I"⟩
abbrev cJ9_max_7cf53 : ByteArray := prog_10_method_65_code
def yJ9_max_7cf53 : MethodName := ⟨RJ9, "max", "(II)I"⟩
abbrev cJ9_min_7cf53 : ByteArray := prog_10_method_69_code
def yJ9_min_7cf53 : MethodName := ⟨RJ9, "min", "(II)I"⟩
def RJ0 : String := "java/lang/String"
def TJ0 : u_T := fun k => match k with
  | _ => ("", "", "", false)
def tyJ0 : Nat → FieldType := fun k => match k with
  | _ => .int
abbrev wsJ00 : List Cond := u_ws RJ0 TJ0 0
theorem nmJ0 : ∀ a, a < 0 → ∀ b, b < 0 → a ≠ b → (TJ0 a).2.1 ≠ (TJ0 b).2.1 := by decide +kernel
theorem tyJ0_ok : ∀ k, k < 0 → parseFieldDescriptor (TJ0 k).2.2.1 = some (tyJ0 k) := by decide +kernel
abbrev cJ0_length_8abf5 : ByteArray := prog_11_method_54_code
def yJ0_length_8abf5 : MethodName := ⟨RJ0, "length", "()I"⟩
abbrev cJ0_charAt_5068e : ByteArray := prog_11_method_56_code
def yJ0_charAt_5068e : MethodName := ⟨RJ0, "charAt", "(I)C"⟩
abbrev cJ0_coder_7d493 : ByteArray := prog_11_method_152_code
def yJ0_coder_7d493 : MethodName := ⟨RJ0, "coder", "()B"⟩
abbrev cJ0_isLatin1_aae02 : ByteArray := prog_11_method_154_code
def yJ0_isLatin1_aae02 : MethodName := ⟨RJ0, "isLatin1", "()Z"⟩
abbrev cJ0_checkIndex_df160 : ByteArray := prog_11_method_155_code
def yJ0_checkIndex_df160 : MethodName := ⟨RJ0, "checkIndex", "(II)V"⟩
def RJ1 : String := "java/lang/StringLatin1"
def TJ1 : u_T := fun k => match k with
  | _ => ("", "", "", false)
def tyJ1 : Nat → FieldType := fun k => match k with
  | _ => .int
abbrev wsJ10 : List Cond := u_ws RJ1 TJ1 0
theorem nmJ1 : ∀ a, a < 0 → ∀ b, b < 0 → a ≠ b → (TJ1 a).2.1 ≠ (TJ1 b).2.1 := by decide +kernel
theorem tyJ1_ok : ∀ k, k < 0 → parseFieldDescriptor (TJ1 k).2.2.1 = some (tyJ1 k) := by decide +kernel
abbrev cJ1_charAt_3b067 : ByteArray := prog_12_method_2_code
def yJ1_charAt_3b067 : MethodName := ⟨RJ1, "charAt", "([BI)C"⟩
def RJ2 : String := "java/lang/StringUTF16"
def TJ2 : u_T := fun k => match k with
  | _ => ("", "", "", false)
def tyJ2 : Nat → FieldType := fun k => match k with
  | _ => .int
abbrev wsJ20 : List Cond := u_ws RJ2 TJ2 0
theorem nmJ2 : ∀ a, a < 0 → ∀ b, b < 0 → a ≠ b → (TJ2 a).2.1 ≠ (TJ2 b).2.1 := by decide +kernel
theorem tyJ2_ok : ∀ k, k < 0 → parseFieldDescriptor (TJ2 k).2.2.1 = some (tyJ2 k) := by decide +kernel
abbrev cJ2_getChar_3b067 : ByteArray := prog_13_method_5_code
def yJ2_getChar_3b067 : MethodName := ⟨RJ2, "getChar", "([BI)C"⟩
abbrev cJ2_length_9d52b : ByteArray := prog_13_method_6_code
def yJ2_length_9d52b : MethodName := ⟨RJ2, "length", "([B)I"⟩
abbrev cJ2_charAt_3b067 : ByteArray := prog_13_method_83_code
def yJ2_charAt_3b067 : MethodName := ⟨RJ2, "charAt", "([BI)C"⟩
abbrev cJ2_checkIndex_2214a : ByteArray := prog_13_method_91_code
def yJ2_checkIndex_2214a : MethodName := ⟨RJ2, "checkIndex", "(I[B)V"⟩
def RJ10 : String := "java/lang/System"
def TJ10 : u_T := fun k => match k with
  | _ => ("", "", "", false)
def tyJ10 : Nat → FieldType := fun k => match k with
  | _ => .int
abbrev wsJ100 : List Cond := u_ws RJ10 TJ10 0
theorem nmJ10 : ∀ a, a < 0 → ∀ b, b < 0 → a ≠ b → (TJ10 a).2.1 ≠ (TJ10 b).2.1 := by decide +kernel
theorem tyJ10_ok : ∀ k, k < 0 → parseFieldDescriptor (TJ10 k).2.2.1 = some (tyJ10 k) := by decide +kernel
def RJ3 : String := "jdk/internal/util/Preconditions"
def TJ3 : u_T := fun k => match k with
  | _ => ("", "", "", false)
def tyJ3 : Nat → FieldType := fun k => match k with
  | _ => .int
abbrev wsJ30 : List Cond := u_ws RJ3 TJ3 0
theorem nmJ3 : ∀ a, a < 0 → ∀ b, b < 0 → a ≠ b → (TJ3 a).2.1 ≠ (TJ3 b).2.1 := by decide +kernel
theorem tyJ3_ok : ∀ k, k < 0 → parseFieldDescriptor (TJ3 k).2.2.1 = some (tyJ3 k) := by decide +kernel
abbrev cJ3_checkIndex_8e157 : ByteArray := prog_15_method_11_code
def yJ3_checkIndex_8e157 : MethodName := ⟨RJ3, "checkIndex", "(IILjava/util/function/BiFunction;)I"⟩
def RL : String := "EverybodyHasTheBookLaw"
abbrev cL_law : ByteArray := code
def yL_law : MethodName := ⟨RL, "law", "([I)Z"⟩
