-- ===== PART A: goes FIRST, ahead of the names: the tables' words, and 'selects' of the private methods out of them =====
/-- a private method of a class that the tables say can be made, by its rows of tables_1 -/
def lw_okq (q : MethodName × Nat) : Prop := (q.1.cls ≠ "java/lang/invoke/MethodHandle" ∧ q.1.cls ≠ "java/lang/invoke/VarHandle") ∧ Cond.instantiable q.1.cls q.2 ∈ tables_1 ∧ Cond.privateMethod q.1 ∈ tables_1 ∧ Cond.instanceMethod q.1 ∈ tables_1
theorem lw_p0 : lw_okq (⟨"BorrowedHands$Tape", "skipBlanks", "()V"⟩, 5) := ⟨⟨by decide +kernel, by decide +kernel⟩, List.mem_of_getElem? (i := 126) (by decide +kernel), List.mem_of_getElem? (i := 343) (by decide +kernel), List.mem_of_getElem? (i := 344) (by decide +kernel)⟩
theorem lw_p1 : lw_okq (⟨"BorrowedHands$Tape", "readPart", "(LBorrowedHands$Town;)Z"⟩, 5) := ⟨⟨by decide +kernel, by decide +kernel⟩, List.mem_of_getElem? (i := 126) (by decide +kernel), List.mem_of_getElem? (i := 347) (by decide +kernel), List.mem_of_getElem? (i := 348) (by decide +kernel)⟩
theorem lw_p2 : lw_okq (⟨"BorrowedHands$Tape", "readWord", "()V"⟩, 5) := ⟨⟨by decide +kernel, by decide +kernel⟩, List.mem_of_getElem? (i := 126) (by decide +kernel), List.mem_of_getElem? (i := 351) (by decide +kernel), List.mem_of_getElem? (i := 352) (by decide +kernel)⟩
theorem lw_p3 : lw_okq (⟨"BorrowedHands$Tape", "wordIs", "(Ljava/lang/String;)Z"⟩, 5) := ⟨⟨by decide +kernel, by decide +kernel⟩, List.mem_of_getElem? (i := 126) (by decide +kernel), List.mem_of_getElem? (i := 359) (by decide +kernel), List.mem_of_getElem? (i := 360) (by decide +kernel)⟩
theorem lw_p4 : lw_okq (⟨"BorrowedHands$Tape", "readWriter", "(LBorrowedHands$Town;)Z"⟩, 5) := ⟨⟨by decide +kernel, by decide +kernel⟩, List.mem_of_getElem? (i := 126) (by decide +kernel), List.mem_of_getElem? (i := 411) (by decide +kernel), List.mem_of_getElem? (i := 412) (by decide +kernel)⟩
theorem lw_p5 : lw_okq (⟨"BorrowedHands$Tape", "readNumber", "(II)I"⟩, 5) := ⟨⟨by decide +kernel, by decide +kernel⟩, List.mem_of_getElem? (i := 126) (by decide +kernel), List.mem_of_getElem? (i := 415) (by decide +kernel), List.mem_of_getElem? (i := 416) (by decide +kernel)⟩
theorem lw_p6 : lw_okq (⟨"BorrowedHands$Tape", "refuse", "(II)Z"⟩, 5) := ⟨⟨by decide +kernel, by decide +kernel⟩, List.mem_of_getElem? (i := 126) (by decide +kernel), List.mem_of_getElem? (i := 426) (by decide +kernel), List.mem_of_getElem? (i := 427) (by decide +kernel)⟩
theorem lw_p7 : lw_okq (⟨"BorrowedHands$Tape", "readHabit", "(LBorrowedHands$Town;I)Z"⟩, 5) := ⟨⟨by decide +kernel, by decide +kernel⟩, List.mem_of_getElem? (i := 126) (by decide +kernel), List.mem_of_getElem? (i := 438) (by decide +kernel), List.mem_of_getElem? (i := 439) (by decide +kernel)⟩
theorem lw_p8 : lw_okq (⟨"BorrowedHands$Tape", "kindOfWord", "()I"⟩, 5) := ⟨⟨by decide +kernel, by decide +kernel⟩, List.mem_of_getElem? (i := 126) (by decide +kernel), List.mem_of_getElem? (i := 442) (by decide +kernel), List.mem_of_getElem? (i := 443) (by decide +kernel)⟩
theorem lw_p9 : lw_okq (⟨"BorrowedHands$Tape", "readUnder", "(LBorrowedHands$Town;I)Z"⟩, 5) := ⟨⟨by decide +kernel, by decide +kernel⟩, List.mem_of_getElem? (i := 126) (by decide +kernel), List.mem_of_getElem? (i := 460) (by decide +kernel), List.mem_of_getElem? (i := 461) (by decide +kernel)⟩
theorem lw_p10 : lw_okq (⟨"BorrowedHands$Tape", "readBook", "(LBorrowedHands$Town;)Z"⟩, 5) := ⟨⟨by decide +kernel, by decide +kernel⟩, List.mem_of_getElem? (i := 126) (by decide +kernel), List.mem_of_getElem? (i := 466) (by decide +kernel), List.mem_of_getElem? (i := 467) (by decide +kernel)⟩
theorem lw_p11 : lw_okq (⟨"BorrowedHands$Tape", "readSemicolon", "()Z"⟩, 5) := ⟨⟨by decide +kernel, by decide +kernel⟩, List.mem_of_getElem? (i := 126) (by decide +kernel), List.mem_of_getElem? (i := 479) (by decide +kernel), List.mem_of_getElem? (i := 480) (by decide +kernel)⟩
theorem lw_p12 : lw_okq (⟨"BorrowedHands", "remember", "()V"⟩, 16) := ⟨⟨by decide +kernel, by decide +kernel⟩, List.mem_of_getElem? (i := 20) (by decide +kernel), List.mem_of_getElem? (i := 507) (by decide +kernel), List.mem_of_getElem? (i := 508) (by decide +kernel)⟩
theorem lw_p13 : lw_okq (⟨"BorrowedHands", "handsOf", "(I)I"⟩, 16) := ⟨⟨by decide +kernel, by decide +kernel⟩, List.mem_of_getElem? (i := 20) (by decide +kernel), List.mem_of_getElem? (i := 512) (by decide +kernel), List.mem_of_getElem? (i := 513) (by decide +kernel)⟩
theorem lw_p14 : lw_okq (⟨"BorrowedHands$Hands", "listUntilDead", "(LBorrowedHands$Town;II)I"⟩, 2) := ⟨⟨by decide +kernel, by decide +kernel⟩, List.mem_of_getElem? (i := 150) (by decide +kernel), List.mem_of_getElem? (i := 520) (by decide +kernel), List.mem_of_getElem? (i := 521) (by decide +kernel)⟩
theorem lw_p15 : lw_okq (⟨"BorrowedHands", "lineOf", "(III)I"⟩, 16) := ⟨⟨by decide +kernel, by decide +kernel⟩, List.mem_of_getElem? (i := 20) (by decide +kernel), List.mem_of_getElem? (i := 577) (by decide +kernel), List.mem_of_getElem? (i := 578) (by decide +kernel)⟩
def lw_privs_1 : List (MethodName × Nat) := [(⟨"BorrowedHands$Tape", "skipBlanks", "()V"⟩, 5), (⟨"BorrowedHands$Tape", "readPart", "(LBorrowedHands$Town;)Z"⟩, 5), (⟨"BorrowedHands$Tape", "readWord", "()V"⟩, 5), (⟨"BorrowedHands$Tape", "wordIs", "(Ljava/lang/String;)Z"⟩, 5), (⟨"BorrowedHands$Tape", "readWriter", "(LBorrowedHands$Town;)Z"⟩, 5), (⟨"BorrowedHands$Tape", "readNumber", "(II)I"⟩, 5), (⟨"BorrowedHands$Tape", "refuse", "(II)Z"⟩, 5), (⟨"BorrowedHands$Tape", "readHabit", "(LBorrowedHands$Town;I)Z"⟩, 5), (⟨"BorrowedHands$Tape", "kindOfWord", "()I"⟩, 5), (⟨"BorrowedHands$Tape", "readUnder", "(LBorrowedHands$Town;I)Z"⟩, 5), (⟨"BorrowedHands$Tape", "readBook", "(LBorrowedHands$Town;)Z"⟩, 5), (⟨"BorrowedHands$Tape", "readSemicolon", "()Z"⟩, 5), (⟨"BorrowedHands", "remember", "()V"⟩, 16), (⟨"BorrowedHands", "handsOf", "(I)I"⟩, 16), (⟨"BorrowedHands$Hands", "listUntilDead", "(LBorrowedHands$Town;II)I"⟩, 2), (⟨"BorrowedHands", "lineOf", "(III)I"⟩, 16)]
theorem lw_r1 : ∀ q ∈ lw_privs_1, lw_okq q := List.forall_mem_cons.mpr ⟨lw_p0, List.forall_mem_cons.mpr ⟨lw_p1, List.forall_mem_cons.mpr ⟨lw_p2, List.forall_mem_cons.mpr ⟨lw_p3, List.forall_mem_cons.mpr ⟨lw_p4, List.forall_mem_cons.mpr ⟨lw_p5, List.forall_mem_cons.mpr ⟨lw_p6, List.forall_mem_cons.mpr ⟨lw_p7, List.forall_mem_cons.mpr ⟨lw_p8, List.forall_mem_cons.mpr ⟨lw_p9, List.forall_mem_cons.mpr ⟨lw_p10, List.forall_mem_cons.mpr ⟨lw_p11, List.forall_mem_cons.mpr ⟨lw_p12, List.forall_mem_cons.mpr ⟨lw_p13, List.forall_mem_cons.mpr ⟨lw_p14, List.forall_mem_cons.mpr ⟨lw_p15, fun _ h => absurd h List.not_mem_nil⟩⟩⟩⟩⟩⟩⟩⟩⟩⟩⟩⟩⟩⟩⟩⟩
theorem lw_p16 : lw_okq (⟨"BorrowedHands", "lacksLines", "(I)Z"⟩, 16) := ⟨⟨by decide +kernel, by decide +kernel⟩, List.mem_of_getElem? (i := 20) (by decide +kernel), List.mem_of_getElem? (i := 614) (by decide +kernel), List.mem_of_getElem? (i := 615) (by decide +kernel)⟩
theorem lw_p17 : lw_okq (⟨"BorrowedHands", "lowestOf", "(I)I"⟩, 16) := ⟨⟨by decide +kernel, by decide +kernel⟩, List.mem_of_getElem? (i := 20) (by decide +kernel), List.mem_of_getElem? (i := 656) (by decide +kernel), List.mem_of_getElem? (i := 657) (by decide +kernel)⟩
theorem lw_p18 : lw_okq (⟨"BorrowedHands", "followTrail", "(III)Z"⟩, 16) := ⟨⟨by decide +kernel, by decide +kernel⟩, List.mem_of_getElem? (i := 20) (by decide +kernel), List.mem_of_getElem? (i := 687) (by decide +kernel), List.mem_of_getElem? (i := 688) (by decide +kernel)⟩
theorem lw_p19 : lw_okq (⟨"BorrowedHands$Trail", "step", "(LBorrowedHands$Town;II)V"⟩, 3) := ⟨⟨by decide +kernel, by decide +kernel⟩, List.mem_of_getElem? (i := 169) (by decide +kernel), List.mem_of_getElem? (i := 704) (by decide +kernel), List.mem_of_getElem? (i := 705) (by decide +kernel)⟩
theorem lw_p20 : lw_okq (⟨"BorrowedHands$Trail", "put", "(IIIZ)V"⟩, 3) := ⟨⟨by decide +kernel, by decide +kernel⟩, List.mem_of_getElem? (i := 169) (by decide +kernel), List.mem_of_getElem? (i := 711) (by decide +kernel), List.mem_of_getElem? (i := 712) (by decide +kernel)⟩
theorem lw_p21 : lw_okq (⟨"BorrowedHands$Trail", "turn", "([II)V"⟩, 3) := ⟨⟨by decide +kernel, by decide +kernel⟩, List.mem_of_getElem? (i := 169) (by decide +kernel), List.mem_of_getElem? (i := 715) (by decide +kernel), List.mem_of_getElem? (i := 716) (by decide +kernel)⟩
theorem lw_p22 : lw_okq (⟨"BorrowedHands", "passedUp", "(II)I"⟩, 16) := ⟨⟨by decide +kernel, by decide +kernel⟩, List.mem_of_getElem? (i := 20) (by decide +kernel), List.mem_of_getElem? (i := 750) (by decide +kernel), List.mem_of_getElem? (i := 751) (by decide +kernel)⟩
theorem lw_p23 : lw_okq (⟨"BorrowedHands", "lineAt", "(I)I"⟩, 16) := ⟨⟨by decide +kernel, by decide +kernel⟩, List.mem_of_getElem? (i := 20) (by decide +kernel), List.mem_of_getElem? (i := 759) (by decide +kernel), List.mem_of_getElem? (i := 760) (by decide +kernel)⟩
theorem lw_p24 : lw_okq (⟨"BorrowedHands", "seenFitsWriters", "()Z"⟩, 16) := ⟨⟨by decide +kernel, by decide +kernel⟩, List.mem_of_getElem? (i := 20) (by decide +kernel), List.mem_of_getElem? (i := 776) (by decide +kernel), List.mem_of_getElem? (i := 777) (by decide +kernel)⟩
theorem lw_p25 : lw_okq (⟨"BorrowedHands", "choicesBySeen", "(II)I"⟩, 16) := ⟨⟨by decide +kernel, by decide +kernel⟩, List.mem_of_getElem? (i := 20) (by decide +kernel), List.mem_of_getElem? (i := 780) (by decide +kernel), List.mem_of_getElem? (i := 781) (by decide +kernel)⟩
theorem lw_p26 : lw_okq (⟨"BorrowedHands", "countWays", "(III)V"⟩, 16) := ⟨⟨by decide +kernel, by decide +kernel⟩, List.mem_of_getElem? (i := 20) (by decide +kernel), List.mem_of_getElem? (i := 811) (by decide +kernel), List.mem_of_getElem? (i := 812) (by decide +kernel)⟩
theorem lw_p27 : lw_okq (⟨"BorrowedHands", "isSetOfWriters", "(I)Z"⟩, 16) := ⟨⟨by decide +kernel, by decide +kernel⟩, List.mem_of_getElem? (i := 20) (by decide +kernel), List.mem_of_getElem? (i := 820) (by decide +kernel), List.mem_of_getElem? (i := 821) (by decide +kernel)⟩
theorem lw_p28 : lw_okq (⟨"BorrowedHands$Apart", "fillRows", "(LBorrowedHands$Town;LBorrowedHands$Hands;II)V"⟩, 3) := ⟨⟨by decide +kernel, by decide +kernel⟩, List.mem_of_getElem? (i := 235) (by decide +kernel), List.mem_of_getElem? (i := 828) (by decide +kernel), List.mem_of_getElem? (i := 829) (by decide +kernel)⟩
theorem lw_p29 : lw_okq (⟨"BorrowedHands$Apart", "listTwos", "(III)V"⟩, 3) := ⟨⟨by decide +kernel, by decide +kernel⟩, List.mem_of_getElem? (i := 235) (by decide +kernel), List.mem_of_getElem? (i := 833) (by decide +kernel), List.mem_of_getElem? (i := 834) (by decide +kernel)⟩
theorem lw_p30 : lw_okq (⟨"BorrowedHands$Apart", "differingPages", "(III)I"⟩, 3) := ⟨⟨by decide +kernel, by decide +kernel⟩, List.mem_of_getElem? (i := 235) (by decide +kernel), List.mem_of_getElem? (i := 837) (by decide +kernel), List.mem_of_getElem? (i := 838) (by decide +kernel)⟩
theorem lw_p31 : lw_okq (⟨"BorrowedHands$Apart", "allApart", "(I)Z"⟩, 3) := ⟨⟨by decide +kernel, by decide +kernel⟩, List.mem_of_getElem? (i := 235) (by decide +kernel), List.mem_of_getElem? (i := 842) (by decide +kernel), List.mem_of_getElem? (i := 843) (by decide +kernel)⟩
def lw_privs_2 : List (MethodName × Nat) := [(⟨"BorrowedHands", "lacksLines", "(I)Z"⟩, 16), (⟨"BorrowedHands", "lowestOf", "(I)I"⟩, 16), (⟨"BorrowedHands", "followTrail", "(III)Z"⟩, 16), (⟨"BorrowedHands$Trail", "step", "(LBorrowedHands$Town;II)V"⟩, 3), (⟨"BorrowedHands$Trail", "put", "(IIIZ)V"⟩, 3), (⟨"BorrowedHands$Trail", "turn", "([II)V"⟩, 3), (⟨"BorrowedHands", "passedUp", "(II)I"⟩, 16), (⟨"BorrowedHands", "lineAt", "(I)I"⟩, 16), (⟨"BorrowedHands", "seenFitsWriters", "()Z"⟩, 16), (⟨"BorrowedHands", "choicesBySeen", "(II)I"⟩, 16), (⟨"BorrowedHands", "countWays", "(III)V"⟩, 16), (⟨"BorrowedHands", "isSetOfWriters", "(I)Z"⟩, 16), (⟨"BorrowedHands$Apart", "fillRows", "(LBorrowedHands$Town;LBorrowedHands$Hands;II)V"⟩, 3), (⟨"BorrowedHands$Apart", "listTwos", "(III)V"⟩, 3), (⟨"BorrowedHands$Apart", "differingPages", "(III)I"⟩, 3), (⟨"BorrowedHands$Apart", "allApart", "(I)Z"⟩, 3)]
theorem lw_r2 : ∀ q ∈ lw_privs_2, lw_okq q := List.forall_mem_cons.mpr ⟨lw_p16, List.forall_mem_cons.mpr ⟨lw_p17, List.forall_mem_cons.mpr ⟨lw_p18, List.forall_mem_cons.mpr ⟨lw_p19, List.forall_mem_cons.mpr ⟨lw_p20, List.forall_mem_cons.mpr ⟨lw_p21, List.forall_mem_cons.mpr ⟨lw_p22, List.forall_mem_cons.mpr ⟨lw_p23, List.forall_mem_cons.mpr ⟨lw_p24, List.forall_mem_cons.mpr ⟨lw_p25, List.forall_mem_cons.mpr ⟨lw_p26, List.forall_mem_cons.mpr ⟨lw_p27, List.forall_mem_cons.mpr ⟨lw_p28, List.forall_mem_cons.mpr ⟨lw_p29, List.forall_mem_cons.mpr ⟨lw_p30, List.forall_mem_cons.mpr ⟨lw_p31, fun _ h => absurd h List.not_mem_nil⟩⟩⟩⟩⟩⟩⟩⟩⟩⟩⟩⟩⟩⟩⟩⟩
theorem lw_p32 : lw_okq (⟨"BorrowedHands$Slipping", "findDemand", "(LBorrowedHands$Town;LBorrowedHands$Hands;II)Z"⟩, 7) := ⟨⟨by decide +kernel, by decide +kernel⟩, List.mem_of_getElem? (i := 187) (by decide +kernel), List.mem_of_getElem? (i := 855) (by decide +kernel), List.mem_of_getElem? (i := 856) (by decide +kernel)⟩
theorem lw_p33 : lw_okq (⟨"BorrowedHands$Slipping", "tryHabits", "(LBorrowedHands$Town;II)V"⟩, 7) := ⟨⟨by decide +kernel, by decide +kernel⟩, List.mem_of_getElem? (i := 187) (by decide +kernel), List.mem_of_getElem? (i := 860) (by decide +kernel), List.mem_of_getElem? (i := 861) (by decide +kernel)⟩
theorem lw_p34 : lw_okq (⟨"BorrowedHands$Slipping", "tryOne", "(IIIII)V"⟩, 7) := ⟨⟨by decide +kernel, by decide +kernel⟩, List.mem_of_getElem? (i := 187) (by decide +kernel), List.mem_of_getElem? (i := 867) (by decide +kernel), List.mem_of_getElem? (i := 868) (by decide +kernel)⟩
theorem lw_p35 : lw_okq (⟨"BorrowedHands$Mistakes", "isFirstOfItsLike", "(I)Z"⟩, 2) := ⟨⟨by decide +kernel, by decide +kernel⟩, List.mem_of_getElem? (i := 251) (by decide +kernel), List.mem_of_getElem? (i := 903) (by decide +kernel), List.mem_of_getElem? (i := 904) (by decide +kernel)⟩
theorem lw_p36 : lw_okq (⟨"BorrowedHands$Mistakes", "longestWithin", "(I)I"⟩, 2) := ⟨⟨by decide +kernel, by decide +kernel⟩, List.mem_of_getElem? (i := 251) (by decide +kernel), List.mem_of_getElem? (i := 912) (by decide +kernel), List.mem_of_getElem? (i := 913) (by decide +kernel)⟩
theorem lw_p37 : lw_okq (⟨"BorrowedHands", "sendDown", "(I)I"⟩, 16) := ⟨⟨by decide +kernel, by decide +kernel⟩, List.mem_of_getElem? (i := 20) (by decide +kernel), List.mem_of_getElem? (i := 932) (by decide +kernel), List.mem_of_getElem? (i := 933) (by decide +kernel)⟩
theorem lw_p38 : lw_okq (⟨"BorrowedHands", "mostHands", "()I"⟩, 16) := ⟨⟨by decide +kernel, by decide +kernel⟩, List.mem_of_getElem? (i := 20) (by decide +kernel), List.mem_of_getElem? (i := 948) (by decide +kernel), List.mem_of_getElem? (i := 949) (by decide +kernel)⟩
theorem lw_p39 : lw_okq (⟨"BorrowedHandsModel", "puts", "(I)V"⟩, 33) := ⟨⟨by decide +kernel, by decide +kernel⟩, List.mem_of_getElem? (i := 957) (by decide +kernel), List.mem_of_getElem? (i := 1068) (by decide +kernel), List.mem_of_getElem? (i := 1069) (by decide +kernel)⟩
theorem lw_p40 : lw_okq (⟨"BorrowedHandsModel", "next", "()I"⟩, 33) := ⟨⟨by decide +kernel, by decide +kernel⟩, List.mem_of_getElem? (i := 957) (by decide +kernel), List.mem_of_getElem? (i := 1080) (by decide +kernel), List.mem_of_getElem? (i := 1081) (by decide +kernel)⟩
theorem lw_p41 : lw_okq (⟨"BorrowedHandsModel", "sign", "()I"⟩, 33) := ⟨⟨by decide +kernel, by decide +kernel⟩, List.mem_of_getElem? (i := 957) (by decide +kernel), List.mem_of_getElem? (i := 1084) (by decide +kernel), List.mem_of_getElem? (i := 1085) (by decide +kernel)⟩
theorem lw_p42 : lw_okq (⟨"BorrowedHandsModel", "readsPart", "()V"⟩, 33) := ⟨⟨by decide +kernel, by decide +kernel⟩, List.mem_of_getElem? (i := 957) (by decide +kernel), List.mem_of_getElem? (i := 1088) (by decide +kernel), List.mem_of_getElem? (i := 1089) (by decide +kernel)⟩
theorem lw_p43 : lw_okq (⟨"BorrowedHandsModel", "takes", "(Ljava/lang/String;)Z"⟩, 33) := ⟨⟨by decide +kernel, by decide +kernel⟩, List.mem_of_getElem? (i := 957) (by decide +kernel), List.mem_of_getElem? (i := 1093) (by decide +kernel), List.mem_of_getElem? (i := 1094) (by decide +kernel)⟩
theorem lw_p44 : lw_okq (⟨"BorrowedHandsModel", "isRight", "()Z"⟩, 33) := ⟨⟨by decide +kernel, by decide +kernel⟩, List.mem_of_getElem? (i := 957) (by decide +kernel), List.mem_of_getElem? (i := 1097) (by decide +kernel), List.mem_of_getElem? (i := 1098) (by decide +kernel)⟩
theorem lw_p45 : lw_okq (⟨"BorrowedHandsModel", "isWord", "(Ljava/lang/String;)Z"⟩, 33) := ⟨⟨by decide +kernel, by decide +kernel⟩, List.mem_of_getElem? (i := 957) (by decide +kernel), List.mem_of_getElem? (i := 1101) (by decide +kernel), List.mem_of_getElem? (i := 1102) (by decide +kernel)⟩
theorem lw_p46 : lw_okq (⟨"BorrowedHandsModel", "readsWriter", "(I)V"⟩, 33) := ⟨⟨by decide +kernel, by decide +kernel⟩, List.mem_of_getElem? (i := 957) (by decide +kernel), List.mem_of_getElem? (i := 1112) (by decide +kernel), List.mem_of_getElem? (i := 1113) (by decide +kernel)⟩
theorem lw_p47 : lw_okq (⟨"BorrowedHandsModel", "fails", "(II)V"⟩, 33) := ⟨⟨by decide +kernel, by decide +kernel⟩, List.mem_of_getElem? (i := 957) (by decide +kernel), List.mem_of_getElem? (i := 1116) (by decide +kernel), List.mem_of_getElem? (i := 1117) (by decide +kernel)⟩
def lw_privs_3 : List (MethodName × Nat) := [(⟨"BorrowedHands$Slipping", "findDemand", "(LBorrowedHands$Town;LBorrowedHands$Hands;II)Z"⟩, 7), (⟨"BorrowedHands$Slipping", "tryHabits", "(LBorrowedHands$Town;II)V"⟩, 7), (⟨"BorrowedHands$Slipping", "tryOne", "(IIIII)V"⟩, 7), (⟨"BorrowedHands$Mistakes", "isFirstOfItsLike", "(I)Z"⟩, 2), (⟨"BorrowedHands$Mistakes", "longestWithin", "(I)I"⟩, 2), (⟨"BorrowedHands", "sendDown", "(I)I"⟩, 16), (⟨"BorrowedHands", "mostHands", "()I"⟩, 16), (⟨"BorrowedHandsModel", "puts", "(I)V"⟩, 33), (⟨"BorrowedHandsModel", "next", "()I"⟩, 33), (⟨"BorrowedHandsModel", "sign", "()I"⟩, 33), (⟨"BorrowedHandsModel", "readsPart", "()V"⟩, 33), (⟨"BorrowedHandsModel", "takes", "(Ljava/lang/String;)Z"⟩, 33), (⟨"BorrowedHandsModel", "isRight", "()Z"⟩, 33), (⟨"BorrowedHandsModel", "isWord", "(Ljava/lang/String;)Z"⟩, 33), (⟨"BorrowedHandsModel", "readsWriter", "(I)V"⟩, 33), (⟨"BorrowedHandsModel", "fails", "(II)V"⟩, 33)]
theorem lw_r3 : ∀ q ∈ lw_privs_3, lw_okq q := List.forall_mem_cons.mpr ⟨lw_p32, List.forall_mem_cons.mpr ⟨lw_p33, List.forall_mem_cons.mpr ⟨lw_p34, List.forall_mem_cons.mpr ⟨lw_p35, List.forall_mem_cons.mpr ⟨lw_p36, List.forall_mem_cons.mpr ⟨lw_p37, List.forall_mem_cons.mpr ⟨lw_p38, List.forall_mem_cons.mpr ⟨lw_p39, List.forall_mem_cons.mpr ⟨lw_p40, List.forall_mem_cons.mpr ⟨lw_p41, List.forall_mem_cons.mpr ⟨lw_p42, List.forall_mem_cons.mpr ⟨lw_p43, List.forall_mem_cons.mpr ⟨lw_p44, List.forall_mem_cons.mpr ⟨lw_p45, List.forall_mem_cons.mpr ⟨lw_p46, List.forall_mem_cons.mpr ⟨lw_p47, fun _ h => absurd h List.not_mem_nil⟩⟩⟩⟩⟩⟩⟩⟩⟩⟩⟩⟩⟩⟩⟩⟩
theorem lw_p48 : lw_okq (⟨"BorrowedHandsModel", "number", "(II)I"⟩, 33) := ⟨⟨by decide +kernel, by decide +kernel⟩, List.mem_of_getElem? (i := 957) (by decide +kernel), List.mem_of_getElem? (i := 1120) (by decide +kernel), List.mem_of_getElem? (i := 1121) (by decide +kernel)⟩
theorem lw_p49 : lw_okq (⟨"BorrowedHandsModel", "isDigit", "()Z"⟩, 33) := ⟨⟨by decide +kernel, by decide +kernel⟩, List.mem_of_getElem? (i := 957) (by decide +kernel), List.mem_of_getElem? (i := 1124) (by decide +kernel), List.mem_of_getElem? (i := 1125) (by decide +kernel)⟩
theorem lw_p50 : lw_okq (⟨"BorrowedHandsModel", "readsHabit", "(I)V"⟩, 33) := ⟨⟨by decide +kernel, by decide +kernel⟩, List.mem_of_getElem? (i := 957) (by decide +kernel), List.mem_of_getElem? (i := 1132) (by decide +kernel), List.mem_of_getElem? (i := 1133) (by decide +kernel)⟩
theorem lw_p51 : lw_okq (⟨"BorrowedHandsModel", "kindTold", "()I"⟩, 33) := ⟨⟨by decide +kernel, by decide +kernel⟩, List.mem_of_getElem? (i := 957) (by decide +kernel), List.mem_of_getElem? (i := 1136) (by decide +kernel), List.mem_of_getElem? (i := 1137) (by decide +kernel)⟩
theorem lw_p52 : lw_okq (⟨"BorrowedHandsModel", "readsBook", "(I)V"⟩, 33) := ⟨⟨by decide +kernel, by decide +kernel⟩, List.mem_of_getElem? (i := 957) (by decide +kernel), List.mem_of_getElem? (i := 1152) (by decide +kernel), List.mem_of_getElem? (i := 1153) (by decide +kernel)⟩
theorem lw_p53 : lw_okq (⟨"BorrowedHandsModel", "isWriter", "(I)Z"⟩, 33) := ⟨⟨by decide +kernel, by decide +kernel⟩, List.mem_of_getElem? (i := 957) (by decide +kernel), List.mem_of_getElem? (i := 1179) (by decide +kernel), List.mem_of_getElem? (i := 1180) (by decide +kernel)⟩
theorem lw_p54 : lw_okq (⟨"BorrowedHandsModel", "isDead", "(I)Z"⟩, 33) := ⟨⟨by decide +kernel, by decide +kernel⟩, List.mem_of_getElem? (i := 957) (by decide +kernel), List.mem_of_getElem? (i := 1183) (by decide +kernel), List.mem_of_getElem? (i := 1184) (by decide +kernel)⟩
theorem lw_p55 : lw_okq (⟨"BorrowedHandsModel", "of", "(II)I"⟩, 33) := ⟨⟨by decide +kernel, by decide +kernel⟩, List.mem_of_getElem? (i := 957) (by decide +kernel), List.mem_of_getElem? (i := 1187) (by decide +kernel), List.mem_of_getElem? (i := 1188) (by decide +kernel)⟩
theorem lw_p56 : lw_okq (⟨"BorrowedHandsModel", "under", "(I)I"⟩, 33) := ⟨⟨by decide +kernel, by decide +kernel⟩, List.mem_of_getElem? (i := 957) (by decide +kernel), List.mem_of_getElem? (i := 1191) (by decide +kernel), List.mem_of_getElem? (i := 1192) (by decide +kernel)⟩
theorem lw_p57 : lw_okq (⟨"BorrowedHandsModel", "keepsPast", "()V"⟩, 33) := ⟨⟨by decide +kernel, by decide +kernel⟩, List.mem_of_getElem? (i := 957) (by decide +kernel), List.mem_of_getElem? (i := 1195) (by decide +kernel), List.mem_of_getElem? (i := 1196) (by decide +kernel)⟩
theorem lw_p58 : lw_okq (⟨"BorrowedHandsModel", "puts", "(III)V"⟩, 33) := ⟨⟨by decide +kernel, by decide +kernel⟩, List.mem_of_getElem? (i := 957) (by decide +kernel), List.mem_of_getElem? (i := 1199) (by decide +kernel), List.mem_of_getElem? (i := 1200) (by decide +kernel)⟩
theorem lw_p59 : lw_okq (⟨"BorrowedHandsModel", "hands", "(I)I"⟩, 33) := ⟨⟨by decide +kernel, by decide +kernel⟩, List.mem_of_getElem? (i := 957) (by decide +kernel), List.mem_of_getElem? (i := 1203) (by decide +kernel), List.mem_of_getElem? (i := 1204) (by decide +kernel)⟩
theorem lw_p60 : lw_okq (⟨"BorrowedHandsModel", "hasHabit", "(IIII)Z"⟩, 33) := ⟨⟨by decide +kernel, by decide +kernel⟩, List.mem_of_getElem? (i := 957) (by decide +kernel), List.mem_of_getElem? (i := 1220) (by decide +kernel), List.mem_of_getElem? (i := 1221) (by decide +kernel)⟩
theorem lw_p61 : lw_okq (⟨"BorrowedHandsModel", "learns", "(IIII)V"⟩, 33) := ⟨⟨by decide +kernel, by decide +kernel⟩, List.mem_of_getElem? (i := 957) (by decide +kernel), List.mem_of_getElem? (i := 1224) (by decide +kernel), List.mem_of_getElem? (i := 1225) (by decide +kernel)⟩
theorem lw_p62 : lw_okq (⟨"BorrowedHandsModel", "goesDown", "(IIIZ)I"⟩, 33) := ⟨⟨by decide +kernel, by decide +kernel⟩, List.mem_of_getElem? (i := 957) (by decide +kernel), List.mem_of_getElem? (i := 1233) (by decide +kernel), List.mem_of_getElem? (i := 1234) (by decide +kernel)⟩
theorem lw_p63 : lw_okq (⟨"BorrowedHandsModel", "moods", "()I"⟩, 33) := ⟨⟨by decide +kernel, by decide +kernel⟩, List.mem_of_getElem? (i := 957) (by decide +kernel), List.mem_of_getElem? (i := 1250) (by decide +kernel), List.mem_of_getElem? (i := 1251) (by decide +kernel)⟩
def lw_privs_4 : List (MethodName × Nat) := [(⟨"BorrowedHandsModel", "number", "(II)I"⟩, 33), (⟨"BorrowedHandsModel", "isDigit", "()Z"⟩, 33), (⟨"BorrowedHandsModel", "readsHabit", "(I)V"⟩, 33), (⟨"BorrowedHandsModel", "kindTold", "()I"⟩, 33), (⟨"BorrowedHandsModel", "readsBook", "(I)V"⟩, 33), (⟨"BorrowedHandsModel", "isWriter", "(I)Z"⟩, 33), (⟨"BorrowedHandsModel", "isDead", "(I)Z"⟩, 33), (⟨"BorrowedHandsModel", "of", "(II)I"⟩, 33), (⟨"BorrowedHandsModel", "under", "(I)I"⟩, 33), (⟨"BorrowedHandsModel", "keepsPast", "()V"⟩, 33), (⟨"BorrowedHandsModel", "puts", "(III)V"⟩, 33), (⟨"BorrowedHandsModel", "hands", "(I)I"⟩, 33), (⟨"BorrowedHandsModel", "hasHabit", "(IIII)Z"⟩, 33), (⟨"BorrowedHandsModel", "learns", "(IIII)V"⟩, 33), (⟨"BorrowedHandsModel", "goesDown", "(IIIZ)I"⟩, 33), (⟨"BorrowedHandsModel", "moods", "()I"⟩, 33)]
theorem lw_r4 : ∀ q ∈ lw_privs_4, lw_okq q := List.forall_mem_cons.mpr ⟨lw_p48, List.forall_mem_cons.mpr ⟨lw_p49, List.forall_mem_cons.mpr ⟨lw_p50, List.forall_mem_cons.mpr ⟨lw_p51, List.forall_mem_cons.mpr ⟨lw_p52, List.forall_mem_cons.mpr ⟨lw_p53, List.forall_mem_cons.mpr ⟨lw_p54, List.forall_mem_cons.mpr ⟨lw_p55, List.forall_mem_cons.mpr ⟨lw_p56, List.forall_mem_cons.mpr ⟨lw_p57, List.forall_mem_cons.mpr ⟨lw_p58, List.forall_mem_cons.mpr ⟨lw_p59, List.forall_mem_cons.mpr ⟨lw_p60, List.forall_mem_cons.mpr ⟨lw_p61, List.forall_mem_cons.mpr ⟨lw_p62, List.forall_mem_cons.mpr ⟨lw_p63, fun _ h => absurd h List.not_mem_nil⟩⟩⟩⟩⟩⟩⟩⟩⟩⟩⟩⟩⟩⟩⟩⟩
theorem lw_p64 : lw_okq (⟨"BorrowedHandsModel", "isBook", "(I)Z"⟩, 33) := ⟨⟨by decide +kernel, by decide +kernel⟩, List.mem_of_getElem? (i := 957) (by decide +kernel), List.mem_of_getElem? (i := 1258) (by decide +kernel), List.mem_of_getElem? (i := 1259) (by decide +kernel)⟩
theorem lw_p65 : lw_okq (⟨"BorrowedHandsModel", "hasAll", "(II)Z"⟩, 33) := ⟨⟨by decide +kernel, by decide +kernel⟩, List.mem_of_getElem? (i := 957) (by decide +kernel), List.mem_of_getElem? (i := 1262) (by decide +kernel), List.mem_of_getElem? (i := 1263) (by decide +kernel)⟩
theorem lw_p66 : lw_okq (⟨"BorrowedHandsModel", "pagesOf", "(I)I"⟩, 33) := ⟨⟨by decide +kernel, by decide +kernel⟩, List.mem_of_getElem? (i := 957) (by decide +kernel), List.mem_of_getElem? (i := 1266) (by decide +kernel), List.mem_of_getElem? (i := 1267) (by decide +kernel)⟩
theorem lw_p67 : lw_okq (⟨"BorrowedHandsModel", "lineOf", "(III)I"⟩, 33) := ⟨⟨by decide +kernel, by decide +kernel⟩, List.mem_of_getElem? (i := 957) (by decide +kernel), List.mem_of_getElem? (i := 1270) (by decide +kernel), List.mem_of_getElem? (i := 1271) (by decide +kernel)⟩
theorem lw_p68 : lw_okq (⟨"BorrowedHandsModel", "pageOf", "(II)I"⟩, 33) := ⟨⟨by decide +kernel, by decide +kernel⟩, List.mem_of_getElem? (i := 957) (by decide +kernel), List.mem_of_getElem? (i := 1274) (by decide +kernel), List.mem_of_getElem? (i := 1275) (by decide +kernel)⟩
theorem lw_p69 : lw_okq (⟨"BorrowedHandsModel", "hasStock", "(II)Z"⟩, 33) := ⟨⟨by decide +kernel, by decide +kernel⟩, List.mem_of_getElem? (i := 957) (by decide +kernel), List.mem_of_getElem? (i := 1278) (by decide +kernel), List.mem_of_getElem? (i := 1279) (by decide +kernel)⟩
theorem lw_p70 : lw_okq (⟨"BorrowedHandsModel", "passes", "(II)I"⟩, 33) := ⟨⟨by decide +kernel, by decide +kernel⟩, List.mem_of_getElem? (i := 957) (by decide +kernel), List.mem_of_getElem? (i := 1288) (by decide +kernel), List.mem_of_getElem? (i := 1289) (by decide +kernel)⟩
theorem lw_p71 : lw_okq (⟨"BorrowedHandsModel", "habit", "(II)I"⟩, 33) := ⟨⟨by decide +kernel, by decide +kernel⟩, List.mem_of_getElem? (i := 957) (by decide +kernel), List.mem_of_getElem? (i := 1292) (by decide +kernel), List.mem_of_getElem? (i := 1293) (by decide +kernel)⟩
theorem lw_p72 : lw_okq (⟨"BorrowedHandsModel", "overWhom", "(I)I"⟩, 33) := ⟨⟨by decide +kernel, by decide +kernel⟩, List.mem_of_getElem? (i := 957) (by decide +kernel), List.mem_of_getElem? (i := 1320) (by decide +kernel), List.mem_of_getElem? (i := 1321) (by decide +kernel)⟩
theorem lw_p73 : lw_okq (⟨"BorrowedHandsModel", "isPage", "(II)Z"⟩, 33) := ⟨⟨by decide +kernel, by decide +kernel⟩, List.mem_of_getElem? (i := 957) (by decide +kernel), List.mem_of_getElem? (i := 1328) (by decide +kernel), List.mem_of_getElem? (i := 1329) (by decide +kernel)⟩
theorem lw_p74 : lw_okq (⟨"BorrowedHandsModel", "isAnyDead", "(I)Z"⟩, 33) := ⟨⟨by decide +kernel, by decide +kernel⟩, List.mem_of_getElem? (i := 957) (by decide +kernel), List.mem_of_getElem? (i := 1340) (by decide +kernel), List.mem_of_getElem? (i := 1341) (by decide +kernel)⟩
theorem lw_p75 : lw_okq (⟨"BorrowedHandsModel", "laysTrace", "(III)V"⟩, 33) := ⟨⟨by decide +kernel, by decide +kernel⟩, List.mem_of_getElem? (i := 957) (by decide +kernel), List.mem_of_getElem? (i := 1344) (by decide +kernel), List.mem_of_getElem? (i := 1345) (by decide +kernel)⟩
theorem lw_p76 : lw_okq (⟨"BorrowedHandsModel", "traces", "(III)V"⟩, 33) := ⟨⟨by decide +kernel, by decide +kernel⟩, List.mem_of_getElem? (i := 957) (by decide +kernel), List.mem_of_getElem? (i := 1348) (by decide +kernel), List.mem_of_getElem? (i := 1349) (by decide +kernel)⟩
theorem lw_p77 : lw_okq (⟨"BorrowedHandsModel", "brings", "(II)V"⟩, 33) := ⟨⟨by decide +kernel, by decide +kernel⟩, List.mem_of_getElem? (i := 957) (by decide +kernel), List.mem_of_getElem? (i := 1352) (by decide +kernel), List.mem_of_getElem? (i := 1353) (by decide +kernel)⟩
theorem lw_p78 : lw_okq (⟨"BorrowedHandsModel", "laysSource", "(I)V"⟩, 33) := ⟨⟨by decide +kernel, by decide +kernel⟩, List.mem_of_getElem? (i := 957) (by decide +kernel), List.mem_of_getElem? (i := 1368) (by decide +kernel), List.mem_of_getElem? (i := 1369) (by decide +kernel)⟩
theorem lw_p79 : lw_okq (⟨"BorrowedHandsModel", "leads", "(III)V"⟩, 33) := ⟨⟨by decide +kernel, by decide +kernel⟩, List.mem_of_getElem? (i := 957) (by decide +kernel), List.mem_of_getElem? (i := 1372) (by decide +kernel), List.mem_of_getElem? (i := 1373) (by decide +kernel)⟩
def lw_privs_5 : List (MethodName × Nat) := [(⟨"BorrowedHandsModel", "isBook", "(I)Z"⟩, 33), (⟨"BorrowedHandsModel", "hasAll", "(II)Z"⟩, 33), (⟨"BorrowedHandsModel", "pagesOf", "(I)I"⟩, 33), (⟨"BorrowedHandsModel", "lineOf", "(III)I"⟩, 33), (⟨"BorrowedHandsModel", "pageOf", "(II)I"⟩, 33), (⟨"BorrowedHandsModel", "hasStock", "(II)Z"⟩, 33), (⟨"BorrowedHandsModel", "passes", "(II)I"⟩, 33), (⟨"BorrowedHandsModel", "habit", "(II)I"⟩, 33), (⟨"BorrowedHandsModel", "overWhom", "(I)I"⟩, 33), (⟨"BorrowedHandsModel", "isPage", "(II)Z"⟩, 33), (⟨"BorrowedHandsModel", "isAnyDead", "(I)Z"⟩, 33), (⟨"BorrowedHandsModel", "laysTrace", "(III)V"⟩, 33), (⟨"BorrowedHandsModel", "traces", "(III)V"⟩, 33), (⟨"BorrowedHandsModel", "brings", "(II)V"⟩, 33), (⟨"BorrowedHandsModel", "laysSource", "(I)V"⟩, 33), (⟨"BorrowedHandsModel", "leads", "(III)V"⟩, 33)]
theorem lw_r5 : ∀ q ∈ lw_privs_5, lw_okq q := List.forall_mem_cons.mpr ⟨lw_p64, List.forall_mem_cons.mpr ⟨lw_p65, List.forall_mem_cons.mpr ⟨lw_p66, List.forall_mem_cons.mpr ⟨lw_p67, List.forall_mem_cons.mpr ⟨lw_p68, List.forall_mem_cons.mpr ⟨lw_p69, List.forall_mem_cons.mpr ⟨lw_p70, List.forall_mem_cons.mpr ⟨lw_p71, List.forall_mem_cons.mpr ⟨lw_p72, List.forall_mem_cons.mpr ⟨lw_p73, List.forall_mem_cons.mpr ⟨lw_p74, List.forall_mem_cons.mpr ⟨lw_p75, List.forall_mem_cons.mpr ⟨lw_p76, List.forall_mem_cons.mpr ⟨lw_p77, List.forall_mem_cons.mpr ⟨lw_p78, List.forall_mem_cons.mpr ⟨lw_p79, fun _ h => absurd h List.not_mem_nil⟩⟩⟩⟩⟩⟩⟩⟩⟩⟩⟩⟩⟩⟩⟩⟩
theorem lw_p80 : lw_okq (⟨"BorrowedHandsModel", "canTree", "(II)Z"⟩, 33) := ⟨⟨by decide +kernel, by decide +kernel⟩, List.mem_of_getElem? (i := 957) (by decide +kernel), List.mem_of_getElem? (i := 1394) (by decide +kernel), List.mem_of_getElem? (i := 1395) (by decide +kernel)⟩
theorem lw_p81 : lw_okq (⟨"BorrowedHandsModel", "choices", "(III)I"⟩, 33) := ⟨⟨by decide +kernel, by decide +kernel⟩, List.mem_of_getElem? (i := 957) (by decide +kernel), List.mem_of_getElem? (i := 1398) (by decide +kernel), List.mem_of_getElem? (i := 1399) (by decide +kernel)⟩
theorem lw_p82 : lw_okq (⟨"BorrowedHandsModel", "seen", "(I)I"⟩, 33) := ⟨⟨by decide +kernel, by decide +kernel⟩, List.mem_of_getElem? (i := 957) (by decide +kernel), List.mem_of_getElem? (i := 1402) (by decide +kernel), List.mem_of_getElem? (i := 1403) (by decide +kernel)⟩
theorem lw_p83 : lw_okq (⟨"BorrowedHandsModel", "canBreak", "(II)Z"⟩, 33) := ⟨⟨by decide +kernel, by decide +kernel⟩, List.mem_of_getElem? (i := 957) (by decide +kernel), List.mem_of_getElem? (i := 1414) (by decide +kernel), List.mem_of_getElem? (i := 1415) (by decide +kernel)⟩
theorem lw_p84 : lw_okq (⟨"BorrowedHandsModel", "stretches", "(II)I"⟩, 33) := ⟨⟨by decide +kernel, by decide +kernel⟩, List.mem_of_getElem? (i := 957) (by decide +kernel), List.mem_of_getElem? (i := 1418) (by decide +kernel), List.mem_of_getElem? (i := 1419) (by decide +kernel)⟩
theorem lw_p85 : lw_okq (⟨"BorrowedHandsModel", "couldBe", "(III)I"⟩, 33) := ⟨⟨by decide +kernel, by decide +kernel⟩, List.mem_of_getElem? (i := 957) (by decide +kernel), List.mem_of_getElem? (i := 1422) (by decide +kernel), List.mem_of_getElem? (i := 1423) (by decide +kernel)⟩
theorem lw_p86 : lw_okq (⟨"BorrowedHandsModel", "isSet", "(I)Z"⟩, 33) := ⟨⟨by decide +kernel, by decide +kernel⟩, List.mem_of_getElem? (i := 957) (by decide +kernel), List.mem_of_getElem? (i := 1439) (by decide +kernel), List.mem_of_getElem? (i := 1440) (by decide +kernel)⟩
theorem lw_p87 : lw_okq (⟨"BorrowedHandsModel", "laysApart", "(II)I"⟩, 33) := ⟨⟨by decide +kernel, by decide +kernel⟩, List.mem_of_getElem? (i := 957) (by decide +kernel), List.mem_of_getElem? (i := 1443) (by decide +kernel), List.mem_of_getElem? (i := 1444) (by decide +kernel)⟩
theorem lw_p88 : lw_okq (⟨"BorrowedHandsModel", "unlikeOn", "(III)I"⟩, 33) := ⟨⟨by decide +kernel, by decide +kernel⟩, List.mem_of_getElem? (i := 957) (by decide +kernel), List.mem_of_getElem? (i := 1447) (by decide +kernel), List.mem_of_getElem? (i := 1448) (by decide +kernel)⟩
theorem lw_p89 : lw_okq (⟨"BorrowedHandsModel", "slipsBy", "(IIIII)V"⟩, 33) := ⟨⟨by decide +kernel, by decide +kernel⟩, List.mem_of_getElem? (i := 957) (by decide +kernel), List.mem_of_getElem? (i := 1456) (by decide +kernel), List.mem_of_getElem? (i := 1457) (by decide +kernel)⟩
theorem lw_p90 : lw_okq (⟨"BorrowedHandsModel", "lineWith", "(IIIIII)I"⟩, 33) := ⟨⟨by decide +kernel, by decide +kernel⟩, List.mem_of_getElem? (i := 957) (by decide +kernel), List.mem_of_getElem? (i := 1460) (by decide +kernel), List.mem_of_getElem? (i := 1461) (by decide +kernel)⟩
theorem lw_p91 : lw_okq (⟨"BorrowedHandsModel", "errorsOf", "(III)I"⟩, 33) := ⟨⟨by decide +kernel, by decide +kernel⟩, List.mem_of_getElem? (i := 957) (by decide +kernel), List.mem_of_getElem? (i := 1468) (by decide +kernel), List.mem_of_getElem? (i := 1469) (by decide +kernel)⟩
theorem lw_p92 : lw_okq (⟨"BorrowedHandsModel", "clashes", "()I"⟩, 33) := ⟨⟨by decide +kernel, by decide +kernel⟩, List.mem_of_getElem? (i := 957) (by decide +kernel), List.mem_of_getElem? (i := 1477) (by decide +kernel), List.mem_of_getElem? (i := 1478) (by decide +kernel)⟩
theorem lw_p93 : lw_okq (⟨"BorrowedHandsModel", "laysUnlike", "()I"⟩, 33) := ⟨⟨by decide +kernel, by decide +kernel⟩, List.mem_of_getElem? (i := 957) (by decide +kernel), List.mem_of_getElem? (i := 1484) (by decide +kernel), List.mem_of_getElem? (i := 1485) (by decide +kernel)⟩
theorem lw_p94 : lw_okq (⟨"BorrowedHandsModel", "longestRow", "(I)I"⟩, 33) := ⟨⟨by decide +kernel, by decide +kernel⟩, List.mem_of_getElem? (i := 957) (by decide +kernel), List.mem_of_getElem? (i := 1488) (by decide +kernel), List.mem_of_getElem? (i := 1489) (by decide +kernel)⟩
theorem lw_p95 : lw_okq (⟨"BorrowedHandsModel", "handsSet", "(I)I"⟩, 33) := ⟨⟨by decide +kernel, by decide +kernel⟩, List.mem_of_getElem? (i := 957) (by decide +kernel), List.mem_of_getElem? (i := 1497) (by decide +kernel), List.mem_of_getElem? (i := 1498) (by decide +kernel)⟩
def lw_privs_6 : List (MethodName × Nat) := [(⟨"BorrowedHandsModel", "canTree", "(II)Z"⟩, 33), (⟨"BorrowedHandsModel", "choices", "(III)I"⟩, 33), (⟨"BorrowedHandsModel", "seen", "(I)I"⟩, 33), (⟨"BorrowedHandsModel", "canBreak", "(II)Z"⟩, 33), (⟨"BorrowedHandsModel", "stretches", "(II)I"⟩, 33), (⟨"BorrowedHandsModel", "couldBe", "(III)I"⟩, 33), (⟨"BorrowedHandsModel", "isSet", "(I)Z"⟩, 33), (⟨"BorrowedHandsModel", "laysApart", "(II)I"⟩, 33), (⟨"BorrowedHandsModel", "unlikeOn", "(III)I"⟩, 33), (⟨"BorrowedHandsModel", "slipsBy", "(IIIII)V"⟩, 33), (⟨"BorrowedHandsModel", "lineWith", "(IIIIII)I"⟩, 33), (⟨"BorrowedHandsModel", "errorsOf", "(III)I"⟩, 33), (⟨"BorrowedHandsModel", "clashes", "()I"⟩, 33), (⟨"BorrowedHandsModel", "laysUnlike", "()I"⟩, 33), (⟨"BorrowedHandsModel", "longestRow", "(I)I"⟩, 33), (⟨"BorrowedHandsModel", "handsSet", "(I)I"⟩, 33)]
theorem lw_r6 : ∀ q ∈ lw_privs_6, lw_okq q := List.forall_mem_cons.mpr ⟨lw_p80, List.forall_mem_cons.mpr ⟨lw_p81, List.forall_mem_cons.mpr ⟨lw_p82, List.forall_mem_cons.mpr ⟨lw_p83, List.forall_mem_cons.mpr ⟨lw_p84, List.forall_mem_cons.mpr ⟨lw_p85, List.forall_mem_cons.mpr ⟨lw_p86, List.forall_mem_cons.mpr ⟨lw_p87, List.forall_mem_cons.mpr ⟨lw_p88, List.forall_mem_cons.mpr ⟨lw_p89, List.forall_mem_cons.mpr ⟨lw_p90, List.forall_mem_cons.mpr ⟨lw_p91, List.forall_mem_cons.mpr ⟨lw_p92, List.forall_mem_cons.mpr ⟨lw_p93, List.forall_mem_cons.mpr ⟨lw_p94, List.forall_mem_cons.mpr ⟨lw_p95, fun _ h => absurd h List.not_mem_nil⟩⟩⟩⟩⟩⟩⟩⟩⟩⟩⟩⟩⟩⟩⟩⟩
theorem lw_p96 : lw_okq (⟨"BorrowedHandsModel", "makes", "(III)I"⟩, 33) := ⟨⟨by decide +kernel, by decide +kernel⟩, List.mem_of_getElem? (i := 957) (by decide +kernel), List.mem_of_getElem? (i := 1510) (by decide +kernel), List.mem_of_getElem? (i := 1511) (by decide +kernel)⟩
theorem lw_p97 : lw_okq (⟨"BorrowedHandsModel", "pagesOfAll", "()I"⟩, 33) := ⟨⟨by decide +kernel, by decide +kernel⟩, List.mem_of_getElem? (i := 957) (by decide +kernel), List.mem_of_getElem? (i := 1518) (by decide +kernel), List.mem_of_getElem? (i := 1519) (by decide +kernel)⟩
theorem lw_p98 : lw_okq (⟨"BorrowedHandsModel", "alone", "()I"⟩, 33) := ⟨⟨by decide +kernel, by decide +kernel⟩, List.mem_of_getElem? (i := 957) (by decide +kernel), List.mem_of_getElem? (i := 1522) (by decide +kernel), List.mem_of_getElem? (i := 1523) (by decide +kernel)⟩
theorem lw_p99 : lw_okq (⟨"BorrowedHandsModel", "mostHands", "()I"⟩, 33) := ⟨⟨by decide +kernel, by decide +kernel⟩, List.mem_of_getElem? (i := 957) (by decide +kernel), List.mem_of_getElem? (i := 1526) (by decide +kernel), List.mem_of_getElem? (i := 1527) (by decide +kernel)⟩
theorem lw_p100 : lw_okq (⟨"BorrowedHandsModel", "sumOf", "(I)I"⟩, 33) := ⟨⟨by decide +kernel, by decide +kernel⟩, List.mem_of_getElem? (i := 957) (by decide +kernel), List.mem_of_getElem? (i := 1530) (by decide +kernel), List.mem_of_getElem? (i := 1531) (by decide +kernel)⟩
theorem lw_p101 : lw_okq (⟨"BorrowedHandsModel", "deadOnes", "()I"⟩, 33) := ⟨⟨by decide +kernel, by decide +kernel⟩, List.mem_of_getElem? (i := 957) (by decide +kernel), List.mem_of_getElem? (i := 1534) (by decide +kernel), List.mem_of_getElem? (i := 1535) (by decide +kernel)⟩
def lw_privs_7 : List (MethodName × Nat) := [(⟨"BorrowedHandsModel", "makes", "(III)I"⟩, 33), (⟨"BorrowedHandsModel", "pagesOfAll", "()I"⟩, 33), (⟨"BorrowedHandsModel", "alone", "()I"⟩, 33), (⟨"BorrowedHandsModel", "mostHands", "()I"⟩, 33), (⟨"BorrowedHandsModel", "sumOf", "(I)I"⟩, 33), (⟨"BorrowedHandsModel", "deadOnes", "()I"⟩, 33)]
theorem lw_r7 : ∀ q ∈ lw_privs_7, lw_okq q := List.forall_mem_cons.mpr ⟨lw_p96, List.forall_mem_cons.mpr ⟨lw_p97, List.forall_mem_cons.mpr ⟨lw_p98, List.forall_mem_cons.mpr ⟨lw_p99, List.forall_mem_cons.mpr ⟨lw_p100, List.forall_mem_cons.mpr ⟨lw_p101, fun _ h => absurd h List.not_mem_nil⟩⟩⟩⟩⟩⟩
def lw_privs : List (MethodName × Nat) := lw_privs_1 ++ (lw_privs_2 ++ (lw_privs_3 ++ (lw_privs_4 ++ (lw_privs_5 ++ (lw_privs_6 ++ (lw_privs_7))))))
def lw_tbl : List Cond := k2_sels lw_privs ++ tables_1
theorem lw_privs_ok : ∀ q ∈ lw_privs, lw_okq q := by
  show ∀ q ∈ lw_privs_1 ++ (lw_privs_2 ++ (lw_privs_3 ++ (lw_privs_4 ++ (lw_privs_5 ++ (lw_privs_6 ++ (lw_privs_7)))))), lw_okq q
  exact List.forall_mem_append.mpr ⟨lw_r1, List.forall_mem_append.mpr ⟨lw_r2, List.forall_mem_append.mpr ⟨lw_r3, List.forall_mem_append.mpr ⟨lw_r4, List.forall_mem_append.mpr ⟨lw_r5, List.forall_mem_append.mpr ⟨lw_r6, lw_r7⟩⟩⟩⟩⟩⟩
def RX0 : String := "BorrowedHands$Apart"
def TX0 : u_T := fun k => match k with
  | 0 => ("BorrowedHands$Apart", "rows", "[I", true)
  | 1 => ("BorrowedHands$Apart", "twos", "[I", true)
  | _ => ("BorrowedHands$Apart", "many", "I", false)
def tyX0 : Nat → FieldType := fun k => match k with
  | 0 => .array .int
  | 1 => .array .int
  | _ => .int
theorem nmX0 : ∀ a, a < 3 → ∀ b, b < 3 → a ≠ b → (TX0 a).2.1 ≠ (TX0 b).2.1 := by decide +kernel
theorem tyX0_ok : ∀ k, k < 3 → parseFieldDescriptor (TX0 k).2.2.1 = some (tyX0 k) := by decide +kernel
abbrev cX0_init : ByteArray := prog_2_method_1_code
def yX0_init : MethodName := ⟨RX0, "<init>", "()V"⟩
abbrev cX0_fewestPages : ByteArray := prog_2_method_2_code
def yX0_fewestPages : MethodName := ⟨RX0, "fewestPages", "(LBorrowedHands$Town;LBorrowedHands$Hands;II)I"⟩
abbrev cX0_fillRows : ByteArray := prog_2_method_3_code
def yX0_fillRows : MethodName := ⟨RX0, "fillRows", "(LBorrowedHands$Town;LBorrowedHands$Hands;II)V"⟩
abbrev cX0_listTwos : ByteArray := prog_2_method_4_code
def yX0_listTwos : MethodName := ⟨RX0, "listTwos", "(III)V"⟩
abbrev cX0_differingPages : ByteArray := prog_2_method_5_code
def yX0_differingPages : MethodName := ⟨RX0, "differingPages", "(III)I"⟩
abbrev cX0_allApart : ByteArray := prog_2_method_6_code
def yX0_allApart : MethodName := ⟨RX0, "allApart", "(I)Z"⟩
def RX1 : String := "BorrowedHands$Habit"
def TX1 : u_T := fun k => match k with
  | _ => ("", "", "", false)
def tyX1 : Nat → FieldType := fun k => match k with
  | _ => .int
theorem nmX1 : ∀ a, a < 0 → ∀ b, b < 0 → a ≠ b → (TX1 a).2.1 ≠ (TX1 b).2.1 := by decide +kernel
theorem tyX1_ok : ∀ k, k < 0 → parseFieldDescriptor (TX1 k).2.2.1 = some (tyX1 k) := by decide +kernel
abbrev cX1_signsOf : ByteArray := prog_3_method_2_code
def yX1_signsOf : MethodName := ⟨RX1, "signsOf", "(I)I"⟩
abbrev cX1_firstSign : ByteArray := prog_3_method_3_code
def yX1_firstSign : MethodName := ⟨RX1, "firstSign", "(II)I"⟩
abbrev cX1_secondSign : ByteArray := prog_3_method_4_code
def yX1_secondSign : MethodName := ⟨RX1, "secondSign", "(II)I"⟩
abbrev cX1_stands : ByteArray := prog_3_method_5_code
def yX1_stands : MethodName := ⟨RX1, "stands", "(III)Z"⟩
abbrev cX1_changeRow : ByteArray := prog_3_method_6_code
def yX1_changeRow : MethodName := ⟨RX1, "changeRow", "(IIII)I"⟩
abbrev cX1_signAt : ByteArray := prog_3_method_7_code
def yX1_signAt : MethodName := ⟨RX1, "signAt", "(II)I"⟩
def RX2 : String := "BorrowedHands$Hands"
def TX2 : u_T := fun k => match k with
  | 0 => ("BorrowedHands$Hands", "who", "[I", true)
  | _ => ("BorrowedHands$Hands", "many", "I", false)
def tyX2 : Nat → FieldType := fun k => match k with
  | 0 => .array .int
  | _ => .int
theorem nmX2 : ∀ a, a < 2 → ∀ b, b < 2 → a ≠ b → (TX2 a).2.1 ≠ (TX2 b).2.1 := by decide +kernel
theorem tyX2_ok : ∀ k, k < 2 → parseFieldDescriptor (TX2 k).2.2.1 = some (tyX2 k) := by decide +kernel
abbrev cX2_init : ByteArray := prog_4_method_1_code
def yX2_init : MethodName := ⟨RX2, "<init>", "()V"⟩
abbrev cX2_listFrom : ByteArray := prog_4_method_2_code
def yX2_listFrom : MethodName := ⟨RX2, "listFrom", "(LBorrowedHands$Town;I)V"⟩
abbrev cX2_listUntilDead : ByteArray := prog_4_method_3_code
def yX2_listUntilDead : MethodName := ⟨RX2, "listUntilDead", "(LBorrowedHands$Town;II)I"⟩
abbrev cX2_lowest : ByteArray := prog_4_method_4_code
def yX2_lowest : MethodName := ⟨RX2, "lowest", "()I"⟩
abbrev cX2_asBits : ByteArray := prog_4_method_5_code
def yX2_asBits : MethodName := ⟨RX2, "asBits", "()I"⟩
abbrev cX2_anyDead : ByteArray := prog_4_method_6_code
def yX2_anyDead : MethodName := ⟨RX2, "anyDead", "(LBorrowedHands$Town;)Z"⟩
abbrev cX2_passUp : ByteArray := prog_4_method_7_code
def yX2_passUp : MethodName := ⟨RX2, "passUp", "(LBorrowedHands$Town;III)I"⟩
abbrev cX2_lineOf : ByteArray := prog_4_method_8_code
def yX2_lineOf : MethodName := ⟨RX2, "lineOf", "(LBorrowedHands$Town;III)I"⟩
def RX3 : String := "BorrowedHands$Mistakes"
def TX3 : u_T := fun k => match k with
  | 0 => ("BorrowedHands$Mistakes", "sets", "[I", true)
  | _ => ("BorrowedHands$Mistakes", "rows", "[I", true)
def tyX3 : Nat → FieldType := fun k => match k with
  | 0 => .array .int
  | _ => .array .int
theorem nmX3 : ∀ a, a < 2 → ∀ b, b < 2 → a ≠ b → (TX3 a).2.1 ≠ (TX3 b).2.1 := by decide +kernel
theorem tyX3_ok : ∀ k, k < 2 → parseFieldDescriptor (TX3 k).2.2.1 = some (tyX3 k) := by decide +kernel
abbrev cX3_init : ByteArray := prog_5_method_1_code
def yX3_init : MethodName := ⟨RX3, "<init>", "()V"⟩
abbrev cX3_gather : ByteArray := prog_5_method_2_code
def yX3_gather : MethodName := ⟨RX3, "gather", "(LBorrowedHands$Town;LBorrowedHands$Hands;II)V"⟩
abbrev cX3_clashes : ByteArray := prog_5_method_3_code
def yX3_clashes : MethodName := ⟨RX3, "clashes", "()I"⟩
abbrev cX3_clash : ByteArray := prog_5_method_4_code
def yX3_clash : MethodName := ⟨RX3, "clash", "(II)Z"⟩
abbrev cX3_unlikeSets : ByteArray := prog_5_method_5_code
def yX3_unlikeSets : MethodName := ⟨RX3, "unlikeSets", "()I"⟩
abbrev cX3_isFirstOfItsLike : ByteArray := prog_5_method_6_code
def yX3_isFirstOfItsLike : MethodName := ⟨RX3, "isFirstOfItsLike", "(I)Z"⟩
abbrev cX3_longestRow : ByteArray := prog_5_method_7_code
def yX3_longestRow : MethodName := ⟨RX3, "longestRow", "()I"⟩
abbrev cX3_longestWithin : ByteArray := prog_5_method_8_code
def yX3_longestWithin : MethodName := ⟨RX3, "longestWithin", "(I)I"⟩
def RX4 : String := "BorrowedHands$Slipping"
def TX4 : u_T := fun k => match k with
  | 0 => ("BorrowedHands$Slipping", "many", "I", false)
  | 1 => ("BorrowedHands$Slipping", "firstWriter", "I", false)
  | 2 => ("BorrowedHands$Slipping", "firstKind", "I", false)
  | 3 => ("BorrowedHands$Slipping", "firstA", "I", false)
  | 4 => ("BorrowedHands$Slipping", "firstB", "I", false)
  | 5 => ("BorrowedHands$Slipping", "needed", "I", false)
  | _ => ("BorrowedHands$Slipping", "wanted", "I", false)
def tyX4 : Nat → FieldType := fun k => match k with
  | 0 => .int
  | 1 => .int
  | 2 => .int
  | 3 => .int
  | 4 => .int
  | 5 => .int
  | _ => .int
theorem nmX4 : ∀ a, a < 7 → ∀ b, b < 7 → a ≠ b → (TX4 a).2.1 ≠ (TX4 b).2.1 := by decide +kernel
theorem tyX4_ok : ∀ k, k < 7 → parseFieldDescriptor (TX4 k).2.2.1 = some (tyX4 k) := by decide +kernel
abbrev cX4_init : ByteArray := prog_6_method_1_code
def yX4_init : MethodName := ⟨RX4, "<init>", "()V"⟩
abbrev cX4_search : ByteArray := prog_6_method_2_code
def yX4_search : MethodName := ⟨RX4, "search", "(LBorrowedHands$Town;LBorrowedHands$Hands;II)V"⟩
abbrev cX4_ofFirst : ByteArray := prog_6_method_3_code
def yX4_ofFirst : MethodName := ⟨RX4, "ofFirst", "(I)I"⟩
abbrev cX4_findDemand : ByteArray := prog_6_method_4_code
def yX4_findDemand : MethodName := ⟨RX4, "findDemand", "(LBorrowedHands$Town;LBorrowedHands$Hands;II)Z"⟩
abbrev cX4_tryHabits : ByteArray := prog_6_method_5_code
def yX4_tryHabits : MethodName := ⟨RX4, "tryHabits", "(LBorrowedHands$Town;II)V"⟩
abbrev cX4_tryOne : ByteArray := prog_6_method_6_code
def yX4_tryOne : MethodName := ⟨RX4, "tryOne", "(IIIII)V"⟩
def RX5 : String := "BorrowedHands$Stretches"
def TX5 : u_T := fun k => match k with
  | 0 => ("BorrowedHands$Stretches", "start", "[I", true)
  | 1 => ("BorrowedHands$Stretches", "choices", "[I", true)
  | _ => ("BorrowedHands$Stretches", "many", "I", false)
def tyX5 : Nat → FieldType := fun k => match k with
  | 0 => .array .int
  | 1 => .array .int
  | _ => .int
theorem nmX5 : ∀ a, a < 3 → ∀ b, b < 3 → a ≠ b → (TX5 a).2.1 ≠ (TX5 b).2.1 := by decide +kernel
theorem tyX5_ok : ∀ k, k < 3 → parseFieldDescriptor (TX5 k).2.2.1 = some (tyX5 k) := by decide +kernel
abbrev cX5_init : ByteArray := prog_7_method_1_code
def yX5_init : MethodName := ⟨RX5, "<init>", "()V"⟩
abbrev cX5_cut : ByteArray := prog_7_method_2_code
def yX5_cut : MethodName := ⟨RX5, "cut", "(LBorrowedHands$Town;LBorrowedHands$Hands;II)V"⟩
abbrev cX5_whoMade : ByteArray := prog_7_method_3_code
def yX5_whoMade : MethodName := ⟨RX5, "whoMade", "(LBorrowedHands$Town;LBorrowedHands$Hands;III)I"⟩
def RX6 : String := "BorrowedHands$Tape"
def TX6 : u_T := fun k => match k with
  | 0 => ("BorrowedHands$Tape", "bytes", "[I", true)
  | 1 => ("BorrowedHands$Tape", "length", "I", false)
  | 2 => ("BorrowedHands$Tape", "at", "I", false)
  | 3 => ("BorrowedHands$Tape", "began", "I", false)
  | _ => ("BorrowedHands$Tape", "fault", "I", false)
def tyX6 : Nat → FieldType := fun k => match k with
  | 0 => .array .int
  | 1 => .int
  | 2 => .int
  | 3 => .int
  | _ => .int
theorem nmX6 : ∀ a, a < 5 → ∀ b, b < 5 → a ≠ b → (TX6 a).2.1 ≠ (TX6 b).2.1 := by decide +kernel
theorem tyX6_ok : ∀ k, k < 5 → parseFieldDescriptor (TX6 k).2.2.1 = some (tyX6 k) := by decide +kernel
abbrev cX6_init : ByteArray := prog_8_method_1_code
def yX6_init : MethodName := ⟨RX6, "<init>", "()V"⟩
abbrev cX6_hasRoom : ByteArray := prog_8_method_2_code
def yX6_hasRoom : MethodName := ⟨RX6, "hasRoom", "(I)Z"⟩
abbrev cX6_append : ByteArray := prog_8_method_3_code
def yX6_append : MethodName := ⟨RX6, "append", "(I)V"⟩
abbrev cX6_readInto : ByteArray := prog_8_method_4_code
def yX6_readInto : MethodName := ⟨RX6, "readInto", "(LBorrowedHands$Town;)I"⟩
abbrev cX6_readPart : ByteArray := prog_8_method_5_code
def yX6_readPart : MethodName := ⟨RX6, "readPart", "(LBorrowedHands$Town;)Z"⟩
abbrev cX6_readSemicolon : ByteArray := prog_8_method_6_code
def yX6_readSemicolon : MethodName := ⟨RX6, "readSemicolon", "()Z"⟩
abbrev cX6_readWriter : ByteArray := prog_8_method_7_code
def yX6_readWriter : MethodName := ⟨RX6, "readWriter", "(LBorrowedHands$Town;)Z"⟩
abbrev cX6_readHabit : ByteArray := prog_8_method_8_code
def yX6_readHabit : MethodName := ⟨RX6, "readHabit", "(LBorrowedHands$Town;I)Z"⟩
abbrev cX6_readUnder : ByteArray := prog_8_method_9_code
def yX6_readUnder : MethodName := ⟨RX6, "readUnder", "(LBorrowedHands$Town;I)Z"⟩
abbrev cX6_readBook : ByteArray := prog_8_method_10_code
def yX6_readBook : MethodName := ⟨RX6, "readBook", "(LBorrowedHands$Town;)Z"⟩
abbrev cX6_readNumber : ByteArray := prog_8_method_11_code
def yX6_readNumber : MethodName := ⟨RX6, "readNumber", "(II)I"⟩
abbrev cX6_readWord : ByteArray := prog_8_method_12_code
def yX6_readWord : MethodName := ⟨RX6, "readWord", "()V"⟩
abbrev cX6_wordIs : ByteArray := prog_8_method_13_code
def yX6_wordIs : MethodName := ⟨RX6, "wordIs", "(Ljava/lang/String;)Z"⟩
abbrev cX6_kindOfWord : ByteArray := prog_8_method_14_code
def yX6_kindOfWord : MethodName := ⟨RX6, "kindOfWord", "()I"⟩
abbrev cX6_wordOfKind : ByteArray := prog_8_method_15_code
def yX6_wordOfKind : MethodName := ⟨RX6, "wordOfKind", "(I)Ljava/lang/String;"⟩
abbrev cX6_skipBlanks : ByteArray := prog_8_method_16_code
def yX6_skipBlanks : MethodName := ⟨RX6, "skipBlanks", "()V"⟩
abbrev cX6_isLetter : ByteArray := prog_8_method_17_code
def yX6_isLetter : MethodName := ⟨RX6, "isLetter", "(I)Z"⟩
abbrev cX6_isDigit : ByteArray := prog_8_method_18_code
def yX6_isDigit : MethodName := ⟨RX6, "isDigit", "(I)Z"⟩
abbrev cX6_refuse : ByteArray := prog_8_method_19_code
def yX6_refuse : MethodName := ⟨RX6, "refuse", "(II)Z"⟩
def RX7 : String := "BorrowedHands$Town"
def TX7 : u_T := fun k => match k with
  | 0 => ("BorrowedHands$Town", "writers", "I", false)
  | 1 => ("BorrowedHands$Town", "books", "I", false)
  | 2 => ("BorrowedHands$Town", "seenCount", "I", false)
  | 3 => ("BorrowedHands$Town", "days", "I", false)
  | 4 => ("BorrowedHands$Town", "moods", "I", false)
  | 5 => ("BorrowedHands$Town", "dead", "I", false)
  | 6 => ("BorrowedHands$Town", "purse", "[I", true)
  | 7 => ("BorrowedHands$Town", "kind", "[I", true)
  | 8 => ("BorrowedHands$Town", "first", "[I", true)
  | 9 => ("BorrowedHands$Town", "second", "[I", true)
  | 10 => ("BorrowedHands$Town", "under", "[I", true)
  | 11 => ("BorrowedHands$Town", "fame", "[I", true)
  | 12 => ("BorrowedHands$Town", "coins", "[I", true)
  | 13 => ("BorrowedHands$Town", "stocked", "[I", true)
  | 14 => ("BorrowedHands$Town", "lengths", "[I", true)
  | 15 => ("BorrowedHands$Town", "pages", "[I", true)
  | 16 => ("BorrowedHands$Town", "stock", "[I", true)
  | _ => ("BorrowedHands$Town", "seen", "[I", true)
def tyX7 : Nat → FieldType := fun k => match k with
  | 0 => .int
  | 1 => .int
  | 2 => .int
  | 3 => .int
  | 4 => .int
  | 5 => .int
  | 6 => .array .int
  | 7 => .array .int
  | 8 => .array .int
  | 9 => .array .int
  | 10 => .array .int
  | 11 => .array .int
  | 12 => .array .int
  | 13 => .array .int
  | 14 => .array .int
  | 15 => .array .int
  | 16 => .array .int
  | _ => .array .int
theorem nmX7 : ∀ a, a < 18 → ∀ b, b < 18 → a ≠ b → (TX7 a).2.1 ≠ (TX7 b).2.1 := by decide +kernel
theorem tyX7_ok : ∀ k, k < 18 → parseFieldDescriptor (TX7 k).2.2.1 = some (tyX7 k) := by decide +kernel
abbrev cX7_init : ByteArray := prog_9_method_1_code
def yX7_init : MethodName := ⟨RX7, "<init>", "()V"⟩
abbrev cX7_empty : ByteArray := prog_9_method_2_code
def yX7_empty : MethodName := ⟨RX7, "empty", "()V"⟩
abbrev cX7_copyFrom : ByteArray := prog_9_method_3_code
def yX7_copyFrom : MethodName := ⟨RX7, "copyFrom", "(LBorrowedHands$Town;)V"⟩
abbrev cX7_copyRow : ByteArray := prog_9_method_4_code
def yX7_copyRow : MethodName := ⟨RX7, "copyRow", "([I[I)V"⟩
abbrev cX7_addWriter : ByteArray := prog_9_method_5_code
def yX7_addWriter : MethodName := ⟨RX7, "addWriter", "(I)V"⟩
abbrev cX7_addBook : ByteArray := prog_9_method_6_code
def yX7_addBook : MethodName := ⟨RX7, "addBook", "()V"⟩
abbrev cX7_addPage : ByteArray := prog_9_method_7_code
def yX7_addPage : MethodName := ⟨RX7, "addPage", "(I)V"⟩
abbrev cX7_isWriter : ByteArray := prog_9_method_8_code
def yX7_isWriter : MethodName := ⟨RX7, "isWriter", "(I)Z"⟩
abbrev cX7_isBook : ByteArray := prog_9_method_9_code
def yX7_isBook : MethodName := ⟨RX7, "isBook", "(I)Z"⟩
abbrev cX7_isPage : ByteArray := prog_9_method_10_code
def yX7_isPage : MethodName := ⟨RX7, "isPage", "(II)Z"⟩
abbrev cX7_isDead : ByteArray := prog_9_method_11_code
def yX7_isDead : MethodName := ⟨RX7, "isDead", "(I)Z"⟩
abbrev cX7_inMood : ByteArray := prog_9_method_12_code
def yX7_inMood : MethodName := ⟨RX7, "inMood", "(I)Z"⟩
abbrev cX7_hasStock : ByteArray := prog_9_method_13_code
def yX7_hasStock : MethodName := ⟨RX7, "hasStock", "(II)Z"⟩
abbrev cX7_stockOf : ByteArray := prog_9_method_14_code
def yX7_stockOf : MethodName := ⟨RX7, "stockOf", "(III)I"⟩
abbrev cX7_putStock : ByteArray := prog_9_method_15_code
def yX7_putStock : MethodName := ⟨RX7, "putStock", "(IIII)V"⟩
abbrev cX7_hasHabit : ByteArray := prog_9_method_16_code
def yX7_hasHabit : MethodName := ⟨RX7, "hasHabit", "(IIII)Z"⟩
abbrev cX7_setHabit : ByteArray := prog_9_method_17_code
def yX7_setHabit : MethodName := ⟨RX7, "setHabit", "(IIII)V"⟩
abbrev cX7_habitOn : ByteArray := prog_9_method_18_code
def yX7_habitOn : MethodName := ⟨RX7, "habitOn", "(II)I"⟩
abbrev cX7_rowOf : ByteArray := prog_9_method_19_code
def yX7_rowOf : MethodName := ⟨RX7, "rowOf", "(II)I"⟩
abbrev cX7_pageOfSeen : ByteArray := prog_9_method_20_code
def yX7_pageOfSeen : MethodName := ⟨RX7, "pageOfSeen", "(II)I"⟩
abbrev cX7_havingUnder : ByteArray := prog_9_method_21_code
def yX7_havingUnder : MethodName := ⟨RX7, "havingUnder", "(I)I"⟩
abbrev cX7_allPages : ByteArray := prog_9_method_22_code
def yX7_allPages : MethodName := ⟨RX7, "allPages", "()I"⟩
abbrev cX7_sumOf : ByteArray := prog_9_method_23_code
def yX7_sumOf : MethodName := ⟨RX7, "sumOf", "([I)I"⟩
def RX8 : String := "BorrowedHands$Trail"
def TX8 : u_T := fun k => match k with
  | 0 => ("BorrowedHands$Trail", "origin", "[I", true)
  | 1 => ("BorrowedHands$Trail", "changer", "[I", true)
  | _ => ("BorrowedHands$Trail", "spare", "[I", true)
def tyX8 : Nat → FieldType := fun k => match k with
  | 0 => .array .int
  | 1 => .array .int
  | _ => .array .int
theorem nmX8 : ∀ a, a < 3 → ∀ b, b < 3 → a ≠ b → (TX8 a).2.1 ≠ (TX8 b).2.1 := by decide +kernel
theorem tyX8_ok : ∀ k, k < 3 → parseFieldDescriptor (TX8 k).2.2.1 = some (tyX8 k) := by decide +kernel
abbrev cX8_init : ByteArray := prog_10_method_1_code
def yX8_init : MethodName := ⟨RX8, "<init>", "()V"⟩
abbrev cX8_follow : ByteArray := prog_10_method_2_code
def yX8_follow : MethodName := ⟨RX8, "follow", "(LBorrowedHands$Town;LBorrowedHands$Hands;I)V"⟩
abbrev cX8_changedBy : ByteArray := prog_10_method_3_code
def yX8_changedBy : MethodName := ⟨RX8, "changedBy", "(I)I"⟩
abbrev cX8_step : ByteArray := prog_10_method_4_code
def yX8_step : MethodName := ⟨RX8, "step", "(LBorrowedHands$Town;II)V"⟩
abbrev cX8_put : ByteArray := prog_10_method_5_code
def yX8_put : MethodName := ⟨RX8, "put", "(IIIZ)V"⟩
abbrev cX8_turn : ByteArray := prog_10_method_6_code
def yX8_turn : MethodName := ⟨RX8, "turn", "([II)V"⟩
abbrev cX8_swap : ByteArray := prog_10_method_7_code
def yX8_swap : MethodName := ⟨RX8, "swap", "([III)V"⟩
def RX9 : String := "BorrowedHands"
def TX9 : u_T := fun k => match k with
  | 0 => ("BorrowedHands", "town", "LBorrowedHands$Town;", true)
  | 1 => ("BorrowedHands", "told", "LBorrowedHands$Town;", true)
  | 2 => ("BorrowedHands", "tape", "LBorrowedHands$Tape;", true)
  | 3 => ("BorrowedHands", "earlier", "[LBorrowedHands$Town;", true)
  | 4 => ("BorrowedHands", "shelves", "[LBorrowedHands$Town;", true)
  | 5 => ("BorrowedHands", "hands", "LBorrowedHands$Hands;", true)
  | 6 => ("BorrowedHands", "trail", "LBorrowedHands$Trail;", true)
  | 7 => ("BorrowedHands", "slipping", "LBorrowedHands$Slipping;", true)
  | 8 => ("BorrowedHands", "stretches", "LBorrowedHands$Stretches;", true)
  | 9 => ("BorrowedHands", "apart", "LBorrowedHands$Apart;", true)
  | 10 => ("BorrowedHands", "mistakes", "LBorrowedHands$Mistakes;", true)
  | 11 => ("BorrowedHands", "flow", "[I", true)
  | 12 => ("BorrowedHands", "ways", "[J", true)
  | 13 => ("BorrowedHands", "nextEarlier", "I", false)
  | 14 => ("BorrowedHands", "undoable", "I", false)
  | _ => ("BorrowedHands", "kept", "I", false)
def tyX9 : Nat → FieldType := fun k => match k with
  | 0 => .object "BorrowedHands$Town"
  | 1 => .object "BorrowedHands$Town"
  | 2 => .object "BorrowedHands$Tape"
  | 3 => .array (.object "BorrowedHands$Town")
  | 4 => .array (.object "BorrowedHands$Town")
  | 5 => .object "BorrowedHands$Hands"
  | 6 => .object "BorrowedHands$Trail"
  | 7 => .object "BorrowedHands$Slipping"
  | 8 => .object "BorrowedHands$Stretches"
  | 9 => .object "BorrowedHands$Apart"
  | 10 => .object "BorrowedHands$Mistakes"
  | 11 => .array .int
  | 12 => .array .long
  | 13 => .int
  | 14 => .int
  | _ => .int
theorem nmX9 : ∀ a, a < 16 → ∀ b, b < 16 → a ≠ b → (TX9 a).2.1 ≠ (TX9 b).2.1 := by decide +kernel
theorem tyX9_ok : ∀ k, k < 16 → parseFieldDescriptor (TX9 k).2.2.1 = some (tyX9 k) := by decide +kernel
abbrev cX9_init : ByteArray := prog_1_method_1_code
def yX9_init : MethodName := ⟨RX9, "<init>", "()V"⟩
abbrev cX9_feed : ByteArray := prog_1_method_2_code
def yX9_feed : MethodName := ⟨RX9, "feed", "(IIIII)I"⟩
abbrev cX9_end : ByteArray := prog_1_method_3_code
def yX9_end : MethodName := ⟨RX9, "end", "(I)I"⟩
abbrev cX9_tell : ByteArray := prog_1_method_4_code
def yX9_tell : MethodName := ⟨RX9, "tell", "()I"⟩
abbrev cX9_hire : ByteArray := prog_1_method_5_code
def yX9_hire : MethodName := ⟨RX9, "hire", "(II)I"⟩
abbrev cX9_sack : ByteArray := prog_1_method_6_code
def yX9_sack : MethodName := ⟨RX9, "sack", "(I)I"⟩
abbrev cX9_teach : ByteArray := prog_1_method_7_code
def yX9_teach : MethodName := ⟨RX9, "teach", "(IIII)I"⟩
abbrev cX9_praise : ByteArray := prog_1_method_8_code
def yX9_praise : MethodName := ⟨RX9, "praise", "(II)I"⟩
abbrev cX9_blame : ByteArray := prog_1_method_9_code
def yX9_blame : MethodName := ⟨RX9, "blame", "(II)I"⟩
abbrev cX9_order : ByteArray := prog_1_method_10_code
def yX9_order : MethodName := ⟨RX9, "order", "(II)I"⟩
abbrev cX9_day : ByteArray := prog_1_method_11_code
def yX9_day : MethodName := ⟨RX9, "day", "(I)I"⟩
abbrev cX9_store : ByteArray := prog_1_method_12_code
def yX9_store : MethodName := ⟨RX9, "store", "(II)I"⟩
abbrev cX9_die : ByteArray := prog_1_method_13_code
def yX9_die : MethodName := ⟨RX9, "die", "(I)I"⟩
abbrev cX9_see : ByteArray := prog_1_method_14_code
def yX9_see : MethodName := ⟨RX9, "see", "(I)I"⟩
abbrev cX9_forget : ByteArray := prog_1_method_15_code
def yX9_forget : MethodName := ⟨RX9, "forget", "()I"⟩
abbrev cX9_undo : ByteArray := prog_1_method_16_code
def yX9_undo : MethodName := ⟨RX9, "undo", "()I"⟩
abbrev cX9_keep : ByteArray := prog_1_method_17_code
def yX9_keep : MethodName := ⟨RX9, "keep", "(I)I"⟩
abbrev cX9_back : ByteArray := prog_1_method_18_code
def yX9_back : MethodName := ⟨RX9, "back", "(I)I"⟩
abbrev cX9_writer : ByteArray := prog_1_method_19_code
def yX9_writer : MethodName := ⟨RX9, "writer", "(II)I"⟩
abbrev cX9_page : ByteArray := prog_1_method_20_code
def yX9_page : MethodName := ⟨RX9, "page", "(II)I"⟩
abbrev cX9_line : ByteArray := prog_1_method_21_code
def yX9_line : MethodName := ⟨RX9, "line", "(III)I"⟩
abbrev cX9_trace : ByteArray := prog_1_method_22_code
def yX9_trace : MethodName := ⟨RX9, "trace", "(IIIII)I"⟩
abbrev cX9_own : ByteArray := prog_1_method_23_code
def yX9_own : MethodName := ⟨RX9, "own", "(III)I"⟩
abbrev cX9_pay : ByteArray := prog_1_method_24_code
def yX9_pay : MethodName := ⟨RX9, "pay", "(III)I"⟩
abbrev cX9_alike : ByteArray := prog_1_method_25_code
def yX9_alike : MethodName := ⟨RX9, "alike", "(II)I"⟩
abbrev cX9_fits : ByteArray := prog_1_method_26_code
def yX9_fits : MethodName := ⟨RX9, "fits", "(II)I"⟩
abbrev cX9_likeliest : ByteArray := prog_1_method_27_code
def yX9_likeliest : MethodName := ⟨RX9, "likeliest", "(II)I"⟩
abbrev cX9_matches : ByteArray := prog_1_method_28_code
def yX9_matches : MethodName := ⟨RX9, "matches", "(II)J"⟩
abbrev cX9_trees : ByteArray := prog_1_method_29_code
def yX9_trees : MethodName := ⟨RX9, "trees", "(II)J"⟩
abbrev cX9_under : ByteArray := prog_1_method_30_code
def yX9_under : MethodName := ⟨RX9, "under", "(III)I"⟩
abbrev cX9_breaks : ByteArray := prog_1_method_31_code
def yX9_breaks : MethodName := ⟨RX9, "breaks", "(III)I"⟩
abbrev cX9_untangle : ByteArray := prog_1_method_32_code
def yX9_untangle : MethodName := ⟨RX9, "untangle", "(IIII)J"⟩
abbrev cX9_tells : ByteArray := prog_1_method_33_code
def yX9_tells : MethodName := ⟨RX9, "tells", "(III)I"⟩
abbrev cX9_slips : ByteArray := prog_1_method_34_code
def yX9_slips : MethodName := ⟨RX9, "slips", "(IIIII)I"⟩
abbrev cX9_errors : ByteArray := prog_1_method_35_code
def yX9_errors : MethodName := ⟨RX9, "errors", "(III)I"⟩
abbrev cX9_nested : ByteArray := prog_1_method_36_code
def yX9_nested : MethodName := ⟨RX9, "nested", "(III)I"⟩
abbrev cX9_shared : ByteArray := prog_1_method_37_code
def yX9_shared : MethodName := ⟨RX9, "shared", "(II)I"⟩
abbrev cX9_quarrel : ByteArray := prog_1_method_38_code
def yX9_quarrel : MethodName := ⟨RX9, "quarrel", "(IIII)I"⟩
abbrev cX9_served : ByteArray := prog_1_method_39_code
def yX9_served : MethodName := ⟨RX9, "served", "(II)I"⟩
abbrev cX9_between : ByteArray := prog_1_method_40_code
def yX9_between : MethodName := ⟨RX9, "between", "(III)I"⟩
abbrev cX9_count : ByteArray := prog_1_method_41_code
def yX9_count : MethodName := ⟨RX9, "count", "(I)I"⟩
abbrev cX9_isSign : ByteArray := prog_1_method_42_code
def yX9_isSign : MethodName := ⟨RX9, "isSign", "(I)Z"⟩
abbrev cX9_isRow : ByteArray := prog_1_method_43_code
def yX9_isRow : MethodName := ⟨RX9, "isRow", "(I)Z"⟩
abbrev cX9_isGift : ByteArray := prog_1_method_44_code
def yX9_isGift : MethodName := ⟨RX9, "isGift", "(I)Z"⟩
abbrev cX9_isShelf : ByteArray := prog_1_method_45_code
def yX9_isShelf : MethodName := ⟨RX9, "isShelf", "(I)Z"⟩
abbrev cX9_isSetOfWriters : ByteArray := prog_1_method_46_code
def yX9_isSetOfWriters : MethodName := ⟨RX9, "isSetOfWriters", "(I)Z"⟩
abbrev cX9_remember : ByteArray := prog_1_method_47_code
def yX9_remember : MethodName := ⟨RX9, "remember", "()V"⟩
abbrev cX9_handsOf : ByteArray := prog_1_method_48_code
def yX9_handsOf : MethodName := ⟨RX9, "handsOf", "(I)I"⟩
abbrev cX9_lowestOf : ByteArray := prog_1_method_49_code
def yX9_lowestOf : MethodName := ⟨RX9, "lowestOf", "(I)I"⟩
abbrev cX9_mostHands : ByteArray := prog_1_method_50_code
def yX9_mostHands : MethodName := ⟨RX9, "mostHands", "()I"⟩
abbrev cX9_lineOf : ByteArray := prog_1_method_51_code
def yX9_lineOf : MethodName := ⟨RX9, "lineOf", "(III)I"⟩
abbrev cX9_lineAt : ByteArray := prog_1_method_52_code
def yX9_lineAt : MethodName := ⟨RX9, "lineAt", "(I)I"⟩
abbrev cX9_lacksLines : ByteArray := prog_1_method_53_code
def yX9_lacksLines : MethodName := ⟨RX9, "lacksLines", "(I)Z"⟩
abbrev cX9_followTrail : ByteArray := prog_1_method_54_code
def yX9_followTrail : MethodName := ⟨RX9, "followTrail", "(III)Z"⟩
abbrev cX9_passedUp : ByteArray := prog_1_method_55_code
def yX9_passedUp : MethodName := ⟨RX9, "passedUp", "(II)I"⟩
abbrev cX9_seenFitsWriters : ByteArray := prog_1_method_56_code
def yX9_seenFitsWriters : MethodName := ⟨RX9, "seenFitsWriters", "()Z"⟩
abbrev cX9_choicesBySeen : ByteArray := prog_1_method_57_code
def yX9_choicesBySeen : MethodName := ⟨RX9, "choicesBySeen", "(II)I"⟩
abbrev cX9_countWays : ByteArray := prog_1_method_58_code
def yX9_countWays : MethodName := ⟨RX9, "countWays", "(III)V"⟩
abbrev cX9_sendDown : ByteArray := prog_1_method_59_code
def yX9_sendDown : MethodName := ⟨RX9, "sendDown", "(I)I"⟩
def RX10 : String := "BorrowedHandsModel"
def TX10 : u_T := fun k => match k with
  | 0 => ("BorrowedHandsModel", "now", "[I", true)
  | 1 => ("BorrowedHandsModel", "heard", "[I", true)
  | 2 => ("BorrowedHandsModel", "past", "[I", true)
  | 3 => ("BorrowedHandsModel", "shelf", "[I", true)
  | 4 => ("BorrowedHandsModel", "isKept", "[Z", true)
  | 5 => ("BorrowedHandsModel", "pastMany", "I", false)
  | 6 => ("BorrowedHandsModel", "tape", "[B", true)
  | 7 => ("BorrowedHandsModel", "taped", "I", false)
  | 8 => ("BorrowedHandsModel", "at", "I", false)
  | 9 => ("BorrowedHandsModel", "fault", "I", false)
  | 10 => ("BorrowedHandsModel", "numberAt", "I", false)
  | 11 => ("BorrowedHandsModel", "hand", "[I", true)
  | 12 => ("BorrowedHandsModel", "lowest", "I", false)
  | 13 => ("BorrowedHandsModel", "mood", "[I", true)
  | 14 => ("BorrowedHandsModel", "comes", "[I", true)
  | 15 => ("BorrowedHandsModel", "changer", "[I", true)
  | 16 => ("BorrowedHandsModel", "wasComes", "[I", true)
  | 17 => ("BorrowedHandsModel", "wasChanger", "[I", true)
  | 18 => ("BorrowedHandsModel", "source", "[I", true)
  | 19 => ("BorrowedHandsModel", "wasSource", "[I", true)
  | 20 => ("BorrowedHandsModel", "firstSource", "[I", true)
  | 21 => ("BorrowedHandsModel", "stretchAt", "[I", true)
  | 22 => ("BorrowedHandsModel", "stretch", "[I", true)
  | 23 => ("BorrowedHandsModel", "ways", "[J", true)
  | 24 => ("BorrowedHandsModel", "apart", "[I", true)
  | 25 => ("BorrowedHandsModel", "slipMany", "I", false)
  | 26 => ("BorrowedHandsModel", "slipWriter", "I", false)
  | 27 => ("BorrowedHandsModel", "slipKind", "I", false)
  | 28 => ("BorrowedHandsModel", "slipA", "I", false)
  | 29 => ("BorrowedHandsModel", "slipB", "I", false)
  | 30 => ("BorrowedHandsModel", "error", "[I", true)
  | 31 => ("BorrowedHandsModel", "unlike", "[I", true)
  | _ => ("BorrowedHandsModel", "longest", "[I", true)
def tyX10 : Nat → FieldType := fun k => match k with
  | 0 => .array .int
  | 1 => .array .int
  | 2 => .array .int
  | 3 => .array .int
  | 4 => .array .boolean
  | 5 => .int
  | 6 => .array .byte
  | 7 => .int
  | 8 => .int
  | 9 => .int
  | 10 => .int
  | 11 => .array .int
  | 12 => .int
  | 13 => .array .int
  | 14 => .array .int
  | 15 => .array .int
  | 16 => .array .int
  | 17 => .array .int
  | 18 => .array .int
  | 19 => .array .int
  | 20 => .array .int
  | 21 => .array .int
  | 22 => .array .int
  | 23 => .array .long
  | 24 => .array .int
  | 25 => .int
  | 26 => .int
  | 27 => .int
  | 28 => .int
  | 29 => .int
  | 30 => .array .int
  | 31 => .array .int
  | _ => .array .int
theorem nmX10 : ∀ a, a < 33 → ∀ b, b < 33 → a ≠ b → (TX10 a).2.1 ≠ (TX10 b).2.1 := by decide +kernel
theorem tyX10_ok : ∀ k, k < 33 → parseFieldDescriptor (TX10 k).2.2.1 = some (tyX10 k) := by decide +kernel
abbrev cX10_init : ByteArray := prog_12_method_1_code
def yX10_init : MethodName := ⟨RX10, "<init>", "()V"⟩
abbrev cX10_in : ByteArray := prog_12_method_2_code
def yX10_in : MethodName := ⟨RX10, "in", "(JJJ)Z"⟩
abbrev cX10_truth : ByteArray := prog_12_method_3_code
def yX10_truth : MethodName := ⟨RX10, "truth", "(Z)I"⟩
abbrev cX10_has : ByteArray := prog_12_method_4_code
def yX10_has : MethodName := ⟨RX10, "has", "(II)Z"⟩
abbrev cX10_moves : ByteArray := prog_12_method_5_code
def yX10_moves : MethodName := ⟨RX10, "moves", "([II[II)V"⟩
abbrev cX10_feed : ByteArray := prog_12_method_6_code
def yX10_feed : MethodName := ⟨RX10, "feed", "(IIIII)I"⟩
abbrev cX10_puts : ByteArray := prog_12_method_7_code
def yX10_puts : MethodName := ⟨RX10, "puts", "(I)V"⟩
abbrev cX10_end : ByteArray := prog_12_method_8_code
def yX10_end : MethodName := ⟨RX10, "end", "(I)I"⟩
abbrev cX10_sign : ByteArray := prog_12_method_9_code
def yX10_sign : MethodName := ⟨RX10, "sign", "()I"⟩
abbrev cX10_next : ByteArray := prog_12_method_10_code
def yX10_next : MethodName := ⟨RX10, "next", "()I"⟩
abbrev cX10_isRight : ByteArray := prog_12_method_11_code
def yX10_isRight : MethodName := ⟨RX10, "isRight", "()Z"⟩
abbrev cX10_fails : ByteArray := prog_12_method_12_code
def yX10_fails : MethodName := ⟨RX10, "fails", "(II)V"⟩
abbrev cX10_isDigit : ByteArray := prog_12_method_13_code
def yX10_isDigit : MethodName := ⟨RX10, "isDigit", "()Z"⟩
abbrev cX10_number : ByteArray := prog_12_method_14_code
def yX10_number : MethodName := ⟨RX10, "number", "(II)I"⟩
abbrev cX10_isWord : ByteArray := prog_12_method_15_code
def yX10_isWord : MethodName := ⟨RX10, "isWord", "(Ljava/lang/String;)Z"⟩
abbrev cX10_takes : ByteArray := prog_12_method_16_code
def yX10_takes : MethodName := ⟨RX10, "takes", "(Ljava/lang/String;)Z"⟩
abbrev cX10_kindTold : ByteArray := prog_12_method_17_code
def yX10_kindTold : MethodName := ⟨RX10, "kindTold", "()I"⟩
abbrev cX10_needs : ByteArray := prog_12_method_18_code
def yX10_needs : MethodName := ⟨RX10, "needs", "(I)I"⟩
abbrev cX10_readsHabit : ByteArray := prog_12_method_19_code
def yX10_readsHabit : MethodName := ⟨RX10, "readsHabit", "(I)V"⟩
abbrev cX10_readsWriter : ByteArray := prog_12_method_20_code
def yX10_readsWriter : MethodName := ⟨RX10, "readsWriter", "(I)V"⟩
abbrev cX10_readsBook : ByteArray := prog_12_method_21_code
def yX10_readsBook : MethodName := ⟨RX10, "readsBook", "(I)V"⟩
abbrev cX10_readsPart : ByteArray := prog_12_method_22_code
def yX10_readsPart : MethodName := ⟨RX10, "readsPart", "()V"⟩
abbrev cX10_tell : ByteArray := prog_12_method_23_code
def yX10_tell : MethodName := ⟨RX10, "tell", "()I"⟩
abbrev cX10_isWriter : ByteArray := prog_12_method_24_code
def yX10_isWriter : MethodName := ⟨RX10, "isWriter", "(I)Z"⟩
abbrev cX10_of : ByteArray := prog_12_method_25_code
def yX10_of : MethodName := ⟨RX10, "of", "(II)I"⟩
abbrev cX10_puts_ : ByteArray := prog_12_method_26_code
def yX10_puts_ : MethodName := ⟨RX10, "puts", "(III)V"⟩
abbrev cX10_under : ByteArray := prog_12_method_27_code
def yX10_under : MethodName := ⟨RX10, "under", "(I)I"⟩
abbrev cX10_isDead : ByteArray := prog_12_method_28_code
def yX10_isDead : MethodName := ⟨RX10, "isDead", "(I)Z"⟩
abbrev cX10_isBook : ByteArray := prog_12_method_29_code
def yX10_isBook : MethodName := ⟨RX10, "isBook", "(I)Z"⟩
abbrev cX10_pagesOf : ByteArray := prog_12_method_30_code
def yX10_pagesOf : MethodName := ⟨RX10, "pagesOf", "(I)I"⟩
abbrev cX10_isPage : ByteArray := prog_12_method_31_code
def yX10_isPage : MethodName := ⟨RX10, "isPage", "(II)Z"⟩
abbrev cX10_pageOf : ByteArray := prog_12_method_32_code
def yX10_pageOf : MethodName := ⟨RX10, "pageOf", "(II)I"⟩
abbrev cX10_hasStock : ByteArray := prog_12_method_33_code
def yX10_hasStock : MethodName := ⟨RX10, "hasStock", "(II)Z"⟩
abbrev cX10_stockAt : ByteArray := prog_12_method_34_code
def yX10_stockAt : MethodName := ⟨RX10, "stockAt", "(III)I"⟩
abbrev cX10_hands : ByteArray := prog_12_method_35_code
def yX10_hands : MethodName := ⟨RX10, "hands", "(I)I"⟩
abbrev cX10_handsSet : ByteArray := prog_12_method_36_code
def yX10_handsSet : MethodName := ⟨RX10, "handsSet", "(I)I"⟩
abbrev cX10_done : ByteArray := prog_12_method_37_code
def yX10_done : MethodName := ⟨RX10, "done", "(IIII)I"⟩
abbrev cX10_with : ByteArray := prog_12_method_38_code
def yX10_with : MethodName := ⟨RX10, "with", "(III)I"⟩
abbrev cX10_habit : ByteArray := prog_12_method_39_code
def yX10_habit : MethodName := ⟨RX10, "habit", "(II)I"⟩
abbrev cX10_passes : ByteArray := prog_12_method_40_code
def yX10_passes : MethodName := ⟨RX10, "passes", "(II)I"⟩
abbrev cX10_lineOf : ByteArray := prog_12_method_41_code
def yX10_lineOf : MethodName := ⟨RX10, "lineOf", "(III)I"⟩
abbrev cX10_isAnyDead : ByteArray := prog_12_method_42_code
def yX10_isAnyDead : MethodName := ⟨RX10, "isAnyDead", "(I)Z"⟩
abbrev cX10_keepsPast : ByteArray := prog_12_method_43_code
def yX10_keepsPast : MethodName := ⟨RX10, "keepsPast", "()V"⟩
abbrev cX10_undo : ByteArray := prog_12_method_44_code
def yX10_undo : MethodName := ⟨RX10, "undo", "()I"⟩
abbrev cX10_keep : ByteArray := prog_12_method_45_code
def yX10_keep : MethodName := ⟨RX10, "keep", "(I)I"⟩
abbrev cX10_back : ByteArray := prog_12_method_46_code
def yX10_back : MethodName := ⟨RX10, "back", "(I)I"⟩
abbrev cX10_hire : ByteArray := prog_12_method_47_code
def yX10_hire : MethodName := ⟨RX10, "hire", "(II)I"⟩
abbrev cX10_sack : ByteArray := prog_12_method_48_code
def yX10_sack : MethodName := ⟨RX10, "sack", "(I)I"⟩
abbrev cX10_isHabit : ByteArray := prog_12_method_49_code
def yX10_isHabit : MethodName := ⟨RX10, "isHabit", "(III)Z"⟩
abbrev cX10_hasHabit : ByteArray := prog_12_method_50_code
def yX10_hasHabit : MethodName := ⟨RX10, "hasHabit", "(IIII)Z"⟩
abbrev cX10_learns : ByteArray := prog_12_method_51_code
def yX10_learns : MethodName := ⟨RX10, "learns", "(IIII)V"⟩
abbrev cX10_teach : ByteArray := prog_12_method_52_code
def yX10_teach : MethodName := ⟨RX10, "teach", "(IIII)I"⟩
abbrev cX10_goesDown : ByteArray := prog_12_method_53_code
def yX10_goesDown : MethodName := ⟨RX10, "goesDown", "(IIIZ)I"⟩
abbrev cX10_praise : ByteArray := prog_12_method_54_code
def yX10_praise : MethodName := ⟨RX10, "praise", "(II)I"⟩
abbrev cX10_blame : ByteArray := prog_12_method_55_code
def yX10_blame : MethodName := ⟨RX10, "blame", "(II)I"⟩
abbrev cX10_order : ByteArray := prog_12_method_56_code
def yX10_order : MethodName := ⟨RX10, "order", "(II)I"⟩
abbrev cX10_day : ByteArray := prog_12_method_57_code
def yX10_day : MethodName := ⟨RX10, "day", "(I)I"⟩
abbrev cX10_moods : ByteArray := prog_12_method_58_code
def yX10_moods : MethodName := ⟨RX10, "moods", "()I"⟩
abbrev cX10_hasAll : ByteArray := prog_12_method_59_code
def yX10_hasAll : MethodName := ⟨RX10, "hasAll", "(II)Z"⟩
abbrev cX10_store : ByteArray := prog_12_method_60_code
def yX10_store : MethodName := ⟨RX10, "store", "(II)I"⟩
abbrev cX10_die : ByteArray := prog_12_method_61_code
def yX10_die : MethodName := ⟨RX10, "die", "(I)I"⟩
abbrev cX10_see : ByteArray := prog_12_method_62_code
def yX10_see : MethodName := ⟨RX10, "see", "(I)I"⟩
abbrev cX10_forget : ByteArray := prog_12_method_63_code
def yX10_forget : MethodName := ⟨RX10, "forget", "()I"⟩
abbrev cX10_overWhom : ByteArray := prog_12_method_64_code
def yX10_overWhom : MethodName := ⟨RX10, "overWhom", "(I)I"⟩
abbrev cX10_writer : ByteArray := prog_12_method_65_code
def yX10_writer : MethodName := ⟨RX10, "writer", "(II)I"⟩
abbrev cX10_page : ByteArray := prog_12_method_66_code
def yX10_page : MethodName := ⟨RX10, "page", "(II)I"⟩
abbrev cX10_line : ByteArray := prog_12_method_67_code
def yX10_line : MethodName := ⟨RX10, "line", "(III)I"⟩
abbrev cX10_brings : ByteArray := prog_12_method_68_code
def yX10_brings : MethodName := ⟨RX10, "brings", "(II)V"⟩
abbrev cX10_traces : ByteArray := prog_12_method_69_code
def yX10_traces : MethodName := ⟨RX10, "traces", "(III)V"⟩
abbrev cX10_laysTrace : ByteArray := prog_12_method_70_code
def yX10_laysTrace : MethodName := ⟨RX10, "laysTrace", "(III)V"⟩
abbrev cX10_trace : ByteArray := prog_12_method_71_code
def yX10_trace : MethodName := ⟨RX10, "trace", "(IIIII)I"⟩
abbrev cX10_own : ByteArray := prog_12_method_72_code
def yX10_own : MethodName := ⟨RX10, "own", "(III)I"⟩
abbrev cX10_pay : ByteArray := prog_12_method_73_code
def yX10_pay : MethodName := ⟨RX10, "pay", "(III)I"⟩
abbrev cX10_laysSource : ByteArray := prog_12_method_74_code
def yX10_laysSource : MethodName := ⟨RX10, "laysSource", "(I)V"⟩
abbrev cX10_leads : ByteArray := prog_12_method_75_code
def yX10_leads : MethodName := ⟨RX10, "leads", "(III)V"⟩
abbrev cX10_alike : ByteArray := prog_12_method_76_code
def yX10_alike : MethodName := ⟨RX10, "alike", "(II)I"⟩
abbrev cX10_fits : ByteArray := prog_12_method_77_code
def yX10_fits : MethodName := ⟨RX10, "fits", "(II)I"⟩
abbrev cX10_likeliest : ByteArray := prog_12_method_78_code
def yX10_likeliest : MethodName := ⟨RX10, "likeliest", "(II)I"⟩
abbrev cX10_matches : ByteArray := prog_12_method_79_code
def yX10_matches : MethodName := ⟨RX10, "matches", "(II)J"⟩
abbrev cX10_seen : ByteArray := prog_12_method_80_code
def yX10_seen : MethodName := ⟨RX10, "seen", "(I)I"⟩
abbrev cX10_canTree : ByteArray := prog_12_method_81_code
def yX10_canTree : MethodName := ⟨RX10, "canTree", "(II)Z"⟩
abbrev cX10_choices : ByteArray := prog_12_method_82_code
def yX10_choices : MethodName := ⟨RX10, "choices", "(III)I"⟩
abbrev cX10_trees : ByteArray := prog_12_method_83_code
def yX10_trees : MethodName := ⟨RX10, "trees", "(II)J"⟩
abbrev cX10_under_ : ByteArray := prog_12_method_84_code
def yX10_under_ : MethodName := ⟨RX10, "under", "(III)I"⟩
abbrev cX10_couldBe : ByteArray := prog_12_method_85_code
def yX10_couldBe : MethodName := ⟨RX10, "couldBe", "(III)I"⟩
abbrev cX10_stretches : ByteArray := prog_12_method_86_code
def yX10_stretches : MethodName := ⟨RX10, "stretches", "(II)I"⟩
abbrev cX10_canBreak : ByteArray := prog_12_method_87_code
def yX10_canBreak : MethodName := ⟨RX10, "canBreak", "(II)Z"⟩
abbrev cX10_breaks : ByteArray := prog_12_method_88_code
def yX10_breaks : MethodName := ⟨RX10, "breaks", "(III)I"⟩
abbrev cX10_between : ByteArray := prog_12_method_89_code
def yX10_between : MethodName := ⟨RX10, "between", "(III)I"⟩
abbrev cX10_untangle : ByteArray := prog_12_method_90_code
def yX10_untangle : MethodName := ⟨RX10, "untangle", "(IIII)J"⟩
abbrev cX10_isSet : ByteArray := prog_12_method_91_code
def yX10_isSet : MethodName := ⟨RX10, "isSet", "(I)Z"⟩
abbrev cX10_unlikeOn : ByteArray := prog_12_method_92_code
def yX10_unlikeOn : MethodName := ⟨RX10, "unlikeOn", "(III)I"⟩
abbrev cX10_laysApart : ByteArray := prog_12_method_93_code
def yX10_laysApart : MethodName := ⟨RX10, "laysApart", "(II)I"⟩
abbrev cX10_tells : ByteArray := prog_12_method_94_code
def yX10_tells : MethodName := ⟨RX10, "tells", "(III)I"⟩
abbrev cX10_lineWith : ByteArray := prog_12_method_95_code
def yX10_lineWith : MethodName := ⟨RX10, "lineWith", "(IIIIII)I"⟩
abbrev cX10_slipsBy : ByteArray := prog_12_method_96_code
def yX10_slipsBy : MethodName := ⟨RX10, "slipsBy", "(IIIII)V"⟩
abbrev cX10_slips : ByteArray := prog_12_method_97_code
def yX10_slips : MethodName := ⟨RX10, "slips", "(IIIII)I"⟩
abbrev cX10_errorsOf : ByteArray := prog_12_method_98_code
def yX10_errorsOf : MethodName := ⟨RX10, "errorsOf", "(III)I"⟩
abbrev cX10_errors : ByteArray := prog_12_method_99_code
def yX10_errors : MethodName := ⟨RX10, "errors", "(III)I"⟩
abbrev cX10_isWithin : ByteArray := prog_12_method_100_code
def yX10_isWithin : MethodName := ⟨RX10, "isWithin", "(II)Z"⟩
abbrev cX10_clashes : ByteArray := prog_12_method_101_code
def yX10_clashes : MethodName := ⟨RX10, "clashes", "()I"⟩
abbrev cX10_laysUnlike : ByteArray := prog_12_method_102_code
def yX10_laysUnlike : MethodName := ⟨RX10, "laysUnlike", "()I"⟩
abbrev cX10_longestRow : ByteArray := prog_12_method_103_code
def yX10_longestRow : MethodName := ⟨RX10, "longestRow", "(I)I"⟩
abbrev cX10_nested : ByteArray := prog_12_method_104_code
def yX10_nested : MethodName := ⟨RX10, "nested", "(III)I"⟩
abbrev cX10_shared : ByteArray := prog_12_method_105_code
def yX10_shared : MethodName := ⟨RX10, "shared", "(II)I"⟩
abbrev cX10_quarrel : ByteArray := prog_12_method_106_code
def yX10_quarrel : MethodName := ⟨RX10, "quarrel", "(IIII)I"⟩
abbrev cX10_makes : ByteArray := prog_12_method_107_code
def yX10_makes : MethodName := ⟨RX10, "makes", "(III)I"⟩
abbrev cX10_served : ByteArray := prog_12_method_108_code
def yX10_served : MethodName := ⟨RX10, "served", "(II)I"⟩
abbrev cX10_sumOf : ByteArray := prog_12_method_109_code
def yX10_sumOf : MethodName := ⟨RX10, "sumOf", "(I)I"⟩
abbrev cX10_pagesOfAll : ByteArray := prog_12_method_110_code
def yX10_pagesOfAll : MethodName := ⟨RX10, "pagesOfAll", "()I"⟩
abbrev cX10_alone : ByteArray := prog_12_method_111_code
def yX10_alone : MethodName := ⟨RX10, "alone", "()I"⟩
abbrev cX10_mostHands : ByteArray := prog_12_method_112_code
def yX10_mostHands : MethodName := ⟨RX10, "mostHands", "()I"⟩
abbrev cX10_deadOnes : ByteArray := prog_12_method_113_code
def yX10_deadOnes : MethodName := ⟨RX10, "deadOnes", "()I"⟩
abbrev cX10_count : ByteArray := prog_12_method_114_code
def yX10_count : MethodName := ⟨RX10, "count", "(I)I"⟩
def RJ6 : String := "java/lang/Integer"
abbrev cJ6_bitCount_0f7a4 : ByteArray := prog_13_method_49_code
def yJ6_bitCount_0f7a4 : MethodName := ⟨RJ6, "bitCount", "(I)I"⟩
def RJ9 : String := "java/lang/Math"
abbrev cJ9_max_7cf53 : ByteArray := prog_14_method_65_code
def yJ9_max_7cf53 : MethodName := ⟨RJ9, "max", "(II)I"⟩
abbrev cJ9_min_7cf53 : ByteArray := prog_14_method_69_code
def yJ9_min_7cf53 : MethodName := ⟨RJ9, "min", "(II)I"⟩
def RJ0 : String := "java/lang/String"
abbrev cJ0_length_8abf5 : ByteArray := prog_15_method_54_code
def yJ0_length_8abf5 : MethodName := ⟨RJ0, "length", "()I"⟩
abbrev cJ0_charAt_5068e : ByteArray := prog_15_method_56_code
def yJ0_charAt_5068e : MethodName := ⟨RJ0, "charAt", "(I)C"⟩
abbrev cJ0_coder_7d493 : ByteArray := prog_15_method_152_code
def yJ0_coder_7d493 : MethodName := ⟨RJ0, "coder", "()B"⟩
abbrev cJ0_isLatin1_aae02 : ByteArray := prog_15_method_154_code
def yJ0_isLatin1_aae02 : MethodName := ⟨RJ0, "isLatin1", "()Z"⟩
abbrev cJ0_checkIndex_df160 : ByteArray := prog_15_method_155_code
def yJ0_checkIndex_df160 : MethodName := ⟨RJ0, "checkIndex", "(II)V"⟩
def RJ1 : String := "java/lang/StringLatin1"
abbrev cJ1_charAt_3b067 : ByteArray := prog_16_method_2_code
def yJ1_charAt_3b067 : MethodName := ⟨RJ1, "charAt", "([BI)C"⟩
def RJ2 : String := "java/lang/StringUTF16"
abbrev cJ2_getChar_3b067 : ByteArray := prog_17_method_5_code
def yJ2_getChar_3b067 : MethodName := ⟨RJ2, "getChar", "([BI)C"⟩
abbrev cJ2_length_9d52b : ByteArray := prog_17_method_6_code
def yJ2_length_9d52b : MethodName := ⟨RJ2, "length", "([B)I"⟩
abbrev cJ2_charAt_3b067 : ByteArray := prog_17_method_83_code
def yJ2_charAt_3b067 : MethodName := ⟨RJ2, "charAt", "([BI)C"⟩
abbrev cJ2_checkIndex_2214a : ByteArray := prog_17_method_91_code
def yJ2_checkIndex_2214a : MethodName := ⟨RJ2, "checkIndex", "(I[B)V"⟩
def RJ10 : String := "java/lang/System"
def RJ3 : String := "jdk/internal/util/Preconditions"
abbrev cJ3_checkIndex_8e157 : ByteArray := prog_19_method_11_code
def yJ3_checkIndex_8e157 : MethodName := ⟨RJ3, "checkIndex", "(IILjava/util/function/BiFunction;)I"⟩
def RL : String := "BorrowedHandsLaw"
