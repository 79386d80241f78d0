section
-- ===== PART A: goes FIRST, ahead of the names: the tables' words, and 'selects' of the private methods out of them =====
/-- a private method of a class that the tables say can be made, by its rows of tables_1 -/
def lw_okq (q : MethodName × Nat) : Prop := (q.1.cls ≠ "java/lang/invoke/MethodHandle" ∧ q.1.cls ≠ "java/lang/invoke/VarHandle") ∧ Cond.instantiable q.1.cls q.2 ∈ tables_1 ∧ Cond.privateMethod q.1 ∈ tables_1 ∧ Cond.instanceMethod q.1 ∈ tables_1
theorem lw_p0 : lw_okq (⟨"BorrowedHands$Tape", "skipBlanks", "()V"⟩, 5) := ⟨⟨by decide +kernel, by decide +kernel⟩, List.mem_of_getElem? (i := 126) (by decide +kernel), List.mem_of_getElem? (i := 343) (by decide +kernel), List.mem_of_getElem? (i := 344) (by decide +kernel)⟩
theorem lw_p1 : lw_okq (⟨"BorrowedHands$Tape", "readPart", "(LBorrowedHands$Town;)Z"⟩, 5) := ⟨⟨by decide +kernel, by decide +kernel⟩, List.mem_of_getElem? (i := 126) (by decide +kernel), List.mem_of_getElem? (i := 347) (by decide +kernel), List.mem_of_getElem? (i := 348) (by decide +kernel)⟩
theorem lw_p2 : lw_okq (⟨"BorrowedHands$Tape", "readWord", "()V"⟩, 5) := ⟨⟨by decide +kernel, by decide +kernel⟩, List.mem_of_getElem? (i := 126) (by decide +kernel), List.mem_of_getElem? (i := 351) (by decide +kernel), List.mem_of_getElem? (i := 352) (by decide +kernel)⟩
theorem lw_p3 : lw_okq (⟨"BorrowedHands$Tape", "wordIs", "(Ljava/lang/String;)Z"⟩, 5) := ⟨⟨by decide +kernel, by decide +kernel⟩, List.mem_of_getElem? (i := 126) (by decide +kernel), List.mem_of_getElem? (i := 359) (by decide +kernel), List.mem_of_getElem? (i := 360) (by decide +kernel)⟩
theorem lw_p4 : lw_okq (⟨"BorrowedHands$Tape", "readWriter", "(LBorrowedHands$Town;)Z"⟩, 5) := ⟨⟨by decide +kernel, by decide +kernel⟩, List.mem_of_getElem? (i := 126) (by decide +kernel), List.mem_of_getElem? (i := 411) (by decide +kernel), List.mem_of_getElem? (i := 412) (by decide +kernel)⟩
theorem lw_p5 : lw_okq (⟨"BorrowedHands$Tape", "readNumber", "(II)I"⟩, 5) := ⟨⟨by decide +kernel, by decide +kernel⟩, List.mem_of_getElem? (i := 126) (by decide +kernel), List.mem_of_getElem? (i := 415) (by decide +kernel), List.mem_of_getElem? (i := 416) (by decide +kernel)⟩
theorem lw_p6 : lw_okq (⟨"BorrowedHands$Tape", "refuse", "(II)Z"⟩, 5) := ⟨⟨by decide +kernel, by decide +kernel⟩, List.mem_of_getElem? (i := 126) (by decide +kernel), List.mem_of_getElem? (i := 426) (by decide +kernel), List.mem_of_getElem? (i := 427) (by decide +kernel)⟩
theorem lw_p7 : lw_okq (⟨"BorrowedHands$Tape", "readHabit", "(LBorrowedHands$Town;I)Z"⟩, 5) := ⟨⟨by decide +kernel, by decide +kernel⟩, List.mem_of_getElem? (i := 126) (by decide +kernel), List.mem_of_getElem? (i := 438) (by decide +kernel), List.mem_of_getElem? (i := 439) (by decide +kernel)⟩
theorem lw_p8 : lw_okq (⟨"BorrowedHands$Tape", "kindOfWord", "()I"⟩, 5) := ⟨⟨by decide +kernel, by decide +kernel⟩, List.mem_of_getElem? (i := 126) (by decide +kernel), List.mem_of_getElem? (i := 442) (by decide +kernel), List.mem_of_getElem? (i := 443) (by decide +kernel)⟩
theorem lw_p9 : lw_okq (⟨"BorrowedHands$Tape", "readUnder", "(LBorrowedHands$Town;I)Z"⟩, 5) := ⟨⟨by decide +kernel, by decide +kernel⟩, List.mem_of_getElem? (i := 126) (by decide +kernel), List.mem_of_getElem? (i := 460) (by decide +kernel), List.mem_of_getElem? (i := 461) (by decide +kernel)⟩
theorem lw_p10 : lw_okq (⟨"BorrowedHands$Tape", "readBook", "(LBorrowedHands$Town;)Z"⟩, 5) := ⟨⟨by decide +kernel, by decide +kernel⟩, List.mem_of_getElem? (i := 126) (by decide +kernel), List.mem_of_getElem? (i := 466) (by decide +kernel), List.mem_of_getElem? (i := 467) (by decide +kernel)⟩
theorem lw_p11 : lw_okq (⟨"BorrowedHands$Tape", "readSemicolon", "()Z"⟩, 5) := ⟨⟨by decide +kernel, by decide +kernel⟩, List.mem_of_getElem? (i := 126) (by decide +kernel), List.mem_of_getElem? (i := 479) (by decide +kernel), List.mem_of_getElem? (i := 480) (by decide +kernel)⟩
theorem lw_p12 : lw_okq (⟨"BorrowedHands", "remember", "()V"⟩, 16) := ⟨⟨by decide +kernel, by decide +kernel⟩, List.mem_of_getElem? (i := 20) (by decide +kernel), List.mem_of_getElem? (i := 507) (by decide +kernel), List.mem_of_getElem? (i := 508) (by decide +kernel)⟩
theorem lw_p13 : lw_okq (⟨"BorrowedHands", "handsOf", "(I)I"⟩, 16) := ⟨⟨by decide +kernel, by decide +kernel⟩, List.mem_of_getElem? (i := 20) (by decide +kernel), List.mem_of_getElem? (i := 512) (by decide +kernel), List.mem_of_getElem? (i := 513) (by decide +kernel)⟩
theorem lw_p14 : lw_okq (⟨"BorrowedHands$Hands", "listUntilDead", "(LBorrowedHands$Town;II)I"⟩, 2) := ⟨⟨by decide +kernel, by decide +kernel⟩, List.mem_of_getElem? (i := 150) (by decide +kernel), List.mem_of_getElem? (i := 520) (by decide +kernel), List.mem_of_getElem? (i := 521) (by decide +kernel)⟩
theorem lw_p15 : lw_okq (⟨"BorrowedHands", "lineOf", "(III)I"⟩, 16) := ⟨⟨by decide +kernel, by decide +kernel⟩, List.mem_of_getElem? (i := 20) (by decide +kernel), List.mem_of_getElem? (i := 577) (by decide +kernel), List.mem_of_getElem? (i := 578) (by decide +kernel)⟩
def lw_privs_1 : List (MethodName × Nat) := [(⟨"BorrowedHands$Tape", "skipBlanks", "()V"⟩, 5), (⟨"BorrowedHands$Tape", "readPart", "(LBorrowedHands$Town;)Z"⟩, 5), (⟨"BorrowedHands$Tape", "readWord", "()V"⟩, 5), (⟨"BorrowedHands$Tape", "wordIs", "(Ljava/lang/String;)Z"⟩, 5), (⟨"BorrowedHands$Tape", "readWriter", "(LBorrowedHands$Town;)Z"⟩, 5), (⟨"BorrowedHands$Tape", "readNumber", "(II)I"⟩, 5), (⟨"BorrowedHands$Tape", "refuse", "(II)Z"⟩, 5), (⟨"BorrowedHands$Tape", "readHabit", "(LBorrowedHands$Town;I)Z"⟩, 5), (⟨"BorrowedHands$Tape", "kindOfWord", "()I"⟩, 5), (⟨"BorrowedHands$Tape", "readUnder", "(LBorrowedHands$Town;I)Z"⟩, 5), (⟨"BorrowedHands$Tape", "readBook", "(LBorrowedHands$Town;)Z"⟩, 5), (⟨"BorrowedHands$Tape", "readSemicolon", "()Z"⟩, 5), (⟨"BorrowedHands", "remember", "()V"⟩, 16), (⟨"BorrowedHands", "handsOf", "(I)I"⟩, 16), (⟨"BorrowedHands$Hands", "listUntilDead", "(LBorrowedHands$Town;II)I"⟩, 2), (⟨"BorrowedHands", "lineOf", "(III)I"⟩, 16)]
theorem lw_r1 : ∀ q ∈ lw_privs_1, lw_okq q := List.forall_mem_cons.mpr ⟨lw_p0, List.forall_mem_cons.mpr ⟨lw_p1, List.forall_mem_cons.mpr ⟨lw_p2, List.forall_mem_cons.mpr ⟨lw_p3, List.forall_mem_cons.mpr ⟨lw_p4, List.forall_mem_cons.mpr ⟨lw_p5, List.forall_mem_cons.mpr ⟨lw_p6, List.forall_mem_cons.mpr ⟨lw_p7, List.forall_mem_cons.mpr ⟨lw_p8, List.forall_mem_cons.mpr ⟨lw_p9, List.forall_mem_cons.mpr ⟨lw_p10, List.forall_mem_cons.mpr ⟨lw_p11, List.forall_mem_cons.mpr ⟨lw_p12, List.forall_mem_cons.mpr ⟨lw_p13, List.forall_mem_cons.mpr ⟨lw_p14, List.forall_mem_cons.mpr ⟨lw_p15, fun _ h => absurd h List.not_mem_nil⟩⟩⟩⟩⟩⟩⟩⟩⟩⟩⟩⟩⟩⟩⟩⟩
theorem lw_p16 : lw_okq (⟨"BorrowedHands", "lacksLines", "(I)Z"⟩, 16) := ⟨⟨by decide +kernel, by decide +kernel⟩, List.mem_of_getElem? (i := 20) (by decide +kernel), List.mem_of_getElem? (i := 614) (by decide +kernel), List.mem_of_getElem? (i := 615) (by decide +kernel)⟩
theorem lw_p17 : lw_okq (⟨"BorrowedHands", "lowestOf", "(I)I"⟩, 16) := ⟨⟨by decide +kernel, by decide +kernel⟩, List.mem_of_getElem? (i := 20) (by decide +kernel), List.mem_of_getElem? (i := 656) (by decide +kernel), List.mem_of_getElem? (i := 657) (by decide +kernel)⟩
theorem lw_p18 : lw_okq (⟨"BorrowedHands", "followTrail", "(III)Z"⟩, 16) := ⟨⟨by decide +kernel, by decide +kernel⟩, List.mem_of_getElem? (i := 20) (by decide +kernel), List.mem_of_getElem? (i := 687) (by decide +kernel), List.mem_of_getElem? (i := 688) (by decide +kernel)⟩
theorem lw_p19 : lw_okq (⟨"BorrowedHands$Trail", "step", "(LBorrowedHands$Town;II)V"⟩, 3) := ⟨⟨by decide +kernel, by decide +kernel⟩, List.mem_of_getElem? (i := 169) (by decide +kernel), List.mem_of_getElem? (i := 704) (by decide +kernel), List.mem_of_getElem? (i := 705) (by decide +kernel)⟩
theorem lw_p20 : lw_okq (⟨"BorrowedHands$Trail", "put", "(IIIZ)V"⟩, 3) := ⟨⟨by decide +kernel, by decide +kernel⟩, List.mem_of_getElem? (i := 169) (by decide +kernel), List.mem_of_getElem? (i := 711) (by decide +kernel), List.mem_of_getElem? (i := 712) (by decide +kernel)⟩
theorem lw_p21 : lw_okq (⟨"BorrowedHands$Trail", "turn", "([II)V"⟩, 3) := ⟨⟨by decide +kernel, by decide +kernel⟩, List.mem_of_getElem? (i := 169) (by decide +kernel), List.mem_of_getElem? (i := 715) (by decide +kernel), List.mem_of_getElem? (i := 716) (by decide +kernel)⟩
theorem lw_p22 : lw_okq (⟨"BorrowedHands", "passedUp", "(II)I"⟩, 16) := ⟨⟨by decide +kernel, by decide +kernel⟩, List.mem_of_getElem? (i := 20) (by decide +kernel), List.mem_of_getElem? (i := 750) (by decide +kernel), List.mem_of_getElem? (i := 751) (by decide +kernel)⟩
theorem lw_p23 : lw_okq (⟨"BorrowedHands", "lineAt", "(I)I"⟩, 16) := ⟨⟨by decide +kernel, by decide +kernel⟩, List.mem_of_getElem? (i := 20) (by decide +kernel), List.mem_of_getElem? (i := 759) (by decide +kernel), List.mem_of_getElem? (i := 760) (by decide +kernel)⟩
theorem lw_p24 : lw_okq (⟨"BorrowedHands", "seenFitsWriters", "()Z"⟩, 16) := ⟨⟨by decide +kernel, by decide +kernel⟩, List.mem_of_getElem? (i := 20) (by decide +kernel), List.mem_of_getElem? (i := 776) (by decide +kernel), List.mem_of_getElem? (i := 777) (by decide +kernel)⟩
theorem lw_p25 : lw_okq (⟨"BorrowedHands", "choicesBySeen", "(II)I"⟩, 16) := ⟨⟨by decide +kernel, by decide +kernel⟩, List.mem_of_getElem? (i := 20) (by decide +kernel), List.mem_of_getElem? (i := 780) (by decide +kernel), List.mem_of_getElem? (i := 781) (by decide +kernel)⟩
theorem lw_p26 : lw_okq (⟨"BorrowedHands", "countWays", "(III)V"⟩, 16) := ⟨⟨by decide +kernel, by decide +kernel⟩, List.mem_of_getElem? (i := 20) (by decide +kernel), List.mem_of_getElem? (i := 811) (by decide +kernel), List.mem_of_getElem? (i := 812) (by decide +kernel)⟩
theorem lw_p27 : lw_okq (⟨"BorrowedHands", "isSetOfWriters", "(I)Z"⟩, 16) := ⟨⟨by decide +kernel, by decide +kernel⟩, List.mem_of_getElem? (i := 20) (by decide +kernel), List.mem_of_getElem? (i := 820) (by decide +kernel), List.mem_of_getElem? (i := 821) (by decide +kernel)⟩
theorem lw_p28 : lw_okq (⟨"BorrowedHands$Apart", "fillRows", "(LBorrowedHands$Town;LBorrowedHands$Hands;II)V"⟩, 3) := ⟨⟨by decide +kernel, by decide +kernel⟩, List.mem_of_getElem? (i := 235) (by decide +kernel), List.mem_of_getElem? (i := 828) (by decide +kernel), List.mem_of_getElem? (i := 829) (by decide +kernel)⟩
theorem lw_p29 : lw_okq (⟨"BorrowedHands$Apart", "listTwos", "(III)V"⟩, 3) := ⟨⟨by decide +kernel, by decide +kernel⟩, List.mem_of_getElem? (i := 235) (by decide +kernel), List.mem_of_getElem? (i := 833) (by decide +kernel), List.mem_of_getElem? (i := 834) (by decide +kernel)⟩
theorem lw_p30 : lw_okq (⟨"BorrowedHands$Apart", "differingPages", "(III)I"⟩, 3) := ⟨⟨by decide +kernel, by decide +kernel⟩, List.mem_of_getElem? (i := 235) (by decide +kernel), List.mem_of_getElem? (i := 837) (by decide +kernel), List.mem_of_getElem? (i := 838) (by decide +kernel)⟩
theorem lw_p31 : lw_okq (⟨"BorrowedHands$Apart", "allApart", "(I)Z"⟩, 3) := ⟨⟨by decide +kernel, by decide +kernel⟩, List.mem_of_getElem? (i := 235) (by decide +kernel), List.mem_of_getElem? (i := 842) (by decide +kernel), List.mem_of_getElem? (i := 843) (by decide +kernel)⟩
def lw_privs_2 : List (MethodName × Nat) := [(⟨"BorrowedHands", "lacksLines", "(I)Z"⟩, 16), (⟨"BorrowedHands", "lowestOf", "(I)I"⟩, 16), (⟨"BorrowedHands", "followTrail", "(III)Z"⟩, 16), (⟨"BorrowedHands$Trail", "step", "(LBorrowedHands$Town;II)V"⟩, 3), (⟨"BorrowedHands$Trail", "put", "(IIIZ)V"⟩, 3), (⟨"BorrowedHands$Trail", "turn", "([II)V"⟩, 3), (⟨"BorrowedHands", "passedUp", "(II)I"⟩, 16), (⟨"BorrowedHands", "lineAt", "(I)I"⟩, 16), (⟨"BorrowedHands", "seenFitsWriters", "()Z"⟩, 16), (⟨"BorrowedHands", "choicesBySeen", "(II)I"⟩, 16), (⟨"BorrowedHands", "countWays", "(III)V"⟩, 16), (⟨"BorrowedHands", "isSetOfWriters", "(I)Z"⟩, 16), (⟨"BorrowedHands$Apart", "fillRows", "(LBorrowedHands$Town;LBorrowedHands$Hands;II)V"⟩, 3), (⟨"BorrowedHands$Apart", "listTwos", "(III)V"⟩, 3), (⟨"BorrowedHands$Apart", "differingPages", "(III)I"⟩, 3), (⟨"BorrowedHands$Apart", "allApart", "(I)Z"⟩, 3)]
theorem lw_r2 : ∀ q ∈ lw_privs_2, lw_okq q := List.forall_mem_cons.mpr ⟨lw_p16, List.forall_mem_cons.mpr ⟨lw_p17, List.forall_mem_cons.mpr ⟨lw_p18, List.forall_mem_cons.mpr ⟨lw_p19, List.forall_mem_cons.mpr ⟨lw_p20, List.forall_mem_cons.mpr ⟨lw_p21, List.forall_mem_cons.mpr ⟨lw_p22, List.forall_mem_cons.mpr ⟨lw_p23, List.forall_mem_cons.mpr ⟨lw_p24, List.forall_mem_cons.mpr ⟨lw_p25, List.forall_mem_cons.mpr ⟨lw_p26, List.forall_mem_cons.mpr ⟨lw_p27, List.forall_mem_cons.mpr ⟨lw_p28, List.forall_mem_cons.mpr ⟨lw_p29, List.forall_mem_cons.mpr ⟨lw_p30, List.forall_mem_cons.mpr ⟨lw_p31, fun _ h => absurd h List.not_mem_nil⟩⟩⟩⟩⟩⟩⟩⟩⟩⟩⟩⟩⟩⟩⟩⟩
theorem lw_p32 : lw_okq (⟨"BorrowedHands$Slipping", "findDemand", "(LBorrowedHands$Town;LBorrowedHands$Hands;II)Z"⟩, 7) := ⟨⟨by decide +kernel, by decide +kernel⟩, List.mem_of_getElem? (i := 187) (by decide +kernel), List.mem_of_getElem? (i := 855) (by decide +kernel), List.mem_of_getElem? (i := 856) (by decide +kernel)⟩
theorem lw_p33 : lw_okq (⟨"BorrowedHands$Slipping", "tryHabits", "(LBorrowedHands$Town;II)V"⟩, 7) := ⟨⟨by decide +kernel, by decide +kernel⟩, List.mem_of_getElem? (i := 187) (by decide +kernel), List.mem_of_getElem? (i := 860) (by decide +kernel), List.mem_of_getElem? (i := 861) (by decide +kernel)⟩
theorem lw_p34 : lw_okq (⟨"BorrowedHands$Slipping", "tryOne", "(IIIII)V"⟩, 7) := ⟨⟨by decide +kernel, by decide +kernel⟩, List.mem_of_getElem? (i := 187) (by decide +kernel), List.mem_of_getElem? (i := 867) (by decide +kernel), List.mem_of_getElem? (i := 868) (by decide +kernel)⟩
theorem lw_p35 : lw_okq (⟨"BorrowedHands$Mistakes", "isFirstOfItsLike", "(I)Z"⟩, 2) := ⟨⟨by decide +kernel, by decide +kernel⟩, List.mem_of_getElem? (i := 251) (by decide +kernel), List.mem_of_getElem? (i := 903) (by decide +kernel), List.mem_of_getElem? (i := 904) (by decide +kernel)⟩
theorem lw_p36 : lw_okq (⟨"BorrowedHands$Mistakes", "longestWithin", "(I)I"⟩, 2) := ⟨⟨by decide +kernel, by decide +kernel⟩, List.mem_of_getElem? (i := 251) (by decide +kernel), List.mem_of_getElem? (i := 912) (by decide +kernel), List.mem_of_getElem? (i := 913) (by decide +kernel)⟩
theorem lw_p37 : lw_okq (⟨"BorrowedHands", "sendDown", "(I)I"⟩, 16) := ⟨⟨by decide +kernel, by decide +kernel⟩, List.mem_of_getElem? (i := 20) (by decide +kernel), List.mem_of_getElem? (i := 932) (by decide +kernel), List.mem_of_getElem? (i := 933) (by decide +kernel)⟩
theorem lw_p38 : lw_okq (⟨"BorrowedHands", "mostHands", "()I"⟩, 16) := ⟨⟨by decide +kernel, by decide +kernel⟩, List.mem_of_getElem? (i := 20) (by decide +kernel), List.mem_of_getElem? (i := 948) (by decide +kernel), List.mem_of_getElem? (i := 949) (by decide +kernel)⟩
theorem lw_p39 : lw_okq (⟨"BorrowedHandsModel", "puts", "(I)V"⟩, 33) := ⟨⟨by decide +kernel, by decide +kernel⟩, List.mem_of_getElem? (i := 957) (by decide +kernel), List.mem_of_getElem? (i := 1068) (by decide +kernel), List.mem_of_getElem? (i := 1069) (by decide +kernel)⟩
theorem lw_p40 : lw_okq (⟨"BorrowedHandsModel", "next", "()I"⟩, 33) := ⟨⟨by decide +kernel, by decide +kernel⟩, List.mem_of_getElem? (i := 957) (by decide +kernel), List.mem_of_getElem? (i := 1080) (by decide +kernel), List.mem_of_getElem? (i := 1081) (by decide +kernel)⟩
theorem lw_p41 : lw_okq (⟨"BorrowedHandsModel", "sign", "()I"⟩, 33) := ⟨⟨by decide +kernel, by decide +kernel⟩, List.mem_of_getElem? (i := 957) (by decide +kernel), List.mem_of_getElem? (i := 1084) (by decide +kernel), List.mem_of_getElem? (i := 1085) (by decide +kernel)⟩
theorem lw_p42 : lw_okq (⟨"BorrowedHandsModel", "readsPart", "()V"⟩, 33) := ⟨⟨by decide +kernel, by decide +kernel⟩, List.mem_of_getElem? (i := 957) (by decide +kernel), List.mem_of_getElem? (i := 1088) (by decide +kernel), List.mem_of_getElem? (i := 1089) (by decide +kernel)⟩
theorem lw_p43 : lw_okq (⟨"BorrowedHandsModel", "takes", "(Ljava/lang/String;)Z"⟩, 33) := ⟨⟨by decide +kernel, by decide +kernel⟩, List.mem_of_getElem? (i := 957) (by decide +kernel), List.mem_of_getElem? (i := 1093) (by decide +kernel), List.mem_of_getElem? (i := 1094) (by decide +kernel)⟩
theorem lw_p44 : lw_okq (⟨"BorrowedHandsModel", "isRight", "()Z"⟩, 33) := ⟨⟨by decide +kernel, by decide +kernel⟩, List.mem_of_getElem? (i := 957) (by decide +kernel), List.mem_of_getElem? (i := 1097) (by decide +kernel), List.mem_of_getElem? (i := 1098) (by decide +kernel)⟩
theorem lw_p45 : lw_okq (⟨"BorrowedHandsModel", "isWord", "(Ljava/lang/String;)Z"⟩, 33) := ⟨⟨by decide +kernel, by decide +kernel⟩, List.mem_of_getElem? (i := 957) (by decide +kernel), List.mem_of_getElem? (i := 1101) (by decide +kernel), List.mem_of_getElem? (i := 1102) (by decide +kernel)⟩
theorem lw_p46 : lw_okq (⟨"BorrowedHandsModel", "readsWriter", "(I)V"⟩, 33) := ⟨⟨by decide +kernel, by decide +kernel⟩, List.mem_of_getElem? (i := 957) (by decide +kernel), List.mem_of_getElem? (i := 1112) (by decide +kernel), List.mem_of_getElem? (i := 1113) (by decide +kernel)⟩
theorem lw_p47 : lw_okq (⟨"BorrowedHandsModel", "fails", "(II)V"⟩, 33) := ⟨⟨by decide +kernel, by decide +kernel⟩, List.mem_of_getElem? (i := 957) (by decide +kernel), List.mem_of_getElem? (i := 1116) (by decide +kernel), List.mem_of_getElem? (i := 1117) (by decide +kernel)⟩
def lw_privs_3 : List (MethodName × Nat) := [(⟨"BorrowedHands$Slipping", "findDemand", "(LBorrowedHands$Town;LBorrowedHands$Hands;II)Z"⟩, 7), (⟨"BorrowedHands$Slipping", "tryHabits", "(LBorrowedHands$Town;II)V"⟩, 7), (⟨"BorrowedHands$Slipping", "tryOne", "(IIIII)V"⟩, 7), (⟨"BorrowedHands$Mistakes", "isFirstOfItsLike", "(I)Z"⟩, 2), (⟨"BorrowedHands$Mistakes", "longestWithin", "(I)I"⟩, 2), (⟨"BorrowedHands", "sendDown", "(I)I"⟩, 16), (⟨"BorrowedHands", "mostHands", "()I"⟩, 16), (⟨"BorrowedHandsModel", "puts", "(I)V"⟩, 33), (⟨"BorrowedHandsModel", "next", "()I"⟩, 33), (⟨"BorrowedHandsModel", "sign", "()I"⟩, 33), (⟨"BorrowedHandsModel", "readsPart", "()V"⟩, 33), (⟨"BorrowedHandsModel", "takes", "(Ljava/lang/String;)Z"⟩, 33), (⟨"BorrowedHandsModel", "isRight", "()Z"⟩, 33), (⟨"BorrowedHandsModel", "isWord", "(Ljava/lang/String;)Z"⟩, 33), (⟨"BorrowedHandsModel", "readsWriter", "(I)V"⟩, 33), (⟨"BorrowedHandsModel", "fails", "(II)V"⟩, 33)]
theorem lw_r3 : ∀ q ∈ lw_privs_3, lw_okq q := List.forall_mem_cons.mpr ⟨lw_p32, List.forall_mem_cons.mpr ⟨lw_p33, List.forall_mem_cons.mpr ⟨lw_p34, List.forall_mem_cons.mpr ⟨lw_p35, List.forall_mem_cons.mpr ⟨lw_p36, List.forall_mem_cons.mpr ⟨lw_p37, List.forall_mem_cons.mpr ⟨lw_p38, List.forall_mem_cons.mpr ⟨lw_p39, List.forall_mem_cons.mpr ⟨lw_p40, List.forall_mem_cons.mpr ⟨lw_p41, List.forall_mem_cons.mpr ⟨lw_p42, List.forall_mem_cons.mpr ⟨lw_p43, List.forall_mem_cons.mpr ⟨lw_p44, List.forall_mem_cons.mpr ⟨lw_p45, List.forall_mem_cons.mpr ⟨lw_p46, List.forall_mem_cons.mpr ⟨lw_p47, fun _ h => absurd h List.not_mem_nil⟩⟩⟩⟩⟩⟩⟩⟩⟩⟩⟩⟩⟩⟩⟩⟩
theorem lw_p48 : lw_okq (⟨"BorrowedHandsModel", "number", "(II)I"⟩, 33) := ⟨⟨by decide +kernel, by decide +kernel⟩, List.mem_of_getElem? (i := 957) (by decide +kernel), List.mem_of_getElem? (i := 1120) (by decide +kernel), List.mem_of_getElem? (i := 1121) (by decide +kernel)⟩
theorem lw_p49 : lw_okq (⟨"BorrowedHandsModel", "isDigit", "()Z"⟩, 33) := ⟨⟨by decide +kernel, by decide +kernel⟩, List.mem_of_getElem? (i := 957) (by decide +kernel), List.mem_of_getElem? (i := 1124) (by decide +kernel), List.mem_of_getElem? (i := 1125) (by decide +kernel)⟩
theorem lw_p50 : lw_okq (⟨"BorrowedHandsModel", "readsHabit", "(I)V"⟩, 33) := ⟨⟨by decide +kernel, by decide +kernel⟩, List.mem_of_getElem? (i := 957) (by decide +kernel), List.mem_of_getElem? (i := 1132) (by decide +kernel), List.mem_of_getElem? (i := 1133) (by decide +kernel)⟩
theorem lw_p51 : lw_okq (⟨"BorrowedHandsModel", "kindTold", "()I"⟩, 33) := ⟨⟨by decide +kernel, by decide +kernel⟩, List.mem_of_getElem? (i := 957) (by decide +kernel), List.mem_of_getElem? (i := 1136) (by decide +kernel), List.mem_of_getElem? (i := 1137) (by decide +kernel)⟩
theorem lw_p52 : lw_okq (⟨"BorrowedHandsModel", "readsBook", "(I)V"⟩, 33) := ⟨⟨by decide +kernel, by decide +kernel⟩, List.mem_of_getElem? (i := 957) (by decide +kernel), List.mem_of_getElem? (i := 1152) (by decide +kernel), List.mem_of_getElem? (i := 1153) (by decide +kernel)⟩
theorem lw_p53 : lw_okq (⟨"BorrowedHandsModel", "isWriter", "(I)Z"⟩, 33) := ⟨⟨by decide +kernel, by decide +kernel⟩, List.mem_of_getElem? (i := 957) (by decide +kernel), List.mem_of_getElem? (i := 1179) (by decide +kernel), List.mem_of_getElem? (i := 1180) (by decide +kernel)⟩
theorem lw_p54 : lw_okq (⟨"BorrowedHandsModel", "isDead", "(I)Z"⟩, 33) := ⟨⟨by decide +kernel, by decide +kernel⟩, List.mem_of_getElem? (i := 957) (by decide +kernel), List.mem_of_getElem? (i := 1183) (by decide +kernel), List.mem_of_getElem? (i := 1184) (by decide +kernel)⟩
theorem lw_p55 : lw_okq (⟨"BorrowedHandsModel", "of", "(II)I"⟩, 33) := ⟨⟨by decide +kernel, by decide +kernel⟩, List.mem_of_getElem? (i := 957) (by decide +kernel), List.mem_of_getElem? (i := 1187) (by decide +kernel), List.mem_of_getElem? (i := 1188) (by decide +kernel)⟩
theorem lw_p56 : lw_okq (⟨"BorrowedHandsModel", "under", "(I)I"⟩, 33) := ⟨⟨by decide +kernel, by decide +kernel⟩, List.mem_of_getElem? (i := 957) (by decide +kernel), List.mem_of_getElem? (i := 1191) (by decide +kernel), List.mem_of_getElem? (i := 1192) (by decide +kernel)⟩
theorem lw_p57 : lw_okq (⟨"BorrowedHandsModel", "keepsPast", "()V"⟩, 33) := ⟨⟨by decide +kernel, by decide +kernel⟩, List.mem_of_getElem? (i := 957) (by decide +kernel), List.mem_of_getElem? (i := 1195) (by decide +kernel), List.mem_of_getElem? (i := 1196) (by decide +kernel)⟩
theorem lw_p58 : lw_okq (⟨"BorrowedHandsModel", "puts", "(III)V"⟩, 33) := ⟨⟨by decide +kernel, by decide +kernel⟩, List.mem_of_getElem? (i := 957) (by decide +kernel), List.mem_of_getElem? (i := 1199) (by decide +kernel), List.mem_of_getElem? (i := 1200) (by decide +kernel)⟩
theorem lw_p59 : lw_okq (⟨"BorrowedHandsModel", "hands", "(I)I"⟩, 33) := ⟨⟨by decide +kernel, by decide +kernel⟩, List.mem_of_getElem? (i := 957) (by decide +kernel), List.mem_of_getElem? (i := 1203) (by decide +kernel), List.mem_of_getElem? (i := 1204) (by decide +kernel)⟩
theorem lw_p60 : lw_okq (⟨"BorrowedHandsModel", "hasHabit", "(IIII)Z"⟩, 33) := ⟨⟨by decide +kernel, by decide +kernel⟩, List.mem_of_getElem? (i := 957) (by decide +kernel), List.mem_of_getElem? (i := 1220) (by decide +kernel), List.mem_of_getElem? (i := 1221) (by decide +kernel)⟩
theorem lw_p61 : lw_okq (⟨"BorrowedHandsModel", "learns", "(IIII)V"⟩, 33) := ⟨⟨by decide +kernel, by decide +kernel⟩, List.mem_of_getElem? (i := 957) (by decide +kernel), List.mem_of_getElem? (i := 1224) (by decide +kernel), List.mem_of_getElem? (i := 1225) (by decide +kernel)⟩
theorem lw_p62 : lw_okq (⟨"BorrowedHandsModel", "goesDown", "(IIIZ)I"⟩, 33) := ⟨⟨by decide +kernel, by decide +kernel⟩, List.mem_of_getElem? (i := 957) (by decide +kernel), List.mem_of_getElem? (i := 1233) (by decide +kernel), List.mem_of_getElem? (i := 1234) (by decide +kernel)⟩
theorem lw_p63 : lw_okq (⟨"BorrowedHandsModel", "moods", "()I"⟩, 33) := ⟨⟨by decide +kernel, by decide +kernel⟩, List.mem_of_getElem? (i := 957) (by decide +kernel), List.mem_of_getElem? (i := 1250) (by decide +kernel), List.mem_of_getElem? (i := 1251) (by decide +kernel)⟩
def lw_privs_4 : List (MethodName × Nat) := [(⟨"BorrowedHandsModel", "number", "(II)I"⟩, 33), (⟨"BorrowedHandsModel", "isDigit", "()Z"⟩, 33), (⟨"BorrowedHandsModel", "readsHabit", "(I)V"⟩, 33), (⟨"BorrowedHandsModel", "kindTold", "()I"⟩, 33), (⟨"BorrowedHandsModel", "readsBook", "(I)V"⟩, 33), (⟨"BorrowedHandsModel", "isWriter", "(I)Z"⟩, 33), (⟨"BorrowedHandsModel", "isDead", "(I)Z"⟩, 33), (⟨"BorrowedHandsModel", "of", "(II)I"⟩, 33), (⟨"BorrowedHandsModel", "under", "(I)I"⟩, 33), (⟨"BorrowedHandsModel", "keepsPast", "()V"⟩, 33), (⟨"BorrowedHandsModel", "puts", "(III)V"⟩, 33), (⟨"BorrowedHandsModel", "hands", "(I)I"⟩, 33), (⟨"BorrowedHandsModel", "hasHabit", "(IIII)Z"⟩, 33), (⟨"BorrowedHandsModel", "learns", "(IIII)V"⟩, 33), (⟨"BorrowedHandsModel", "goesDown", "(IIIZ)I"⟩, 33), (⟨"BorrowedHandsModel", "moods", "()I"⟩, 33)]
theorem lw_r4 : ∀ q ∈ lw_privs_4, lw_okq q := List.forall_mem_cons.mpr ⟨lw_p48, List.forall_mem_cons.mpr ⟨lw_p49, List.forall_mem_cons.mpr ⟨lw_p50, List.forall_mem_cons.mpr ⟨lw_p51, List.forall_mem_cons.mpr ⟨lw_p52, List.forall_mem_cons.mpr ⟨lw_p53, List.forall_mem_cons.mpr ⟨lw_p54, List.forall_mem_cons.mpr ⟨lw_p55, List.forall_mem_cons.mpr ⟨lw_p56, List.forall_mem_cons.mpr ⟨lw_p57, List.forall_mem_cons.mpr ⟨lw_p58, List.forall_mem_cons.mpr ⟨lw_p59, List.forall_mem_cons.mpr ⟨lw_p60, List.forall_mem_cons.mpr ⟨lw_p61, List.forall_mem_cons.mpr ⟨lw_p62, List.forall_mem_cons.mpr ⟨lw_p63, fun _ h => absurd h List.not_mem_nil⟩⟩⟩⟩⟩⟩⟩⟩⟩⟩⟩⟩⟩⟩⟩⟩
theorem lw_p64 : lw_okq (⟨"BorrowedHandsModel", "isBook", "(I)Z"⟩, 33) := ⟨⟨by decide +kernel, by decide +kernel⟩, List.mem_of_getElem? (i := 957) (by decide +kernel), List.mem_of_getElem? (i := 1258) (by decide +kernel), List.mem_of_getElem? (i := 1259) (by decide +kernel)⟩
theorem lw_p65 : lw_okq (⟨"BorrowedHandsModel", "hasAll", "(II)Z"⟩, 33) := ⟨⟨by decide +kernel, by decide +kernel⟩, List.mem_of_getElem? (i := 957) (by decide +kernel), List.mem_of_getElem? (i := 1262) (by decide +kernel), List.mem_of_getElem? (i := 1263) (by decide +kernel)⟩
theorem lw_p66 : lw_okq (⟨"BorrowedHandsModel", "pagesOf", "(I)I"⟩, 33) := ⟨⟨by decide +kernel, by decide +kernel⟩, List.mem_of_getElem? (i := 957) (by decide +kernel), List.mem_of_getElem? (i := 1266) (by decide +kernel), List.mem_of_getElem? (i := 1267) (by decide +kernel)⟩
theorem lw_p67 : lw_okq (⟨"BorrowedHandsModel", "lineOf", "(III)I"⟩, 33) := ⟨⟨by decide +kernel, by decide +kernel⟩, List.mem_of_getElem? (i := 957) (by decide +kernel), List.mem_of_getElem? (i := 1270) (by decide +kernel), List.mem_of_getElem? (i := 1271) (by decide +kernel)⟩
theorem lw_p68 : lw_okq (⟨"BorrowedHandsModel", "pageOf", "(II)I"⟩, 33) := ⟨⟨by decide +kernel, by decide +kernel⟩, List.mem_of_getElem? (i := 957) (by decide +kernel), List.mem_of_getElem? (i := 1274) (by decide +kernel), List.mem_of_getElem? (i := 1275) (by decide +kernel)⟩
theorem lw_p69 : lw_okq (⟨"BorrowedHandsModel", "hasStock", "(II)Z"⟩, 33) := ⟨⟨by decide +kernel, by decide +kernel⟩, List.mem_of_getElem? (i := 957) (by decide +kernel), List.mem_of_getElem? (i := 1278) (by decide +kernel), List.mem_of_getElem? (i := 1279) (by decide +kernel)⟩
theorem lw_p70 : lw_okq (⟨"BorrowedHandsModel", "passes", "(II)I"⟩, 33) := ⟨⟨by decide +kernel, by decide +kernel⟩, List.mem_of_getElem? (i := 957) (by decide +kernel), List.mem_of_getElem? (i := 1288) (by decide +kernel), List.mem_of_getElem? (i := 1289) (by decide +kernel)⟩
theorem lw_p71 : lw_okq (⟨"BorrowedHandsModel", "habit", "(II)I"⟩, 33) := ⟨⟨by decide +kernel, by decide +kernel⟩, List.mem_of_getElem? (i := 957) (by decide +kernel), List.mem_of_getElem? (i := 1292) (by decide +kernel), List.mem_of_getElem? (i := 1293) (by decide +kernel)⟩
theorem lw_p72 : lw_okq (⟨"BorrowedHandsModel", "overWhom", "(I)I"⟩, 33) := ⟨⟨by decide +kernel, by decide +kernel⟩, List.mem_of_getElem? (i := 957) (by decide +kernel), List.mem_of_getElem? (i := 1320) (by decide +kernel), List.mem_of_getElem? (i := 1321) (by decide +kernel)⟩
theorem lw_p73 : lw_okq (⟨"BorrowedHandsModel", "isPage", "(II)Z"⟩, 33) := ⟨⟨by decide +kernel, by decide +kernel⟩, List.mem_of_getElem? (i := 957) (by decide +kernel), List.mem_of_getElem? (i := 1328) (by decide +kernel), List.mem_of_getElem? (i := 1329) (by decide +kernel)⟩
theorem lw_p74 : lw_okq (⟨"BorrowedHandsModel", "isAnyDead", "(I)Z"⟩, 33) := ⟨⟨by decide +kernel, by decide +kernel⟩, List.mem_of_getElem? (i := 957) (by decide +kernel), List.mem_of_getElem? (i := 1340) (by decide +kernel), List.mem_of_getElem? (i := 1341) (by decide +kernel)⟩
theorem lw_p75 : lw_okq (⟨"BorrowedHandsModel", "laysTrace", "(III)V"⟩, 33) := ⟨⟨by decide +kernel, by decide +kernel⟩, List.mem_of_getElem? (i := 957) (by decide +kernel), List.mem_of_getElem? (i := 1344) (by decide +kernel), List.mem_of_getElem? (i := 1345) (by decide +kernel)⟩
theorem lw_p76 : lw_okq (⟨"BorrowedHandsModel", "traces", "(III)V"⟩, 33) := ⟨⟨by decide +kernel, by decide +kernel⟩, List.mem_of_getElem? (i := 957) (by decide +kernel), List.mem_of_getElem? (i := 1348) (by decide +kernel), List.mem_of_getElem? (i := 1349) (by decide +kernel)⟩
theorem lw_p77 : lw_okq (⟨"BorrowedHandsModel", "brings", "(II)V"⟩, 33) := ⟨⟨by decide +kernel, by decide +kernel⟩, List.mem_of_getElem? (i := 957) (by decide +kernel), List.mem_of_getElem? (i := 1352) (by decide +kernel), List.mem_of_getElem? (i := 1353) (by decide +kernel)⟩
theorem lw_p78 : lw_okq (⟨"BorrowedHandsModel", "laysSource", "(I)V"⟩, 33) := ⟨⟨by decide +kernel, by decide +kernel⟩, List.mem_of_getElem? (i := 957) (by decide +kernel), List.mem_of_getElem? (i := 1368) (by decide +kernel), List.mem_of_getElem? (i := 1369) (by decide +kernel)⟩
theorem lw_p79 : lw_okq (⟨"BorrowedHandsModel", "leads", "(III)V"⟩, 33) := ⟨⟨by decide +kernel, by decide +kernel⟩, List.mem_of_getElem? (i := 957) (by decide +kernel), List.mem_of_getElem? (i := 1372) (by decide +kernel), List.mem_of_getElem? (i := 1373) (by decide +kernel)⟩
def lw_privs_5 : List (MethodName × Nat) := [(⟨"BorrowedHandsModel", "isBook", "(I)Z"⟩, 33), (⟨"BorrowedHandsModel", "hasAll", "(II)Z"⟩, 33), (⟨"BorrowedHandsModel", "pagesOf", "(I)I"⟩, 33), (⟨"BorrowedHandsModel", "lineOf", "(III)I"⟩, 33), (⟨"BorrowedHandsModel", "pageOf", "(II)I"⟩, 33), (⟨"BorrowedHandsModel", "hasStock", "(II)Z"⟩, 33), (⟨"BorrowedHandsModel", "passes", "(II)I"⟩, 33), (⟨"BorrowedHandsModel", "habit", "(II)I"⟩, 33), (⟨"BorrowedHandsModel", "overWhom", "(I)I"⟩, 33), (⟨"BorrowedHandsModel", "isPage", "(II)Z"⟩, 33), (⟨"BorrowedHandsModel", "isAnyDead", "(I)Z"⟩, 33), (⟨"BorrowedHandsModel", "laysTrace", "(III)V"⟩, 33), (⟨"BorrowedHandsModel", "traces", "(III)V"⟩, 33), (⟨"BorrowedHandsModel", "brings", "(II)V"⟩, 33), (⟨"BorrowedHandsModel", "laysSource", "(I)V"⟩, 33), (⟨"BorrowedHandsModel", "leads", "(III)V"⟩, 33)]
theorem lw_r5 : ∀ q ∈ lw_privs_5, lw_okq q := List.forall_mem_cons.mpr ⟨lw_p64, List.forall_mem_cons.mpr ⟨lw_p65, List.forall_mem_cons.mpr ⟨lw_p66, List.forall_mem_cons.mpr ⟨lw_p67, List.forall_mem_cons.mpr ⟨lw_p68, List.forall_mem_cons.mpr ⟨lw_p69, List.forall_mem_cons.mpr ⟨lw_p70, List.forall_mem_cons.mpr ⟨lw_p71, List.forall_mem_cons.mpr ⟨lw_p72, List.forall_mem_cons.mpr ⟨lw_p73, List.forall_mem_cons.mpr ⟨lw_p74, List.forall_mem_cons.mpr ⟨lw_p75, List.forall_mem_cons.mpr ⟨lw_p76, List.forall_mem_cons.mpr ⟨lw_p77, List.forall_mem_cons.mpr ⟨lw_p78, List.forall_mem_cons.mpr ⟨lw_p79, fun _ h => absurd h List.not_mem_nil⟩⟩⟩⟩⟩⟩⟩⟩⟩⟩⟩⟩⟩⟩⟩⟩
theorem lw_p80 : lw_okq (⟨"BorrowedHandsModel", "canTree", "(II)Z"⟩, 33) := ⟨⟨by decide +kernel, by decide +kernel⟩, List.mem_of_getElem? (i := 957) (by decide +kernel), List.mem_of_getElem? (i := 1394) (by decide +kernel), List.mem_of_getElem? (i := 1395) (by decide +kernel)⟩
theorem lw_p81 : lw_okq (⟨"BorrowedHandsModel", "choices", "(III)I"⟩, 33) := ⟨⟨by decide +kernel, by decide +kernel⟩, List.mem_of_getElem? (i := 957) (by decide +kernel), List.mem_of_getElem? (i := 1398) (by decide +kernel), List.mem_of_getElem? (i := 1399) (by decide +kernel)⟩
theorem lw_p82 : lw_okq (⟨"BorrowedHandsModel", "seen", "(I)I"⟩, 33) := ⟨⟨by decide +kernel, by decide +kernel⟩, List.mem_of_getElem? (i := 957) (by decide +kernel), List.mem_of_getElem? (i := 1402) (by decide +kernel), List.mem_of_getElem? (i := 1403) (by decide +kernel)⟩
theorem lw_p83 : lw_okq (⟨"BorrowedHandsModel", "canBreak", "(II)Z"⟩, 33) := ⟨⟨by decide +kernel, by decide +kernel⟩, List.mem_of_getElem? (i := 957) (by decide +kernel), List.mem_of_getElem? (i := 1414) (by decide +kernel), List.mem_of_getElem? (i := 1415) (by decide +kernel)⟩
theorem lw_p84 : lw_okq (⟨"BorrowedHandsModel", "stretches", "(II)I"⟩, 33) := ⟨⟨by decide +kernel, by decide +kernel⟩, List.mem_of_getElem? (i := 957) (by decide +kernel), List.mem_of_getElem? (i := 1418) (by decide +kernel), List.mem_of_getElem? (i := 1419) (by decide +kernel)⟩
theorem lw_p85 : lw_okq (⟨"BorrowedHandsModel", "couldBe", "(III)I"⟩, 33) := ⟨⟨by decide +kernel, by decide +kernel⟩, List.mem_of_getElem? (i := 957) (by decide +kernel), List.mem_of_getElem? (i := 1422) (by decide +kernel), List.mem_of_getElem? (i := 1423) (by decide +kernel)⟩
theorem lw_p86 : lw_okq (⟨"BorrowedHandsModel", "isSet", "(I)Z"⟩, 33) := ⟨⟨by decide +kernel, by decide +kernel⟩, List.mem_of_getElem? (i := 957) (by decide +kernel), List.mem_of_getElem? (i := 1439) (by decide +kernel), List.mem_of_getElem? (i := 1440) (by decide +kernel)⟩
theorem lw_p87 : lw_okq (⟨"BorrowedHandsModel", "laysApart", "(II)I"⟩, 33) := ⟨⟨by decide +kernel, by decide +kernel⟩, List.mem_of_getElem? (i := 957) (by decide +kernel), List.mem_of_getElem? (i := 1443) (by decide +kernel), List.mem_of_getElem? (i := 1444) (by decide +kernel)⟩
theorem lw_p88 : lw_okq (⟨"BorrowedHandsModel", "unlikeOn", "(III)I"⟩, 33) := ⟨⟨by decide +kernel, by decide +kernel⟩, List.mem_of_getElem? (i := 957) (by decide +kernel), List.mem_of_getElem? (i := 1447) (by decide +kernel), List.mem_of_getElem? (i := 1448) (by decide +kernel)⟩
theorem lw_p89 : lw_okq (⟨"BorrowedHandsModel", "slipsBy", "(IIIII)V"⟩, 33) := ⟨⟨by decide +kernel, by decide +kernel⟩, List.mem_of_getElem? (i := 957) (by decide +kernel), List.mem_of_getElem? (i := 1456) (by decide +kernel), List.mem_of_getElem? (i := 1457) (by decide +kernel)⟩
theorem lw_p90 : lw_okq (⟨"BorrowedHandsModel", "lineWith", "(IIIIII)I"⟩, 33) := ⟨⟨by decide +kernel, by decide +kernel⟩, List.mem_of_getElem? (i := 957) (by decide +kernel), List.mem_of_getElem? (i := 1460) (by decide +kernel), List.mem_of_getElem? (i := 1461) (by decide +kernel)⟩
theorem lw_p91 : lw_okq (⟨"BorrowedHandsModel", "errorsOf", "(III)I"⟩, 33) := ⟨⟨by decide +kernel, by decide +kernel⟩, List.mem_of_getElem? (i := 957) (by decide +kernel), List.mem_of_getElem? (i := 1468) (by decide +kernel), List.mem_of_getElem? (i := 1469) (by decide +kernel)⟩
theorem lw_p92 : lw_okq (⟨"BorrowedHandsModel", "clashes", "()I"⟩, 33) := ⟨⟨by decide +kernel, by decide +kernel⟩, List.mem_of_getElem? (i := 957) (by decide +kernel), List.mem_of_getElem? (i := 1477) (by decide +kernel), List.mem_of_getElem? (i := 1478) (by decide +kernel)⟩
theorem lw_p93 : lw_okq (⟨"BorrowedHandsModel", "laysUnlike", "()I"⟩, 33) := ⟨⟨by decide +kernel, by decide +kernel⟩, List.mem_of_getElem? (i := 957) (by decide +kernel), List.mem_of_getElem? (i := 1484) (by decide +kernel), List.mem_of_getElem? (i := 1485) (by decide +kernel)⟩
theorem lw_p94 : lw_okq (⟨"BorrowedHandsModel", "longestRow", "(I)I"⟩, 33) := ⟨⟨by decide +kernel, by decide +kernel⟩, List.mem_of_getElem? (i := 957) (by decide +kernel), List.mem_of_getElem? (i := 1488) (by decide +kernel), List.mem_of_getElem? (i := 1489) (by decide +kernel)⟩
theorem lw_p95 : lw_okq (⟨"BorrowedHandsModel", "handsSet", "(I)I"⟩, 33) := ⟨⟨by decide +kernel, by decide +kernel⟩, List.mem_of_getElem? (i := 957) (by decide +kernel), List.mem_of_getElem? (i := 1497) (by decide +kernel), List.mem_of_getElem? (i := 1498) (by decide +kernel)⟩
def lw_privs_6 : List (MethodName × Nat) := [(⟨"BorrowedHandsModel", "canTree", "(II)Z"⟩, 33), (⟨"BorrowedHandsModel", "choices", "(III)I"⟩, 33), (⟨"BorrowedHandsModel", "seen", "(I)I"⟩, 33), (⟨"BorrowedHandsModel", "canBreak", "(II)Z"⟩, 33), (⟨"BorrowedHandsModel", "stretches", "(II)I"⟩, 33), (⟨"BorrowedHandsModel", "couldBe", "(III)I"⟩, 33), (⟨"BorrowedHandsModel", "isSet", "(I)Z"⟩, 33), (⟨"BorrowedHandsModel", "laysApart", "(II)I"⟩, 33), (⟨"BorrowedHandsModel", "unlikeOn", "(III)I"⟩, 33), (⟨"BorrowedHandsModel", "slipsBy", "(IIIII)V"⟩, 33), (⟨"BorrowedHandsModel", "lineWith", "(IIIIII)I"⟩, 33), (⟨"BorrowedHandsModel", "errorsOf", "(III)I"⟩, 33), (⟨"BorrowedHandsModel", "clashes", "()I"⟩, 33), (⟨"BorrowedHandsModel", "laysUnlike", "()I"⟩, 33), (⟨"BorrowedHandsModel", "longestRow", "(I)I"⟩, 33), (⟨"BorrowedHandsModel", "handsSet", "(I)I"⟩, 33)]
theorem lw_r6 : ∀ q ∈ lw_privs_6, lw_okq q := List.forall_mem_cons.mpr ⟨lw_p80, List.forall_mem_cons.mpr ⟨lw_p81, List.forall_mem_cons.mpr ⟨lw_p82, List.forall_mem_cons.mpr ⟨lw_p83, List.forall_mem_cons.mpr ⟨lw_p84, List.forall_mem_cons.mpr ⟨lw_p85, List.forall_mem_cons.mpr ⟨lw_p86, List.forall_mem_cons.mpr ⟨lw_p87, List.forall_mem_cons.mpr ⟨lw_p88, List.forall_mem_cons.mpr ⟨lw_p89, List.forall_mem_cons.mpr ⟨lw_p90, List.forall_mem_cons.mpr ⟨lw_p91, List.forall_mem_cons.mpr ⟨lw_p92, List.forall_mem_cons.mpr ⟨lw_p93, List.forall_mem_cons.mpr ⟨lw_p94, List.forall_mem_cons.mpr ⟨lw_p95, fun _ h => absurd h List.not_mem_nil⟩⟩⟩⟩⟩⟩⟩⟩⟩⟩⟩⟩⟩⟩⟩⟩
theorem lw_p96 : lw_okq (⟨"BorrowedHandsModel", "makes", "(III)I"⟩, 33) := ⟨⟨by decide +kernel, by decide +kernel⟩, List.mem_of_getElem? (i := 957) (by decide +kernel), List.mem_of_getElem? (i := 1510) (by decide +kernel), List.mem_of_getElem? (i := 1511) (by decide +kernel)⟩
theorem lw_p97 : lw_okq (⟨"BorrowedHandsModel", "pagesOfAll", "()I"⟩, 33) := ⟨⟨by decide +kernel, by decide +kernel⟩, List.mem_of_getElem? (i := 957) (by decide +kernel), List.mem_of_getElem? (i := 1518) (by decide +kernel), List.mem_of_getElem? (i := 1519) (by decide +kernel)⟩
theorem lw_p98 : lw_okq (⟨"BorrowedHandsModel", "alone", "()I"⟩, 33) := ⟨⟨by decide +kernel, by decide +kernel⟩, List.mem_of_getElem? (i := 957) (by decide +kernel), List.mem_of_getElem? (i := 1522) (by decide +kernel), List.mem_of_getElem? (i := 1523) (by decide +kernel)⟩
theorem lw_p99 : lw_okq (⟨"BorrowedHandsModel", "mostHands", "()I"⟩, 33) := ⟨⟨by decide +kernel, by decide +kernel⟩, List.mem_of_getElem? (i := 957) (by decide +kernel), List.mem_of_getElem? (i := 1526) (by decide +kernel), List.mem_of_getElem? (i := 1527) (by decide +kernel)⟩
theorem lw_p100 : lw_okq (⟨"BorrowedHandsModel", "sumOf", "(I)I"⟩, 33) := ⟨⟨by decide +kernel, by decide +kernel⟩, List.mem_of_getElem? (i := 957) (by decide +kernel), List.mem_of_getElem? (i := 1530) (by decide +kernel), List.mem_of_getElem? (i := 1531) (by decide +kernel)⟩
theorem lw_p101 : lw_okq (⟨"BorrowedHandsModel", "deadOnes", "()I"⟩, 33) := ⟨⟨by decide +kernel, by decide +kernel⟩, List.mem_of_getElem? (i := 957) (by decide +kernel), List.mem_of_getElem? (i := 1534) (by decide +kernel), List.mem_of_getElem? (i := 1535) (by decide +kernel)⟩
def lw_privs_7 : List (MethodName × Nat) := [(⟨"BorrowedHandsModel", "makes", "(III)I"⟩, 33), (⟨"BorrowedHandsModel", "pagesOfAll", "()I"⟩, 33), (⟨"BorrowedHandsModel", "alone", "()I"⟩, 33), (⟨"BorrowedHandsModel", "mostHands", "()I"⟩, 33), (⟨"BorrowedHandsModel", "sumOf", "(I)I"⟩, 33), (⟨"BorrowedHandsModel", "deadOnes", "()I"⟩, 33)]
theorem lw_r7 : ∀ q ∈ lw_privs_7, lw_okq q := List.forall_mem_cons.mpr ⟨lw_p96, List.forall_mem_cons.mpr ⟨lw_p97, List.forall_mem_cons.mpr ⟨lw_p98, List.forall_mem_cons.mpr ⟨lw_p99, List.forall_mem_cons.mpr ⟨lw_p100, List.forall_mem_cons.mpr ⟨lw_p101, fun _ h => absurd h List.not_mem_nil⟩⟩⟩⟩⟩⟩
def lw_privs : List (MethodName × Nat) := lw_privs_1 ++ (lw_privs_2 ++ (lw_privs_3 ++ (lw_privs_4 ++ (lw_privs_5 ++ (lw_privs_6 ++ (lw_privs_7))))))
def lw_tbl : List Cond := k2_sels lw_privs ++ tables_1
theorem lw_privs_ok : ∀ q ∈ lw_privs, lw_okq q := by
  show ∀ q ∈ lw_privs_1 ++ (lw_privs_2 ++ (lw_privs_3 ++ (lw_privs_4 ++ (lw_privs_5 ++ (lw_privs_6 ++ (lw_privs_7)))))), lw_okq q
  exact List.forall_mem_append.mpr ⟨lw_r1, List.forall_mem_append.mpr ⟨lw_r2, List.forall_mem_append.mpr ⟨lw_r3, List.forall_mem_append.mpr ⟨lw_r4, List.forall_mem_append.mpr ⟨lw_r5, List.forall_mem_append.mpr ⟨lw_r6, lw_r7⟩⟩⟩⟩⟩⟩
def RX0 : String := "BorrowedHands$Apart"
def TX0 : u_T := fun k => match k with
  | 0 => ("BorrowedHands$Apart", "rows", "[I", true)
  | 1 => ("BorrowedHands$Apart", "twos", "[I", true)
  | _ => ("BorrowedHands$Apart", "many", "I", false)
def tyX0 : Nat → FieldType := fun k => match k with
  | 0 => .array .int
  | 1 => .array .int
  | _ => .int
theorem nmX0 : ∀ a, a < 3 → ∀ b, b < 3 → a ≠ b → (TX0 a).2.1 ≠ (TX0 b).2.1 := by decide +kernel
theorem tyX0_ok : ∀ k, k < 3 → parseFieldDescriptor (TX0 k).2.2.1 = some (tyX0 k) := by decide +kernel
abbrev cX0_init : ByteArray := prog_2_method_1_code
def yX0_init : MethodName := ⟨RX0, "<init>", "()V"⟩
abbrev cX0_fewestPages : ByteArray := prog_2_method_2_code
def yX0_fewestPages : MethodName := ⟨RX0, "fewestPages", "(LBorrowedHands$Town;LBorrowedHands$Hands;II)I"⟩
abbrev cX0_fillRows : ByteArray := prog_2_method_3_code
def yX0_fillRows : MethodName := ⟨RX0, "fillRows", "(LBorrowedHands$Town;LBorrowedHands$Hands;II)V"⟩
abbrev cX0_listTwos : ByteArray := prog_2_method_4_code
def yX0_listTwos : MethodName := ⟨RX0, "listTwos", "(III)V"⟩
abbrev cX0_differingPages : ByteArray := prog_2_method_5_code
def yX0_differingPages : MethodName := ⟨RX0, "differingPages", "(III)I"⟩
abbrev cX0_allApart : ByteArray := prog_2_method_6_code
def yX0_allApart : MethodName := ⟨RX0, "allApart", "(I)Z"⟩
def RX1 : String := "BorrowedHands$Habit"
def TX1 : u_T := fun k => match k with
  | _ => ("", "", "", false)
def tyX1 : Nat → FieldType := fun k => match k with
  | _ => .int
theorem nmX1 : ∀ a, a < 0 → ∀ b, b < 0 → a ≠ b → (TX1 a).2.1 ≠ (TX1 b).2.1 := by decide +kernel
theorem tyX1_ok : ∀ k, k < 0 → parseFieldDescriptor (TX1 k).2.2.1 = some (tyX1 k) := by decide +kernel
abbrev cX1_signsOf : ByteArray := prog_3_method_2_code
def yX1_signsOf : MethodName := ⟨RX1, "signsOf", "(I)I"⟩
abbrev cX1_firstSign : ByteArray := prog_3_method_3_code
def yX1_firstSign : MethodName := ⟨RX1, "firstSign", "(II)I"⟩
abbrev cX1_secondSign : ByteArray := prog_3_method_4_code
def yX1_secondSign : MethodName := ⟨RX1, "secondSign", "(II)I"⟩
abbrev cX1_stands : ByteArray := prog_3_method_5_code
def yX1_stands : MethodName := ⟨RX1, "stands", "(III)Z"⟩
abbrev cX1_changeRow : ByteArray := prog_3_method_6_code
def yX1_changeRow : MethodName := ⟨RX1, "changeRow", "(IIII)I"⟩
abbrev cX1_signAt : ByteArray := prog_3_method_7_code
def yX1_signAt : MethodName := ⟨RX1, "signAt", "(II)I"⟩
def RX2 : String := "BorrowedHands$Hands"
def TX2 : u_T := fun k => match k with
  | 0 => ("BorrowedHands$Hands", "who", "[I", true)
  | _ => ("BorrowedHands$Hands", "many", "I", false)
def tyX2 : Nat → FieldType := fun k => match k with
  | 0 => .array .int
  | _ => .int
theorem nmX2 : ∀ a, a < 2 → ∀ b, b < 2 → a ≠ b → (TX2 a).2.1 ≠ (TX2 b).2.1 := by decide +kernel
theorem tyX2_ok : ∀ k, k < 2 → parseFieldDescriptor (TX2 k).2.2.1 = some (tyX2 k) := by decide +kernel
abbrev cX2_init : ByteArray := prog_4_method_1_code
def yX2_init : MethodName := ⟨RX2, "<init>", "()V"⟩
abbrev cX2_listFrom : ByteArray := prog_4_method_2_code
def yX2_listFrom : MethodName := ⟨RX2, "listFrom", "(LBorrowedHands$Town;I)V"⟩
abbrev cX2_listUntilDead : ByteArray := prog_4_method_3_code
def yX2_listUntilDead : MethodName := ⟨RX2, "listUntilDead", "(LBorrowedHands$Town;II)I"⟩
abbrev cX2_lowest : ByteArray := prog_4_method_4_code
def yX2_lowest : MethodName := ⟨RX2, "lowest", "()I"⟩
abbrev cX2_asBits : ByteArray := prog_4_method_5_code
def yX2_asBits : MethodName := ⟨RX2, "asBits", "()I"⟩
abbrev cX2_anyDead : ByteArray := prog_4_method_6_code
def yX2_anyDead : MethodName := ⟨RX2, "anyDead", "(LBorrowedHands$Town;)Z"⟩
abbrev cX2_passUp : ByteArray := prog_4_method_7_code
def yX2_passUp : MethodName := ⟨RX2, "passUp", "(LBorrowedHands$Town;III)I"⟩
abbrev cX2_lineOf : ByteArray := prog_4_method_8_code
def yX2_lineOf : MethodName := ⟨RX2, "lineOf", "(LBorrowedHands$Town;III)I"⟩
def RX3 : String := "BorrowedHands$Mistakes"
def TX3 : u_T := fun k => match k with
  | 0 => ("BorrowedHands$Mistakes", "sets", "[I", true)
  | _ => ("BorrowedHands$Mistakes", "rows", "[I", true)
def tyX3 : Nat → FieldType := fun k => match k with
  | 0 => .array .int
  | _ => .array .int
theorem nmX3 : ∀ a, a < 2 → ∀ b, b < 2 → a ≠ b → (TX3 a).2.1 ≠ (TX3 b).2.1 := by decide +kernel
theorem tyX3_ok : ∀ k, k < 2 → parseFieldDescriptor (TX3 k).2.2.1 = some (tyX3 k) := by decide +kernel
abbrev cX3_init : ByteArray := prog_5_method_1_code
def yX3_init : MethodName := ⟨RX3, "<init>", "()V"⟩
abbrev cX3_gather : ByteArray := prog_5_method_2_code
def yX3_gather : MethodName := ⟨RX3, "gather", "(LBorrowedHands$Town;LBorrowedHands$Hands;II)V"⟩
abbrev cX3_clashes : ByteArray := prog_5_method_3_code
def yX3_clashes : MethodName := ⟨RX3, "clashes", "()I"⟩
abbrev cX3_clash : ByteArray := prog_5_method_4_code
def yX3_clash : MethodName := ⟨RX3, "clash", "(II)Z"⟩
abbrev cX3_unlikeSets : ByteArray := prog_5_method_5_code
def yX3_unlikeSets : MethodName := ⟨RX3, "unlikeSets", "()I"⟩
abbrev cX3_isFirstOfItsLike : ByteArray := prog_5_method_6_code
def yX3_isFirstOfItsLike : MethodName := ⟨RX3, "isFirstOfItsLike", "(I)Z"⟩
abbrev cX3_longestRow : ByteArray := prog_5_method_7_code
def yX3_longestRow : MethodName := ⟨RX3, "longestRow", "()I"⟩
abbrev cX3_longestWithin : ByteArray := prog_5_method_8_code
def yX3_longestWithin : MethodName := ⟨RX3, "longestWithin", "(I)I"⟩
def RX4 : String := "BorrowedHands$Slipping"
def TX4 : u_T := fun k => match k with
  | 0 => ("BorrowedHands$Slipping", "many", "I", false)
  | 1 => ("BorrowedHands$Slipping", "firstWriter", "I", false)
  | 2 => ("BorrowedHands$Slipping", "firstKind", "I", false)
  | 3 => ("BorrowedHands$Slipping", "firstA", "I", false)
  | 4 => ("BorrowedHands$Slipping", "firstB", "I", false)
  | 5 => ("BorrowedHands$Slipping", "needed", "I", false)
  | _ => ("BorrowedHands$Slipping", "wanted", "I", false)
def tyX4 : Nat → FieldType := fun k => match k with
  | 0 => .int
  | 1 => .int
  | 2 => .int
  | 3 => .int
  | 4 => .int
  | 5 => .int
  | _ => .int
theorem nmX4 : ∀ a, a < 7 → ∀ b, b < 7 → a ≠ b → (TX4 a).2.1 ≠ (TX4 b).2.1 := by decide +kernel
theorem tyX4_ok : ∀ k, k < 7 → parseFieldDescriptor (TX4 k).2.2.1 = some (tyX4 k) := by decide +kernel
abbrev cX4_init : ByteArray := prog_6_method_1_code
def yX4_init : MethodName := ⟨RX4, "<init>", "()V"⟩
abbrev cX4_search : ByteArray := prog_6_method_2_code
def yX4_search : MethodName := ⟨RX4, "search", "(LBorrowedHands$Town;LBorrowedHands$Hands;II)V"⟩
abbrev cX4_ofFirst : ByteArray := prog_6_method_3_code
def yX4_ofFirst : MethodName := ⟨RX4, "ofFirst", "(I)I"⟩
abbrev cX4_findDemand : ByteArray := prog_6_method_4_code
def yX4_findDemand : MethodName := ⟨RX4, "findDemand", "(LBorrowedHands$Town;LBorrowedHands$Hands;II)Z"⟩
abbrev cX4_tryHabits : ByteArray := prog_6_method_5_code
def yX4_tryHabits : MethodName := ⟨RX4, "tryHabits", "(LBorrowedHands$Town;II)V"⟩
abbrev cX4_tryOne : ByteArray := prog_6_method_6_code
def yX4_tryOne : MethodName := ⟨RX4, "tryOne", "(IIIII)V"⟩
def RX5 : String := "BorrowedHands$Stretches"
def TX5 : u_T := fun k => match k with
  | 0 => ("BorrowedHands$Stretches", "start", "[I", true)
  | 1 => ("BorrowedHands$Stretches", "choices", "[I", true)
  | _ => ("BorrowedHands$Stretches", "many", "I", false)
def tyX5 : Nat → FieldType := fun k => match k with
  | 0 => .array .int
  | 1 => .array .int
  | _ => .int
theorem nmX5 : ∀ a, a < 3 → ∀ b, b < 3 → a ≠ b → (TX5 a).2.1 ≠ (TX5 b).2.1 := by decide +kernel
theorem tyX5_ok : ∀ k, k < 3 → parseFieldDescriptor (TX5 k).2.2.1 = some (tyX5 k) := by decide +kernel
abbrev cX5_init : ByteArray := prog_7_method_1_code
def yX5_init : MethodName := ⟨RX5, "<init>", "()V"⟩
abbrev cX5_cut : ByteArray := prog_7_method_2_code
def yX5_cut : MethodName := ⟨RX5, "cut", "(LBorrowedHands$Town;LBorrowedHands$Hands;II)V"⟩
abbrev cX5_whoMade : ByteArray := prog_7_method_3_code
def yX5_whoMade : MethodName := ⟨RX5, "whoMade", "(LBorrowedHands$Town;LBorrowedHands$Hands;III)I"⟩
def RX6 : String := "BorrowedHands$Tape"
def TX6 : u_T := fun k => match k with
  | 0 => ("BorrowedHands$Tape", "bytes", "[I", true)
  | 1 => ("BorrowedHands$Tape", "length", "I", false)
  | 2 => ("BorrowedHands$Tape", "at", "I", false)
  | 3 => ("BorrowedHands$Tape", "began", "I", false)
  | _ => ("BorrowedHands$Tape", "fault", "I", false)
def tyX6 : Nat → FieldType := fun k => match k with
  | 0 => .array .int
  | 1 => .int
  | 2 => .int
  | 3 => .int
  | _ => .int
theorem nmX6 : ∀ a, a < 5 → ∀ b, b < 5 → a ≠ b → (TX6 a).2.1 ≠ (TX6 b).2.1 := by decide +kernel
theorem tyX6_ok : ∀ k, k < 5 → parseFieldDescriptor (TX6 k).2.2.1 = some (tyX6 k) := by decide +kernel
abbrev cX6_init : ByteArray := prog_8_method_1_code
def yX6_init : MethodName := ⟨RX6, "<init>", "()V"⟩
abbrev cX6_hasRoom : ByteArray := prog_8_method_2_code
def yX6_hasRoom : MethodName := ⟨RX6, "hasRoom", "(I)Z"⟩
abbrev cX6_append : ByteArray := prog_8_method_3_code
def yX6_append : MethodName := ⟨RX6, "append", "(I)V"⟩
abbrev cX6_readInto : ByteArray := prog_8_method_4_code
def yX6_readInto : MethodName := ⟨RX6, "readInto", "(LBorrowedHands$Town;)I"⟩
abbrev cX6_readPart : ByteArray := prog_8_method_5_code
def yX6_readPart : MethodName := ⟨RX6, "readPart", "(LBorrowedHands$Town;)Z"⟩
abbrev cX6_readSemicolon : ByteArray := prog_8_method_6_code
def yX6_readSemicolon : MethodName := ⟨RX6, "readSemicolon", "()Z"⟩
abbrev cX6_readWriter : ByteArray := prog_8_method_7_code
def yX6_readWriter : MethodName := ⟨RX6, "readWriter", "(LBorrowedHands$Town;)Z"⟩
abbrev cX6_readHabit : ByteArray := prog_8_method_8_code
def yX6_readHabit : MethodName := ⟨RX6, "readHabit", "(LBorrowedHands$Town;I)Z"⟩
abbrev cX6_readUnder : ByteArray := prog_8_method_9_code
def yX6_readUnder : MethodName := ⟨RX6, "readUnder", "(LBorrowedHands$Town;I)Z"⟩
abbrev cX6_readBook : ByteArray := prog_8_method_10_code
def yX6_readBook : MethodName := ⟨RX6, "readBook", "(LBorrowedHands$Town;)Z"⟩
abbrev cX6_readNumber : ByteArray := prog_8_method_11_code
def yX6_readNumber : MethodName := ⟨RX6, "readNumber", "(II)I"⟩
abbrev cX6_readWord : ByteArray := prog_8_method_12_code
def yX6_readWord : MethodName := ⟨RX6, "readWord", "()V"⟩
abbrev cX6_wordIs : ByteArray := prog_8_method_13_code
def yX6_wordIs : MethodName := ⟨RX6, "wordIs", "(Ljava/lang/String;)Z"⟩
abbrev cX6_kindOfWord : ByteArray := prog_8_method_14_code
def yX6_kindOfWord : MethodName := ⟨RX6, "kindOfWord", "()I"⟩
abbrev cX6_wordOfKind : ByteArray := prog_8_method_15_code
def yX6_wordOfKind : MethodName := ⟨RX6, "wordOfKind", "(I)Ljava/lang/String;"⟩
abbrev cX6_skipBlanks : ByteArray := prog_8_method_16_code
def yX6_skipBlanks : MethodName := ⟨RX6, "skipBlanks", "()V"⟩
abbrev cX6_isLetter : ByteArray := prog_8_method_17_code
def yX6_isLetter : MethodName := ⟨RX6, "isLetter", "(I)Z"⟩
abbrev cX6_isDigit : ByteArray := prog_8_method_18_code
def yX6_isDigit : MethodName := ⟨RX6, "isDigit", "(I)Z"⟩
abbrev cX6_refuse : ByteArray := prog_8_method_19_code
def yX6_refuse : MethodName := ⟨RX6, "refuse", "(II)Z"⟩
def RX7 : String := "BorrowedHands$Town"
def TX7 : u_T := fun k => match k with
  | 0 => ("BorrowedHands$Town", "writers", "I", false)
  | 1 => ("BorrowedHands$Town", "books", "I", false)
  | 2 => ("BorrowedHands$Town", "seenCount", "I", false)
  | 3 => ("BorrowedHands$Town", "days", "I", false)
  | 4 => ("BorrowedHands$Town", "moods", "I", false)
  | 5 => ("BorrowedHands$Town", "dead", "I", false)
  | 6 => ("BorrowedHands$Town", "purse", "[I", true)
  | 7 => ("BorrowedHands$Town", "kind", "[I", true)
  | 8 => ("BorrowedHands$Town", "first", "[I", true)
  | 9 => ("BorrowedHands$Town", "second", "[I", true)
  | 10 => ("BorrowedHands$Town", "under", "[I", true)
  | 11 => ("BorrowedHands$Town", "fame", "[I", true)
  | 12 => ("BorrowedHands$Town", "coins", "[I", true)
  | 13 => ("BorrowedHands$Town", "stocked", "[I", true)
  | 14 => ("BorrowedHands$Town", "lengths", "[I", true)
  | 15 => ("BorrowedHands$Town", "pages", "[I", true)
  | 16 => ("BorrowedHands$Town", "stock", "[I", true)
  | _ => ("BorrowedHands$Town", "seen", "[I", true)
def tyX7 : Nat → FieldType := fun k => match k with
  | 0 => .int
  | 1 => .int
  | 2 => .int
  | 3 => .int
  | 4 => .int
  | 5 => .int
  | 6 => .array .int
  | 7 => .array .int
  | 8 => .array .int
  | 9 => .array .int
  | 10 => .array .int
  | 11 => .array .int
  | 12 => .array .int
  | 13 => .array .int
  | 14 => .array .int
  | 15 => .array .int
  | 16 => .array .int
  | _ => .array .int
theorem nmX7 : ∀ a, a < 18 → ∀ b, b < 18 → a ≠ b → (TX7 a).2.1 ≠ (TX7 b).2.1 := by decide +kernel
theorem tyX7_ok : ∀ k, k < 18 → parseFieldDescriptor (TX7 k).2.2.1 = some (tyX7 k) := by decide +kernel
abbrev cX7_init : ByteArray := prog_9_method_1_code
def yX7_init : MethodName := ⟨RX7, "<init>", "()V"⟩
abbrev cX7_empty : ByteArray := prog_9_method_2_code
def yX7_empty : MethodName := ⟨RX7, "empty", "()V"⟩
abbrev cX7_copyFrom : ByteArray := prog_9_method_3_code
def yX7_copyFrom : MethodName := ⟨RX7, "copyFrom", "(LBorrowedHands$Town;)V"⟩
abbrev cX7_copyRow : ByteArray := prog_9_method_4_code
def yX7_copyRow : MethodName := ⟨RX7, "copyRow", "([I[I)V"⟩
abbrev cX7_addWriter : ByteArray := prog_9_method_5_code
def yX7_addWriter : MethodName := ⟨RX7, "addWriter", "(I)V"⟩
abbrev cX7_addBook : ByteArray := prog_9_method_6_code
def yX7_addBook : MethodName := ⟨RX7, "addBook", "()V"⟩
abbrev cX7_addPage : ByteArray := prog_9_method_7_code
def yX7_addPage : MethodName := ⟨RX7, "addPage", "(I)V"⟩
abbrev cX7_isWriter : ByteArray := prog_9_method_8_code
def yX7_isWriter : MethodName := ⟨RX7, "isWriter", "(I)Z"⟩
abbrev cX7_isBook : ByteArray := prog_9_method_9_code
def yX7_isBook : MethodName := ⟨RX7, "isBook", "(I)Z"⟩
abbrev cX7_isPage : ByteArray := prog_9_method_10_code
def yX7_isPage : MethodName := ⟨RX7, "isPage", "(II)Z"⟩
abbrev cX7_isDead : ByteArray := prog_9_method_11_code
def yX7_isDead : MethodName := ⟨RX7, "isDead", "(I)Z"⟩
abbrev cX7_inMood : ByteArray := prog_9_method_12_code
def yX7_inMood : MethodName := ⟨RX7, "inMood", "(I)Z"⟩
abbrev cX7_hasStock : ByteArray := prog_9_method_13_code
def yX7_hasStock : MethodName := ⟨RX7, "hasStock", "(II)Z"⟩
abbrev cX7_stockOf : ByteArray := prog_9_method_14_code
def yX7_stockOf : MethodName := ⟨RX7, "stockOf", "(III)I"⟩
abbrev cX7_putStock : ByteArray := prog_9_method_15_code
def yX7_putStock : MethodName := ⟨RX7, "putStock", "(IIII)V"⟩
abbrev cX7_hasHabit : ByteArray := prog_9_method_16_code
def yX7_hasHabit : MethodName := ⟨RX7, "hasHabit", "(IIII)Z"⟩
abbrev cX7_setHabit : ByteArray := prog_9_method_17_code
def yX7_setHabit : MethodName := ⟨RX7, "setHabit", "(IIII)V"⟩
abbrev cX7_habitOn : ByteArray := prog_9_method_18_code
def yX7_habitOn : MethodName := ⟨RX7, "habitOn", "(II)I"⟩
abbrev cX7_rowOf : ByteArray := prog_9_method_19_code
def yX7_rowOf : MethodName := ⟨RX7, "rowOf", "(II)I"⟩
abbrev cX7_pageOfSeen : ByteArray := prog_9_method_20_code
def yX7_pageOfSeen : MethodName := ⟨RX7, "pageOfSeen", "(II)I"⟩
abbrev cX7_havingUnder : ByteArray := prog_9_method_21_code
def yX7_havingUnder : MethodName := ⟨RX7, "havingUnder", "(I)I"⟩
abbrev cX7_allPages : ByteArray := prog_9_method_22_code
def yX7_allPages : MethodName := ⟨RX7, "allPages", "()I"⟩
abbrev cX7_sumOf : ByteArray := prog_9_method_23_code
def yX7_sumOf : MethodName := ⟨RX7, "sumOf", "([I)I"⟩
def RX8 : String := "BorrowedHands$Trail"
def TX8 : u_T := fun k => match k with
  | 0 => ("BorrowedHands$Trail", "origin", "[I", true)
  | 1 => ("BorrowedHands$Trail", "changer", "[I", true)
  | _ => ("BorrowedHands$Trail", "spare", "[I", true)
def tyX8 : Nat → FieldType := fun k => match k with
  | 0 => .array .int
  | 1 => .array .int
  | _ => .array .int
theorem nmX8 : ∀ a, a < 3 → ∀ b, b < 3 → a ≠ b → (TX8 a).2.1 ≠ (TX8 b).2.1 := by decide +kernel
theorem tyX8_ok : ∀ k, k < 3 → parseFieldDescriptor (TX8 k).2.2.1 = some (tyX8 k) := by decide +kernel
abbrev cX8_init : ByteArray := prog_10_method_1_code
def yX8_init : MethodName := ⟨RX8, "<init>", "()V"⟩
abbrev cX8_follow : ByteArray := prog_10_method_2_code
def yX8_follow : MethodName := ⟨RX8, "follow", "(LBorrowedHands$Town;LBorrowedHands$Hands;I)V"⟩
abbrev cX8_changedBy : ByteArray := prog_10_method_3_code
def yX8_changedBy : MethodName := ⟨RX8, "changedBy", "(I)I"⟩
abbrev cX8_step : ByteArray := prog_10_method_4_code
def yX8_step : MethodName := ⟨RX8, "step", "(LBorrowedHands$Town;II)V"⟩
abbrev cX8_put : ByteArray := prog_10_method_5_code
def yX8_put : MethodName := ⟨RX8, "put", "(IIIZ)V"⟩
abbrev cX8_turn : ByteArray := prog_10_method_6_code
def yX8_turn : MethodName := ⟨RX8, "turn", "([II)V"⟩
abbrev cX8_swap : ByteArray := prog_10_method_7_code
def yX8_swap : MethodName := ⟨RX8, "swap", "([III)V"⟩
def RX9 : String := "BorrowedHands"
def TX9 : u_T := fun k => match k with
  | 0 => ("BorrowedHands", "town", "LBorrowedHands$Town;", true)
  | 1 => ("BorrowedHands", "told", "LBorrowedHands$Town;", true)
  | 2 => ("BorrowedHands", "tape", "LBorrowedHands$Tape;", true)
  | 3 => ("BorrowedHands", "earlier", "[LBorrowedHands$Town;", true)
  | 4 => ("BorrowedHands", "shelves", "[LBorrowedHands$Town;", true)
  | 5 => ("BorrowedHands", "hands", "LBorrowedHands$Hands;", true)
  | 6 => ("BorrowedHands", "trail", "LBorrowedHands$Trail;", true)
  | 7 => ("BorrowedHands", "slipping", "LBorrowedHands$Slipping;", true)
  | 8 => ("BorrowedHands", "stretches", "LBorrowedHands$Stretches;", true)
  | 9 => ("BorrowedHands", "apart", "LBorrowedHands$Apart;", true)
  | 10 => ("BorrowedHands", "mistakes", "LBorrowedHands$Mistakes;", true)
  | 11 => ("BorrowedHands", "flow", "[I", true)
  | 12 => ("BorrowedHands", "ways", "[J", true)
  | 13 => ("BorrowedHands", "nextEarlier", "I", false)
  | 14 => ("BorrowedHands", "undoable", "I", false)
  | _ => ("BorrowedHands", "kept", "I", false)
def tyX9 : Nat → FieldType := fun k => match k with
  | 0 => .object "BorrowedHands$Town"
  | 1 => .object "BorrowedHands$Town"
  | 2 => .object "BorrowedHands$Tape"
  | 3 => .array (.object "BorrowedHands$Town")
  | 4 => .array (.object "BorrowedHands$Town")
  | 5 => .object "BorrowedHands$Hands"
  | 6 => .object "BorrowedHands$Trail"
  | 7 => .object "BorrowedHands$Slipping"
  | 8 => .object "BorrowedHands$Stretches"
  | 9 => .object "BorrowedHands$Apart"
  | 10 => .object "BorrowedHands$Mistakes"
  | 11 => .array .int
  | 12 => .array .long
  | 13 => .int
  | 14 => .int
  | _ => .int
theorem nmX9 : ∀ a, a < 16 → ∀ b, b < 16 → a ≠ b → (TX9 a).2.1 ≠ (TX9 b).2.1 := by decide +kernel
theorem tyX9_ok : ∀ k, k < 16 → parseFieldDescriptor (TX9 k).2.2.1 = some (tyX9 k) := by decide +kernel
abbrev cX9_init : ByteArray := prog_1_method_1_code
def yX9_init : MethodName := ⟨RX9, "<init>", "()V"⟩
abbrev cX9_feed : ByteArray := prog_1_method_2_code
def yX9_feed : MethodName := ⟨RX9, "feed", "(IIIII)I"⟩
abbrev cX9_end : ByteArray := prog_1_method_3_code
def yX9_end : MethodName := ⟨RX9, "end", "(I)I"⟩
abbrev cX9_tell : ByteArray := prog_1_method_4_code
def yX9_tell : MethodName := ⟨RX9, "tell", "()I"⟩
abbrev cX9_hire : ByteArray := prog_1_method_5_code
def yX9_hire : MethodName := ⟨RX9, "hire", "(II)I"⟩
abbrev cX9_sack : ByteArray := prog_1_method_6_code
def yX9_sack : MethodName := ⟨RX9, "sack", "(I)I"⟩
abbrev cX9_teach : ByteArray := prog_1_method_7_code
def yX9_teach : MethodName := ⟨RX9, "teach", "(IIII)I"⟩
abbrev cX9_praise : ByteArray := prog_1_method_8_code
def yX9_praise : MethodName := ⟨RX9, "praise", "(II)I"⟩
abbrev cX9_blame : ByteArray := prog_1_method_9_code
def yX9_blame : MethodName := ⟨RX9, "blame", "(II)I"⟩
abbrev cX9_order : ByteArray := prog_1_method_10_code
def yX9_order : MethodName := ⟨RX9, "order", "(II)I"⟩
abbrev cX9_day : ByteArray := prog_1_method_11_code
def yX9_day : MethodName := ⟨RX9, "day", "(I)I"⟩
abbrev cX9_store : ByteArray := prog_1_method_12_code
def yX9_store : MethodName := ⟨RX9, "store", "(II)I"⟩
abbrev cX9_die : ByteArray := prog_1_method_13_code
def yX9_die : MethodName := ⟨RX9, "die", "(I)I"⟩
abbrev cX9_see : ByteArray := prog_1_method_14_code
def yX9_see : MethodName := ⟨RX9, "see", "(I)I"⟩
abbrev cX9_forget : ByteArray := prog_1_method_15_code
def yX9_forget : MethodName := ⟨RX9, "forget", "()I"⟩
abbrev cX9_undo : ByteArray := prog_1_method_16_code
def yX9_undo : MethodName := ⟨RX9, "undo", "()I"⟩
abbrev cX9_keep : ByteArray := prog_1_method_17_code
def yX9_keep : MethodName := ⟨RX9, "keep", "(I)I"⟩
abbrev cX9_back : ByteArray := prog_1_method_18_code
def yX9_back : MethodName := ⟨RX9, "back", "(I)I"⟩
abbrev cX9_writer : ByteArray := prog_1_method_19_code
def yX9_writer : MethodName := ⟨RX9, "writer", "(II)I"⟩
abbrev cX9_page : ByteArray := prog_1_method_20_code
def yX9_page : MethodName := ⟨RX9, "page", "(II)I"⟩
abbrev cX9_line : ByteArray := prog_1_method_21_code
def yX9_line : MethodName := ⟨RX9, "line", "(III)I"⟩
abbrev cX9_trace : ByteArray := prog_1_method_22_code
def yX9_trace : MethodName := ⟨RX9, "trace", "(IIIII)I"⟩
abbrev cX9_own : ByteArray := prog_1_method_23_code
def yX9_own : MethodName := ⟨RX9, "own", "(III)I"⟩
abbrev cX9_pay : ByteArray := prog_1_method_24_code
def yX9_pay : MethodName := ⟨RX9, "pay", "(III)I"⟩
abbrev cX9_alike : ByteArray := prog_1_method_25_code
def yX9_alike : MethodName := ⟨RX9, "alike", "(II)I"⟩
abbrev cX9_fits : ByteArray := prog_1_method_26_code
def yX9_fits : MethodName := ⟨RX9, "fits", "(II)I"⟩
abbrev cX9_likeliest : ByteArray := prog_1_method_27_code
def yX9_likeliest : MethodName := ⟨RX9, "likeliest", "(II)I"⟩
abbrev cX9_matches : ByteArray := prog_1_method_28_code
def yX9_matches : MethodName := ⟨RX9, "matches", "(II)J"⟩
abbrev cX9_trees : ByteArray := prog_1_method_29_code
def yX9_trees : MethodName := ⟨RX9, "trees", "(II)J"⟩
abbrev cX9_under : ByteArray := prog_1_method_30_code
def yX9_under : MethodName := ⟨RX9, "under", "(III)I"⟩
abbrev cX9_breaks : ByteArray := prog_1_method_31_code
def yX9_breaks : MethodName := ⟨RX9, "breaks", "(III)I"⟩
abbrev cX9_untangle : ByteArray := prog_1_method_32_code
def yX9_untangle : MethodName := ⟨RX9, "untangle", "(IIII)J"⟩
abbrev cX9_tells : ByteArray := prog_1_method_33_code
def yX9_tells : MethodName := ⟨RX9, "tells", "(III)I"⟩
abbrev cX9_slips : ByteArray := prog_1_method_34_code
def yX9_slips : MethodName := ⟨RX9, "slips", "(IIIII)I"⟩
abbrev cX9_errors : ByteArray := prog_1_method_35_code
def yX9_errors : MethodName := ⟨RX9, "errors", "(III)I"⟩
abbrev cX9_nested : ByteArray := prog_1_method_36_code
def yX9_nested : MethodName := ⟨RX9, "nested", "(III)I"⟩
abbrev cX9_shared : ByteArray := prog_1_method_37_code
def yX9_shared : MethodName := ⟨RX9, "shared", "(II)I"⟩
abbrev cX9_quarrel : ByteArray := prog_1_method_38_code
def yX9_quarrel : MethodName := ⟨RX9, "quarrel", "(IIII)I"⟩
abbrev cX9_served : ByteArray := prog_1_method_39_code
def yX9_served : MethodName := ⟨RX9, "served", "(II)I"⟩
abbrev cX9_between : ByteArray := prog_1_method_40_code
def yX9_between : MethodName := ⟨RX9, "between", "(III)I"⟩
abbrev cX9_count : ByteArray := prog_1_method_41_code
def yX9_count : MethodName := ⟨RX9, "count", "(I)I"⟩
abbrev cX9_isSign : ByteArray := prog_1_method_42_code
def yX9_isSign : MethodName := ⟨RX9, "isSign", "(I)Z"⟩
abbrev cX9_isRow : ByteArray := prog_1_method_43_code
def yX9_isRow : MethodName := ⟨RX9, "isRow", "(I)Z"⟩
abbrev cX9_isGift : ByteArray := prog_1_method_44_code
def yX9_isGift : MethodName := ⟨RX9, "isGift", "(I)Z"⟩
abbrev cX9_isShelf : ByteArray := prog_1_method_45_code
def yX9_isShelf : MethodName := ⟨RX9, "isShelf", "(I)Z"⟩
abbrev cX9_isSetOfWriters : ByteArray := prog_1_method_46_code
def yX9_isSetOfWriters : MethodName := ⟨RX9, "isSetOfWriters", "(I)Z"⟩
abbrev cX9_remember : ByteArray := prog_1_method_47_code
def yX9_remember : MethodName := ⟨RX9, "remember", "()V"⟩
abbrev cX9_handsOf : ByteArray := prog_1_method_48_code
def yX9_handsOf : MethodName := ⟨RX9, "handsOf", "(I)I"⟩
abbrev cX9_lowestOf : ByteArray := prog_1_method_49_code
def yX9_lowestOf : MethodName := ⟨RX9, "lowestOf", "(I)I"⟩
abbrev cX9_mostHands : ByteArray := prog_1_method_50_code
def yX9_mostHands : MethodName := ⟨RX9, "mostHands", "()I"⟩
abbrev cX9_lineOf : ByteArray := prog_1_method_51_code
def yX9_lineOf : MethodName := ⟨RX9, "lineOf", "(III)I"⟩
abbrev cX9_lineAt : ByteArray := prog_1_method_52_code
def yX9_lineAt : MethodName := ⟨RX9, "lineAt", "(I)I"⟩
abbrev cX9_lacksLines : ByteArray := prog_1_method_53_code
def yX9_lacksLines : MethodName := ⟨RX9, "lacksLines", "(I)Z"⟩
abbrev cX9_followTrail : ByteArray := prog_1_method_54_code
def yX9_followTrail : MethodName := ⟨RX9, "followTrail", "(III)Z"⟩
abbrev cX9_passedUp : ByteArray := prog_1_method_55_code
def yX9_passedUp : MethodName := ⟨RX9, "passedUp", "(II)I"⟩
abbrev cX9_seenFitsWriters : ByteArray := prog_1_method_56_code
def yX9_seenFitsWriters : MethodName := ⟨RX9, "seenFitsWriters", "()Z"⟩
abbrev cX9_choicesBySeen : ByteArray := prog_1_method_57_code
def yX9_choicesBySeen : MethodName := ⟨RX9, "choicesBySeen", "(II)I"⟩
abbrev cX9_countWays : ByteArray := prog_1_method_58_code
def yX9_countWays : MethodName := ⟨RX9, "countWays", "(III)V"⟩
abbrev cX9_sendDown : ByteArray := prog_1_method_59_code
def yX9_sendDown : MethodName := ⟨RX9, "sendDown", "(I)I"⟩
def RX10 : String := "BorrowedHandsModel"
def TX10 : u_T := fun k => match k with
  | 0 => ("BorrowedHandsModel", "now", "[I", true)
  | 1 => ("BorrowedHandsModel", "heard", "[I", true)
  | 2 => ("BorrowedHandsModel", "past", "[I", true)
  | 3 => ("BorrowedHandsModel", "shelf", "[I", true)
  | 4 => ("BorrowedHandsModel", "isKept", "[Z", true)
  | 5 => ("BorrowedHandsModel", "pastMany", "I", false)
  | 6 => ("BorrowedHandsModel", "tape", "[B", true)
  | 7 => ("BorrowedHandsModel", "taped", "I", false)
  | 8 => ("BorrowedHandsModel", "at", "I", false)
  | 9 => ("BorrowedHandsModel", "fault", "I", false)
  | 10 => ("BorrowedHandsModel", "numberAt", "I", false)
  | 11 => ("BorrowedHandsModel", "hand", "[I", true)
  | 12 => ("BorrowedHandsModel", "lowest", "I", false)
  | 13 => ("BorrowedHandsModel", "mood", "[I", true)
  | 14 => ("BorrowedHandsModel", "comes", "[I", true)
  | 15 => ("BorrowedHandsModel", "changer", "[I", true)
  | 16 => ("BorrowedHandsModel", "wasComes", "[I", true)
  | 17 => ("BorrowedHandsModel", "wasChanger", "[I", true)
  | 18 => ("BorrowedHandsModel", "source", "[I", true)
  | 19 => ("BorrowedHandsModel", "wasSource", "[I", true)
  | 20 => ("BorrowedHandsModel", "firstSource", "[I", true)
  | 21 => ("BorrowedHandsModel", "stretchAt", "[I", true)
  | 22 => ("BorrowedHandsModel", "stretch", "[I", true)
  | 23 => ("BorrowedHandsModel", "ways", "[J", true)
  | 24 => ("BorrowedHandsModel", "apart", "[I", true)
  | 25 => ("BorrowedHandsModel", "slipMany", "I", false)
  | 26 => ("BorrowedHandsModel", "slipWriter", "I", false)
  | 27 => ("BorrowedHandsModel", "slipKind", "I", false)
  | 28 => ("BorrowedHandsModel", "slipA", "I", false)
  | 29 => ("BorrowedHandsModel", "slipB", "I", false)
  | 30 => ("BorrowedHandsModel", "error", "[I", true)
  | 31 => ("BorrowedHandsModel", "unlike", "[I", true)
  | _ => ("BorrowedHandsModel", "longest", "[I", true)
def tyX10 : Nat → FieldType := fun k => match k with
  | 0 => .array .int
  | 1 => .array .int
  | 2 => .array .int
  | 3 => .array .int
  | 4 => .array .boolean
  | 5 => .int
  | 6 => .array .byte
  | 7 => .int
  | 8 => .int
  | 9 => .int
  | 10 => .int
  | 11 => .array .int
  | 12 => .int
  | 13 => .array .int
  | 14 => .array .int
  | 15 => .array .int
  | 16 => .array .int
  | 17 => .array .int
  | 18 => .array .int
  | 19 => .array .int
  | 20 => .array .int
  | 21 => .array .int
  | 22 => .array .int
  | 23 => .array .long
  | 24 => .array .int
  | 25 => .int
  | 26 => .int
  | 27 => .int
  | 28 => .int
  | 29 => .int
  | 30 => .array .int
  | 31 => .array .int
  | _ => .array .int
theorem nmX10 : ∀ a, a < 33 → ∀ b, b < 33 → a ≠ b → (TX10 a).2.1 ≠ (TX10 b).2.1 := by decide +kernel
theorem tyX10_ok : ∀ k, k < 33 → parseFieldDescriptor (TX10 k).2.2.1 = some (tyX10 k) := by decide +kernel
abbrev cX10_init : ByteArray := prog_12_method_1_code
def yX10_init : MethodName := ⟨RX10, "<init>", "()V"⟩
abbrev cX10_in : ByteArray := prog_12_method_2_code
def yX10_in : MethodName := ⟨RX10, "in", "(JJJ)Z"⟩
abbrev cX10_truth : ByteArray := prog_12_method_3_code
def yX10_truth : MethodName := ⟨RX10, "truth", "(Z)I"⟩
abbrev cX10_has : ByteArray := prog_12_method_4_code
def yX10_has : MethodName := ⟨RX10, "has", "(II)Z"⟩
abbrev cX10_moves : ByteArray := prog_12_method_5_code
def yX10_moves : MethodName := ⟨RX10, "moves", "([II[II)V"⟩
abbrev cX10_feed : ByteArray := prog_12_method_6_code
def yX10_feed : MethodName := ⟨RX10, "feed", "(IIIII)I"⟩
abbrev cX10_puts : ByteArray := prog_12_method_7_code
def yX10_puts : MethodName := ⟨RX10, "puts", "(I)V"⟩
abbrev cX10_end : ByteArray := prog_12_method_8_code
def yX10_end : MethodName := ⟨RX10, "end", "(I)I"⟩
abbrev cX10_sign : ByteArray := prog_12_method_9_code
def yX10_sign : MethodName := ⟨RX10, "sign", "()I"⟩
abbrev cX10_next : ByteArray := prog_12_method_10_code
def yX10_next : MethodName := ⟨RX10, "next", "()I"⟩
abbrev cX10_isRight : ByteArray := prog_12_method_11_code
def yX10_isRight : MethodName := ⟨RX10, "isRight", "()Z"⟩
abbrev cX10_fails : ByteArray := prog_12_method_12_code
def yX10_fails : MethodName := ⟨RX10, "fails", "(II)V"⟩
abbrev cX10_isDigit : ByteArray := prog_12_method_13_code
def yX10_isDigit : MethodName := ⟨RX10, "isDigit", "()Z"⟩
abbrev cX10_number : ByteArray := prog_12_method_14_code
def yX10_number : MethodName := ⟨RX10, "number", "(II)I"⟩
abbrev cX10_isWord : ByteArray := prog_12_method_15_code
def yX10_isWord : MethodName := ⟨RX10, "isWord", "(Ljava/lang/String;)Z"⟩
abbrev cX10_takes : ByteArray := prog_12_method_16_code
def yX10_takes : MethodName := ⟨RX10, "takes", "(Ljava/lang/String;)Z"⟩
abbrev cX10_kindTold : ByteArray := prog_12_method_17_code
def yX10_kindTold : MethodName := ⟨RX10, "kindTold", "()I"⟩
abbrev cX10_needs : ByteArray := prog_12_method_18_code
def yX10_needs : MethodName := ⟨RX10, "needs", "(I)I"⟩
abbrev cX10_readsHabit : ByteArray := prog_12_method_19_code
def yX10_readsHabit : MethodName := ⟨RX10, "readsHabit", "(I)V"⟩
abbrev cX10_readsWriter : ByteArray := prog_12_method_20_code
def yX10_readsWriter : MethodName := ⟨RX10, "readsWriter", "(I)V"⟩
abbrev cX10_readsBook : ByteArray := prog_12_method_21_code
def yX10_readsBook : MethodName := ⟨RX10, "readsBook", "(I)V"⟩
abbrev cX10_readsPart : ByteArray := prog_12_method_22_code
def yX10_readsPart : MethodName := ⟨RX10, "readsPart", "()V"⟩
abbrev cX10_tell : ByteArray := prog_12_method_23_code
def yX10_tell : MethodName := ⟨RX10, "tell", "()I"⟩
abbrev cX10_isWriter : ByteArray := prog_12_method_24_code
def yX10_isWriter : MethodName := ⟨RX10, "isWriter", "(I)Z"⟩
abbrev cX10_of : ByteArray := prog_12_method_25_code
def yX10_of : MethodName := ⟨RX10, "of", "(II)I"⟩
abbrev cX10_puts_ : ByteArray := prog_12_method_26_code
def yX10_puts_ : MethodName := ⟨RX10, "puts", "(III)V"⟩
abbrev cX10_under : ByteArray := prog_12_method_27_code
def yX10_under : MethodName := ⟨RX10, "under", "(I)I"⟩
abbrev cX10_isDead : ByteArray := prog_12_method_28_code
def yX10_isDead : MethodName := ⟨RX10, "isDead", "(I)Z"⟩
abbrev cX10_isBook : ByteArray := prog_12_method_29_code
def yX10_isBook : MethodName := ⟨RX10, "isBook", "(I)Z"⟩
abbrev cX10_pagesOf : ByteArray := prog_12_method_30_code
def yX10_pagesOf : MethodName := ⟨RX10, "pagesOf", "(I)I"⟩
abbrev cX10_isPage : ByteArray := prog_12_method_31_code
def yX10_isPage : MethodName := ⟨RX10, "isPage", "(II)Z"⟩
abbrev cX10_pageOf : ByteArray := prog_12_method_32_code
def yX10_pageOf : MethodName := ⟨RX10, "pageOf", "(II)I"⟩
abbrev cX10_hasStock : ByteArray := prog_12_method_33_code
def yX10_hasStock : MethodName := ⟨RX10, "hasStock", "(II)Z"⟩
abbrev cX10_stockAt : ByteArray := prog_12_method_34_code
def yX10_stockAt : MethodName := ⟨RX10, "stockAt", "(III)I"⟩
abbrev cX10_hands : ByteArray := prog_12_method_35_code
def yX10_hands : MethodName := ⟨RX10, "hands", "(I)I"⟩
abbrev cX10_handsSet : ByteArray := prog_12_method_36_code
def yX10_handsSet : MethodName := ⟨RX10, "handsSet", "(I)I"⟩
abbrev cX10_done : ByteArray := prog_12_method_37_code
def yX10_done : MethodName := ⟨RX10, "done", "(IIII)I"⟩
abbrev cX10_with : ByteArray := prog_12_method_38_code
def yX10_with : MethodName := ⟨RX10, "with", "(III)I"⟩
abbrev cX10_habit : ByteArray := prog_12_method_39_code
def yX10_habit : MethodName := ⟨RX10, "habit", "(II)I"⟩
abbrev cX10_passes : ByteArray := prog_12_method_40_code
def yX10_passes : MethodName := ⟨RX10, "passes", "(II)I"⟩
abbrev cX10_lineOf : ByteArray := prog_12_method_41_code
def yX10_lineOf : MethodName := ⟨RX10, "lineOf", "(III)I"⟩
abbrev cX10_isAnyDead : ByteArray := prog_12_method_42_code
def yX10_isAnyDead : MethodName := ⟨RX10, "isAnyDead", "(I)Z"⟩
abbrev cX10_keepsPast : ByteArray := prog_12_method_43_code
def yX10_keepsPast : MethodName := ⟨RX10, "keepsPast", "()V"⟩
abbrev cX10_undo : ByteArray := prog_12_method_44_code
def yX10_undo : MethodName := ⟨RX10, "undo", "()I"⟩
abbrev cX10_keep : ByteArray := prog_12_method_45_code
def yX10_keep : MethodName := ⟨RX10, "keep", "(I)I"⟩
abbrev cX10_back : ByteArray := prog_12_method_46_code
def yX10_back : MethodName := ⟨RX10, "back", "(I)I"⟩
abbrev cX10_hire : ByteArray := prog_12_method_47_code
def yX10_hire : MethodName := ⟨RX10, "hire", "(II)I"⟩
abbrev cX10_sack : ByteArray := prog_12_method_48_code
def yX10_sack : MethodName := ⟨RX10, "sack", "(I)I"⟩
abbrev cX10_isHabit : ByteArray := prog_12_method_49_code
def yX10_isHabit : MethodName := ⟨RX10, "isHabit", "(III)Z"⟩
abbrev cX10_hasHabit : ByteArray := prog_12_method_50_code
def yX10_hasHabit : MethodName := ⟨RX10, "hasHabit", "(IIII)Z"⟩
abbrev cX10_learns : ByteArray := prog_12_method_51_code
def yX10_learns : MethodName := ⟨RX10, "learns", "(IIII)V"⟩
abbrev cX10_teach : ByteArray := prog_12_method_52_code
def yX10_teach : MethodName := ⟨RX10, "teach", "(IIII)I"⟩
abbrev cX10_goesDown : ByteArray := prog_12_method_53_code
def yX10_goesDown : MethodName := ⟨RX10, "goesDown", "(IIIZ)I"⟩
abbrev cX10_praise : ByteArray := prog_12_method_54_code
def yX10_praise : MethodName := ⟨RX10, "praise", "(II)I"⟩
abbrev cX10_blame : ByteArray := prog_12_method_55_code
def yX10_blame : MethodName := ⟨RX10, "blame", "(II)I"⟩
abbrev cX10_order : ByteArray := prog_12_method_56_code
def yX10_order : MethodName := ⟨RX10, "order", "(II)I"⟩
abbrev cX10_day : ByteArray := prog_12_method_57_code
def yX10_day : MethodName := ⟨RX10, "day", "(I)I"⟩
abbrev cX10_moods : ByteArray := prog_12_method_58_code
def yX10_moods : MethodName := ⟨RX10, "moods", "()I"⟩
abbrev cX10_hasAll : ByteArray := prog_12_method_59_code
def yX10_hasAll : MethodName := ⟨RX10, "hasAll", "(II)Z"⟩
abbrev cX10_store : ByteArray := prog_12_method_60_code
def yX10_store : MethodName := ⟨RX10, "store", "(II)I"⟩
abbrev cX10_die : ByteArray := prog_12_method_61_code
def yX10_die : MethodName := ⟨RX10, "die", "(I)I"⟩
abbrev cX10_see : ByteArray := prog_12_method_62_code
def yX10_see : MethodName := ⟨RX10, "see", "(I)I"⟩
abbrev cX10_forget : ByteArray := prog_12_method_63_code
def yX10_forget : MethodName := ⟨RX10, "forget", "()I"⟩
abbrev cX10_overWhom : ByteArray := prog_12_method_64_code
def yX10_overWhom : MethodName := ⟨RX10, "overWhom", "(I)I"⟩
abbrev cX10_writer : ByteArray := prog_12_method_65_code
def yX10_writer : MethodName := ⟨RX10, "writer", "(II)I"⟩
abbrev cX10_page : ByteArray := prog_12_method_66_code
def yX10_page : MethodName := ⟨RX10, "page", "(II)I"⟩
abbrev cX10_line : ByteArray := prog_12_method_67_code
def yX10_line : MethodName := ⟨RX10, "line", "(III)I"⟩
abbrev cX10_brings : ByteArray := prog_12_method_68_code
def yX10_brings : MethodName := ⟨RX10, "brings", "(II)V"⟩
abbrev cX10_traces : ByteArray := prog_12_method_69_code
def yX10_traces : MethodName := ⟨RX10, "traces", "(III)V"⟩
abbrev cX10_laysTrace : ByteArray := prog_12_method_70_code
def yX10_laysTrace : MethodName := ⟨RX10, "laysTrace", "(III)V"⟩
abbrev cX10_trace : ByteArray := prog_12_method_71_code
def yX10_trace : MethodName := ⟨RX10, "trace", "(IIIII)I"⟩
abbrev cX10_own : ByteArray := prog_12_method_72_code
def yX10_own : MethodName := ⟨RX10, "own", "(III)I"⟩
abbrev cX10_pay : ByteArray := prog_12_method_73_code
def yX10_pay : MethodName := ⟨RX10, "pay", "(III)I"⟩
abbrev cX10_laysSource : ByteArray := prog_12_method_74_code
def yX10_laysSource : MethodName := ⟨RX10, "laysSource", "(I)V"⟩
abbrev cX10_leads : ByteArray := prog_12_method_75_code
def yX10_leads : MethodName := ⟨RX10, "leads", "(III)V"⟩
abbrev cX10_alike : ByteArray := prog_12_method_76_code
def yX10_alike : MethodName := ⟨RX10, "alike", "(II)I"⟩
abbrev cX10_fits : ByteArray := prog_12_method_77_code
def yX10_fits : MethodName := ⟨RX10, "fits", "(II)I"⟩
abbrev cX10_likeliest : ByteArray := prog_12_method_78_code
def yX10_likeliest : MethodName := ⟨RX10, "likeliest", "(II)I"⟩
abbrev cX10_matches : ByteArray := prog_12_method_79_code
def yX10_matches : MethodName := ⟨RX10, "matches", "(II)J"⟩
abbrev cX10_seen : ByteArray := prog_12_method_80_code
def yX10_seen : MethodName := ⟨RX10, "seen", "(I)I"⟩
abbrev cX10_canTree : ByteArray := prog_12_method_81_code
def yX10_canTree : MethodName := ⟨RX10, "canTree", "(II)Z"⟩
abbrev cX10_choices : ByteArray := prog_12_method_82_code
def yX10_choices : MethodName := ⟨RX10, "choices", "(III)I"⟩
abbrev cX10_trees : ByteArray := prog_12_method_83_code
def yX10_trees : MethodName := ⟨RX10, "trees", "(II)J"⟩
abbrev cX10_under_ : ByteArray := prog_12_method_84_code
def yX10_under_ : MethodName := ⟨RX10, "under", "(III)I"⟩
abbrev cX10_couldBe : ByteArray := prog_12_method_85_code
def yX10_couldBe : MethodName := ⟨RX10, "couldBe", "(III)I"⟩
abbrev cX10_stretches : ByteArray := prog_12_method_86_code
def yX10_stretches : MethodName := ⟨RX10, "stretches", "(II)I"⟩
abbrev cX10_canBreak : ByteArray := prog_12_method_87_code
def yX10_canBreak : MethodName := ⟨RX10, "canBreak", "(II)Z"⟩
abbrev cX10_breaks : ByteArray := prog_12_method_88_code
def yX10_breaks : MethodName := ⟨RX10, "breaks", "(III)I"⟩
abbrev cX10_between : ByteArray := prog_12_method_89_code
def yX10_between : MethodName := ⟨RX10, "between", "(III)I"⟩
abbrev cX10_untangle : ByteArray := prog_12_method_90_code
def yX10_untangle : MethodName := ⟨RX10, "untangle", "(IIII)J"⟩
abbrev cX10_isSet : ByteArray := prog_12_method_91_code
def yX10_isSet : MethodName := ⟨RX10, "isSet", "(I)Z"⟩
abbrev cX10_unlikeOn : ByteArray := prog_12_method_92_code
def yX10_unlikeOn : MethodName := ⟨RX10, "unlikeOn", "(III)I"⟩
abbrev cX10_laysApart : ByteArray := prog_12_method_93_code
def yX10_laysApart : MethodName := ⟨RX10, "laysApart", "(II)I"⟩
abbrev cX10_tells : ByteArray := prog_12_method_94_code
def yX10_tells : MethodName := ⟨RX10, "tells", "(III)I"⟩
abbrev cX10_lineWith : ByteArray := prog_12_method_95_code
def yX10_lineWith : MethodName := ⟨RX10, "lineWith", "(IIIIII)I"⟩
abbrev cX10_slipsBy : ByteArray := prog_12_method_96_code
def yX10_slipsBy : MethodName := ⟨RX10, "slipsBy", "(IIIII)V"⟩
abbrev cX10_slips : ByteArray := prog_12_method_97_code
def yX10_slips : MethodName := ⟨RX10, "slips", "(IIIII)I"⟩
abbrev cX10_errorsOf : ByteArray := prog_12_method_98_code
def yX10_errorsOf : MethodName := ⟨RX10, "errorsOf", "(III)I"⟩
abbrev cX10_errors : ByteArray := prog_12_method_99_code
def yX10_errors : MethodName := ⟨RX10, "errors", "(III)I"⟩
abbrev cX10_isWithin : ByteArray := prog_12_method_100_code
def yX10_isWithin : MethodName := ⟨RX10, "isWithin", "(II)Z"⟩
abbrev cX10_clashes : ByteArray := prog_12_method_101_code
def yX10_clashes : MethodName := ⟨RX10, "clashes", "()I"⟩
abbrev cX10_laysUnlike : ByteArray := prog_12_method_102_code
def yX10_laysUnlike : MethodName := ⟨RX10, "laysUnlike", "()I"⟩
abbrev cX10_longestRow : ByteArray := prog_12_method_103_code
def yX10_longestRow : MethodName := ⟨RX10, "longestRow", "(I)I"⟩
abbrev cX10_nested : ByteArray := prog_12_method_104_code
def yX10_nested : MethodName := ⟨RX10, "nested", "(III)I"⟩
abbrev cX10_shared : ByteArray := prog_12_method_105_code
def yX10_shared : MethodName := ⟨RX10, "shared", "(II)I"⟩
abbrev cX10_quarrel : ByteArray := prog_12_method_106_code
def yX10_quarrel : MethodName := ⟨RX10, "quarrel", "(IIII)I"⟩
abbrev cX10_makes : ByteArray := prog_12_method_107_code
def yX10_makes : MethodName := ⟨RX10, "makes", "(III)I"⟩
abbrev cX10_served : ByteArray := prog_12_method_108_code
def yX10_served : MethodName := ⟨RX10, "served", "(II)I"⟩
abbrev cX10_sumOf : ByteArray := prog_12_method_109_code
def yX10_sumOf : MethodName := ⟨RX10, "sumOf", "(I)I"⟩
abbrev cX10_pagesOfAll : ByteArray := prog_12_method_110_code
def yX10_pagesOfAll : MethodName := ⟨RX10, "pagesOfAll", "()I"⟩
abbrev cX10_alone : ByteArray := prog_12_method_111_code
def yX10_alone : MethodName := ⟨RX10, "alone", "()I"⟩
abbrev cX10_mostHands : ByteArray := prog_12_method_112_code
def yX10_mostHands : MethodName := ⟨RX10, "mostHands", "()I"⟩
abbrev cX10_deadOnes : ByteArray := prog_12_method_113_code
def yX10_deadOnes : MethodName := ⟨RX10, "deadOnes", "()I"⟩
abbrev cX10_count : ByteArray := prog_12_method_114_code
def yX10_count : MethodName := ⟨RX10, "count", "(I)I"⟩
def RJ6 : String := "java/lang/Integer"
abbrev cJ6_bitCount_0f7a4 : ByteArray := prog_13_method_49_code
def yJ6_bitCount_0f7a4 : MethodName := ⟨RJ6, "bitCount", "(I)I"⟩
def RJ9 : String := "java/lang/Math"
abbrev cJ9_max_7cf53 : ByteArray := prog_14_method_65_code
def yJ9_max_7cf53 : MethodName := ⟨RJ9, "max", "(II)I"⟩
abbrev cJ9_min_7cf53 : ByteArray := prog_14_method_69_code
def yJ9_min_7cf53 : MethodName := ⟨RJ9, "min", "(II)I"⟩
def RJ0 : String := "java/lang/String"
abbrev cJ0_length_8abf5 : ByteArray := prog_15_method_54_code
def yJ0_length_8abf5 : MethodName := ⟨RJ0, "length", "()I"⟩
abbrev cJ0_charAt_5068e : ByteArray := prog_15_method_56_code
def yJ0_charAt_5068e : MethodName := ⟨RJ0, "charAt", "(I)C"⟩
abbrev cJ0_coder_7d493 : ByteArray := prog_15_method_152_code
def yJ0_coder_7d493 : MethodName := ⟨RJ0, "coder", "()B"⟩
abbrev cJ0_isLatin1_aae02 : ByteArray := prog_15_method_154_code
def yJ0_isLatin1_aae02 : MethodName := ⟨RJ0, "isLatin1", "()Z"⟩
abbrev cJ0_checkIndex_df160 : ByteArray := prog_15_method_155_code
def yJ0_checkIndex_df160 : MethodName := ⟨RJ0, "checkIndex", "(II)V"⟩
def RJ1 : String := "java/lang/StringLatin1"
abbrev cJ1_charAt_3b067 : ByteArray := prog_16_method_2_code
def yJ1_charAt_3b067 : MethodName := ⟨RJ1, "charAt", "([BI)C"⟩
def RJ2 : String := "java/lang/StringUTF16"
abbrev cJ2_getChar_3b067 : ByteArray := prog_17_method_5_code
def yJ2_getChar_3b067 : MethodName := ⟨RJ2, "getChar", "([BI)C"⟩
abbrev cJ2_length_9d52b : ByteArray := prog_17_method_6_code
def yJ2_length_9d52b : MethodName := ⟨RJ2, "length", "([B)I"⟩
abbrev cJ2_charAt_3b067 : ByteArray := prog_17_method_83_code
def yJ2_charAt_3b067 : MethodName := ⟨RJ2, "charAt", "([BI)C"⟩
abbrev cJ2_checkIndex_2214a : ByteArray := prog_17_method_91_code
def yJ2_checkIndex_2214a : MethodName := ⟨RJ2, "checkIndex", "(I[B)V"⟩
def RJ10 : String := "java/lang/System"
def RJ3 : String := "jdk/internal/util/Preconditions"
abbrev cJ3_checkIndex_8e157 : ByteArray := prog_19_method_11_code
def yJ3_checkIndex_8e157 : MethodName := ⟨RJ3, "checkIndex", "(IILjava/util/function/BiFunction;)I"⟩
def RL : String := "BorrowedHandsLaw"
end
section
/-! ===== the program as a table: op, length, number, constant, list ===== -/
abbrev bh_I : Type := Nat × Nat × Nat × Int × List Nat
abbrev bz : bh_I := (0, 0, 0, 0, [])
abbrev bh_cls : List vw_C := [(RX0, TX0, 3), (RX0, TX1, 0), (RX2, TX2, 2), (RX3, TX3, 2), (RX4, TX4, 7), (RX5, TX5, 3), (RX6, TX6, 5), (RX7, TX7, 18), (RX8, TX8, 3), (RX9, TX9, 16), (RX10, TX10, 33)]
def bh_WS : List Cond := lw_tbl.filter goodWord
theorem bh_WS_of {i : Nat} {w : Cond} (h : lw_tbl[i]? = some w) (g : goodWord w = true) : w ∈ bh_WS := List.mem_filter.mpr ⟨List.mem_of_getElem? h, g⟩
theorem bh_WS_tbl {w : Cond} (h : w ∈ bh_WS) : w ∈ lw_tbl := (List.mem_filter.mp h).1
theorem bh_WS_good {w : Cond} (h : w ∈ bh_WS) : goodWord w = true := (List.mem_filter.mp h).2
def cd_X0_init : List bh_I := [(5, 1, 0, 1, []), (39, 3, 0, 3, [341]), bz, bz, (5, 1, 0, 1, []), (1, 2, 1, 96, []), bz, (37, 2, 20, 0, []), bz, (26, 3, 87, 0, []), bz, bz, (5, 1, 0, 1, []), (1, 3, 2, 144, []), bz, bz, (37, 2, 20, 0, []), bz, (26, 3, 88, 0, []), bz, bz, (44, 1, 0, 0, [])]
def cd_X0_fewestPages : List bh_I := [(5, 1, 1, 1, []), (25, 3, 47, 0, []), bz, bz, (3, 1, 3, 1, []), (27, 1, 0, 0, []), (6, 2, 5, 0, []), bz, (5, 1, 0, 1, []), (5, 1, 1, 1, []), (5, 1, 2, 1, []), (3, 1, 3, 1, []), (3, 2, 4, 0, []), bz, (40, 3, 0, 0, []), bz, bz, (5, 1, 0, 1, []), (5, 1, 1, 1, []), (25, 3, 2, 0, []), bz, bz, (3, 2, 5, 0, []), bz, (3, 2, 4, 0, []), bz, (40, 3, 1, 0, []), bz, bz, (1, 1, 0, 0, []), (6, 2, 6, 0, []), bz, (1, 1, 0, 1, []), (6, 2, 7, 0, []), bz, (3, 2, 7, 0, []), bz, (1, 1, 0, 1, []), (3, 2, 5, 0, []), bz, (10, 1, 6, 0, []), (22, 3, 93, 3, []), bz, bz, (3, 2, 6, 0, []), bz, (21, 3, 62, 0, []), bz, bz, (3, 2, 7, 0, []), bz, (40, 3, 2, 0, []), bz, bz, (3, 2, 6, 0, []), bz, (40, 3, 2, 0, []), bz, bz, (22, 3, 66, 3, []), bz, bz, (1, 1, 0, 1, []), (23, 3, 67, 0, []), bz, bz, (1, 1, 0, 0, []), (6, 2, 8, 0, []), bz, (3, 2, 8, 0, []), bz, (21, 3, 87, 0, []), bz, bz, (5, 1, 0, 1, []), (3, 2, 7, 0, []), bz, (40, 3, 3, 0, []), bz, bz, (21, 3, 87, 0, []), bz, bz, (3, 2, 7, 0, []), bz, (6, 2, 6, 0, []), bz, (9, 3, 7, 1, []), bz, bz, (23, 3, 35, 0, []), bz, bz, (3, 2, 6, 0, []), bz, (41, 1, 0, 0, [])]
def cd_X0_fillRows : List bh_I := [(1, 1, 0, 0, []), (6, 2, 5, 0, []), bz, (3, 2, 5, 0, []), bz, (5, 1, 1, 1, []), (25, 3, 2, 0, []), bz, bz, (22, 3, 72, 3, []), bz, bz, (3, 2, 4, 0, []), bz, (3, 2, 5, 0, []), bz, (10, 1, 7, 0, []), (1, 1, 0, 1, []), (10, 1, 3, 0, []), (1, 1, 0, 1, []), (22, 3, 66, 1, []), bz, bz, (1, 1, 0, 0, []), (6, 2, 6, 0, []), bz, (3, 2, 6, 0, []), bz, (5, 1, 1, 1, []), (25, 3, 47, 0, []), bz, bz, (3, 1, 3, 1, []), (27, 1, 0, 0, []), (22, 3, 66, 3, []), bz, bz, (5, 1, 0, 1, []), (25, 3, 87, 0, []), bz, bz, (3, 2, 5, 0, []), bz, (1, 2, 1, 8, []), bz, (10, 1, 2, 0, []), (3, 2, 6, 0, []), bz, (10, 1, 0, 0, []), (5, 1, 2, 1, []), (5, 1, 1, 1, []), (3, 2, 5, 0, []), bz, (3, 1, 3, 1, []), (3, 2, 6, 0, []), bz, (40, 3, 4, 0, []), bz, bz, (28, 1, 0, 0, []), (9, 3, 6, 1, []), bz, bz, (23, 3, 26, 0, []), bz, bz, (9, 3, 5, 1, []), bz, bz, (23, 3, 3, 0, []), bz, bz, (44, 1, 0, 0, [])]
def cd_X0_listTwos : List bh_I := [(5, 1, 0, 1, []), (1, 1, 0, 0, []), (26, 3, 89, 0, []), bz, bz, (1, 1, 0, 0, []), (6, 2, 4, 0, []), bz, (3, 2, 4, 0, []), bz, (3, 1, 1, 1, []), (22, 3, 81, 3, []), bz, bz, (3, 2, 4, 0, []), bz, (1, 1, 0, 1, []), (10, 1, 0, 0, []), (6, 2, 5, 0, []), bz, (3, 2, 5, 0, []), bz, (3, 1, 1, 1, []), (22, 3, 75, 3, []), bz, bz, (3, 1, 3, 1, []), (3, 2, 4, 0, []), bz, (10, 1, 7, 0, []), (3, 1, 3, 1, []), (3, 2, 5, 0, []), bz, (10, 1, 7, 0, []), (10, 1, 3, 0, []), (1, 1, 0, 1, []), (10, 1, 3, 0, []), (1, 1, 0, 1, []), (22, 3, 69, 1, []), bz, bz, (5, 1, 0, 1, []), (25, 3, 88, 0, []), bz, bz, (5, 1, 0, 1, []), (25, 3, 89, 0, []), bz, bz, (5, 1, 0, 1, []), (3, 2, 4, 0, []), bz, (3, 2, 5, 0, []), bz, (3, 1, 2, 1, []), (40, 3, 5, 0, []), bz, bz, (28, 1, 0, 0, []), (5, 1, 0, 1, []), (18, 1, 0, 0, []), (25, 3, 89, 0, []), bz, bz, (1, 1, 0, 1, []), (10, 1, 0, 0, []), (26, 3, 89, 0, []), bz, bz, (9, 3, 5, 1, []), bz, bz, (23, 3, 20, 0, []), bz, bz, (9, 3, 4, 1, []), bz, bz, (23, 3, 8, 0, []), bz, bz, (44, 1, 0, 0, [])]
def cd_X0_differingPages : List bh_I := [(1, 1, 0, 0, []), (6, 2, 4, 0, []), bz, (1, 1, 0, 0, []), (6, 2, 5, 0, []), bz, (3, 2, 5, 0, []), bz, (3, 1, 3, 1, []), (22, 3, 54, 3, []), bz, bz, (5, 1, 0, 1, []), (25, 3, 87, 0, []), bz, bz, (3, 1, 1, 1, []), (1, 2, 1, 8, []), bz, (10, 1, 2, 0, []), (3, 2, 5, 0, []), bz, (10, 1, 0, 0, []), (27, 1, 0, 0, []), (5, 1, 0, 1, []), (25, 3, 87, 0, []), bz, bz, (3, 1, 2, 1, []), (1, 2, 1, 8, []), bz, (10, 1, 2, 0, []), (3, 2, 5, 0, []), bz, (10, 1, 0, 0, []), (27, 1, 0, 0, []), (22, 3, 48, 0, []), bz, bz, (3, 2, 4, 0, []), bz, (1, 1, 0, 1, []), (3, 2, 5, 0, []), bz, (10, 1, 6, 0, []), (10, 1, 4, 0, []), (6, 2, 4, 0, []), bz, (9, 3, 5, 1, []), bz, bz, (23, 3, 6, 0, []), bz, bz, (3, 2, 4, 0, []), bz, (41, 1, 0, 0, [])]
def cd_X0_allApart : List bh_I := [(1, 1, 0, 0, []), (6, 1, 2, 1, []), (3, 1, 2, 1, []), (5, 1, 0, 1, []), (25, 3, 89, 0, []), bz, bz, (22, 3, 29, 3, []), bz, bz, (5, 1, 0, 1, []), (25, 3, 88, 0, []), bz, bz, (3, 1, 2, 1, []), (27, 1, 0, 0, []), (3, 1, 1, 1, []), (10, 1, 3, 0, []), (21, 3, 23, 1, []), bz, bz, (1, 1, 0, 0, []), (41, 1, 0, 0, []), (9, 3, 2, 1, []), bz, bz, (23, 3, 2, 0, []), bz, bz, (1, 1, 0, 1, []), (41, 1, 0, 0, [])]
def cd_X1_signsOf : List bh_I := [(3, 1, 0, 1, []), (21, 3, 6, 1, []), bz, bz, (1, 1, 0, 0, []), (41, 1, 0, 0, []), (3, 1, 0, 1, []), (1, 1, 0, 5, []), (22, 3, 17, 0, []), bz, bz, (3, 1, 0, 1, []), (1, 2, 1, 6, []), bz, (22, 3, 21, 1, []), bz, bz, (1, 1, 0, 2, []), (23, 3, 22, 0, []), bz, bz, (1, 1, 0, 1, []), (41, 1, 0, 0, [])]
def cd_X1_firstSign : List bh_I := [(3, 1, 0, 1, []), (40, 3, 6, 0, []), bz, bz, (21, 3, 11, 5, []), bz, bz, (3, 1, 1, 1, []), (23, 3, 12, 0, []), bz, bz, (1, 1, 0, (-1), []), (41, 1, 0, 0, [])]
def cd_X1_secondSign : List bh_I := [(3, 1, 0, 1, []), (40, 3, 6, 0, []), bz, bz, (1, 1, 0, 1, []), (22, 3, 12, 5, []), bz, bz, (3, 1, 1, 1, []), (23, 3, 13, 0, []), bz, bz, (1, 1, 0, (-1), []), (41, 1, 0, 0, [])]
def cd_X1_stands : List bh_I := [(3, 1, 0, 1, []), (21, 3, 10, 2, []), bz, bz, (3, 1, 0, 1, []), (1, 2, 1, 6, []), bz, (22, 3, 12, 5, []), bz, bz, (1, 1, 0, 0, []), (41, 1, 0, 0, []), (3, 1, 0, 1, []), (21, 3, 18, 1, []), bz, bz, (1, 1, 0, 1, []), (41, 1, 0, 0, []), (3, 1, 1, 1, []), (40, 3, 7, 0, []), bz, bz, (21, 3, 34, 0, []), bz, bz, (3, 1, 0, 1, []), (1, 1, 0, 4, []), (22, 3, 36, 1, []), bz, bz, (3, 1, 1, 1, []), (21, 3, 36, 1, []), bz, bz, (1, 1, 0, 0, []), (41, 1, 0, 0, []), (3, 1, 0, 1, []), (40, 3, 6, 0, []), bz, bz, (1, 1, 0, 1, []), (22, 3, 56, 0, []), bz, bz, (3, 1, 2, 1, []), (40, 3, 7, 0, []), bz, bz, (21, 3, 60, 0, []), bz, bz, (3, 1, 2, 1, []), (3, 1, 1, 1, []), (22, 3, 60, 0, []), bz, bz, (1, 1, 0, 1, []), (23, 3, 61, 0, []), bz, bz, (1, 1, 0, 0, []), (41, 1, 0, 0, [])]
def cd_X1_changeRow : List bh_I := [(3, 1, 0, 1, []), (24, 39, 116, 1, [40, 46, 52, 60, 74, 100]), bz, bz, bz, bz, bz, bz, bz, bz, bz, bz, bz, bz, bz, bz, bz, bz, bz, bz, bz, bz, bz, bz, bz, bz, bz, bz, bz, bz, bz, bz, bz, bz, bz, bz, bz, bz, bz, bz, (3, 1, 3, 1, []), (1, 1, 0, 1, []), (3, 1, 1, 1, []), (10, 1, 6, 0, []), (10, 1, 5, 0, []), (41, 1, 0, 0, []), (3, 1, 3, 1, []), (1, 1, 0, 1, []), (3, 1, 1, 1, []), (10, 1, 6, 0, []), (10, 1, 4, 0, []), (41, 1, 0, 0, []), (3, 1, 3, 1, []), (1, 1, 0, 1, []), (3, 1, 1, 1, []), (10, 1, 6, 0, []), (1, 1, 0, (-1), []), (10, 1, 5, 0, []), (10, 1, 3, 0, []), (41, 1, 0, 0, []), (3, 1, 3, 1, []), (3, 1, 1, 1, []), (10, 1, 6, 0, []), (3, 1, 3, 1, []), (1, 2, 1, 16, []), bz, (3, 1, 1, 1, []), (10, 1, 1, 0, []), (10, 1, 8, 0, []), (10, 1, 4, 0, []), (1, 2, 3, 65535, [19, 698]), bz, (10, 1, 3, 0, []), (41, 1, 0, 0, []), (3, 1, 3, 1, []), (3, 1, 1, 1, []), (10, 1, 7, 0, []), (3, 1, 3, 1, []), (3, 1, 2, 1, []), (10, 1, 7, 0, []), (10, 1, 5, 0, []), (1, 1, 0, 1, []), (10, 1, 3, 0, []), (21, 3, 90, 1, []), bz, bz, (3, 1, 3, 1, []), (23, 3, 99, 0, []), bz, bz, (3, 1, 3, 1, []), (1, 1, 0, 1, []), (3, 1, 1, 1, []), (10, 1, 6, 0, []), (1, 1, 0, 1, []), (3, 1, 2, 1, []), (10, 1, 6, 0, []), (10, 1, 4, 0, []), (10, 1, 5, 0, []), (41, 1, 0, 0, []), (3, 1, 3, 1, []), (1, 1, 0, 1, []), (3, 1, 2, 1, []), (10, 1, 6, 0, []), (1, 1, 0, (-1), []), (10, 1, 5, 0, []), (10, 1, 3, 0, []), (3, 1, 3, 1, []), (3, 1, 1, 1, []), (10, 1, 7, 0, []), (1, 1, 0, 1, []), (10, 1, 3, 0, []), (3, 1, 2, 1, []), (10, 1, 6, 0, []), (10, 1, 4, 0, []), (41, 1, 0, 0, []), (3, 1, 3, 1, []), (41, 1, 0, 0, [])]
def cd_X1_signAt : List bh_I := [(3, 1, 0, 1, []), (3, 1, 1, 1, []), (10, 1, 7, 0, []), (1, 1, 0, 1, []), (10, 1, 3, 0, []), (41, 1, 0, 0, [])]
def cd_X2_init : List bh_I := [(5, 1, 0, 1, []), (39, 3, 0, 3, [256]), bz, bz, (5, 1, 0, 1, []), (1, 2, 1, 12, []), bz, (37, 2, 20, 0, []), bz, (26, 3, 60, 0, []), bz, bz, (44, 1, 0, 0, [])]
def cd_X2_listFrom : List bh_I := [(5, 1, 0, 1, []), (5, 1, 1, 1, []), (3, 1, 2, 1, []), (1, 1, 0, 0, []), (40, 3, 8, 0, []), bz, bz, (19, 1, 0, 0, []), (44, 1, 0, 0, [])]
def cd_X2_listUntilDead : List bh_I := [(5, 1, 0, 1, []), (1, 1, 0, 0, []), (26, 3, 66, 0, []), bz, bz, (3, 1, 2, 1, []), (6, 2, 4, 0, []), bz, (3, 2, 4, 0, []), bz, (1, 1, 0, (-1), []), (22, 3, 65, 0, []), bz, bz, (5, 1, 0, 1, []), (25, 3, 66, 0, []), bz, bz, (1, 2, 1, 12, []), bz, (22, 3, 65, 3, []), bz, bz, (3, 1, 3, 1, []), (3, 2, 4, 0, []), bz, (10, 1, 7, 0, []), (1, 1, 0, 1, []), (10, 1, 3, 0, []), (21, 3, 65, 1, []), bz, bz, (5, 1, 0, 1, []), (25, 3, 60, 0, []), bz, bz, (5, 1, 0, 1, []), (25, 3, 66, 0, []), bz, bz, (3, 2, 4, 0, []), bz, (28, 1, 0, 0, []), (5, 1, 0, 1, []), (18, 1, 0, 0, []), (25, 3, 66, 0, []), bz, bz, (1, 1, 0, 1, []), (10, 1, 0, 0, []), (26, 3, 66, 0, []), bz, bz, (5, 1, 1, 1, []), (25, 3, 37, 0, []), bz, bz, (3, 2, 4, 0, []), bz, (27, 1, 0, 0, []), (6, 2, 4, 0, []), bz, (23, 3, 8, 0, []), bz, bz, (3, 2, 4, 0, []), bz, (41, 1, 0, 0, [])]
def cd_X2_lowest : List bh_I := [(5, 1, 0, 1, []), (25, 3, 66, 0, []), bz, bz, (21, 3, 21, 5, []), bz, bz, (5, 1, 0, 1, []), (25, 3, 60, 0, []), bz, bz, (5, 1, 0, 1, []), (25, 3, 66, 0, []), bz, bz, (1, 1, 0, 1, []), (10, 1, 1, 0, []), (27, 1, 0, 0, []), (23, 3, 22, 0, []), bz, bz, (1, 1, 0, (-1), []), (41, 1, 0, 0, [])]
def cd_X2_asBits : List bh_I := [(1, 1, 0, 0, []), (6, 1, 1, 1, []), (1, 1, 0, 0, []), (6, 1, 2, 1, []), (3, 1, 2, 1, []), (5, 1, 0, 1, []), (25, 3, 66, 0, []), bz, bz, (22, 3, 29, 3, []), bz, bz, (3, 1, 1, 1, []), (1, 1, 0, 1, []), (5, 1, 0, 1, []), (25, 3, 60, 0, []), bz, bz, (3, 1, 2, 1, []), (27, 1, 0, 0, []), (10, 1, 6, 0, []), (10, 1, 4, 0, []), (6, 1, 1, 1, []), (9, 3, 2, 1, []), bz, bz, (23, 3, 4, 0, []), bz, bz, (3, 1, 1, 1, []), (41, 1, 0, 0, [])]
def cd_X2_anyDead : List bh_I := [(5, 1, 0, 1, []), (40, 3, 9, 0, []), bz, bz, (5, 1, 1, 1, []), (25, 3, 18, 0, []), bz, bz, (10, 1, 3, 0, []), (21, 3, 16, 0, []), bz, bz, (1, 1, 0, 1, []), (23, 3, 17, 0, []), bz, bz, (1, 1, 0, 0, []), (41, 1, 0, 0, [])]
def cd_X2_passUp : List bh_I := [(3, 2, 4, 0, []), bz, (6, 2, 5, 0, []), bz, (3, 1, 3, 1, []), (1, 1, 0, 1, []), (10, 1, 1, 0, []), (6, 2, 6, 0, []), bz, (3, 2, 6, 0, []), bz, (3, 1, 2, 1, []), (22, 3, 67, 2, []), bz, bz, (5, 1, 0, 1, []), (25, 3, 60, 0, []), bz, bz, (3, 2, 6, 0, []), bz, (27, 1, 0, 0, []), (6, 2, 7, 0, []), bz, (5, 1, 1, 1, []), (3, 2, 7, 0, []), bz, (40, 3, 10, 0, []), bz, bz, (21, 3, 61, 1, []), bz, bz, (5, 1, 1, 1, []), (25, 3, 26, 0, []), bz, bz, (3, 2, 7, 0, []), bz, (27, 1, 0, 0, []), (5, 1, 1, 1, []), (25, 3, 30, 0, []), bz, bz, (3, 2, 7, 0, []), bz, (27, 1, 0, 0, []), (5, 1, 1, 1, []), (25, 3, 34, 0, []), bz, bz, (3, 2, 7, 0, []), bz, (27, 1, 0, 0, []), (3, 2, 5, 0, []), bz, (40, 3, 11, 0, []), bz, bz, (6, 2, 5, 0, []), bz, (9, 3, 6, (-1), []), bz, bz, (23, 3, 9, 0, []), bz, bz, (3, 2, 5, 0, []), bz, (41, 1, 0, 0, [])]
def cd_X2_lineOf : List bh_I := [(5, 1, 0, 1, []), (5, 1, 1, 1, []), (3, 1, 2, 1, []), (5, 1, 1, 1, []), (25, 3, 18, 0, []), bz, bz, (40, 3, 8, 0, []), bz, bz, (6, 2, 5, 0, []), bz, (3, 2, 5, 0, []), bz, (1, 1, 0, (-1), []), (22, 3, 36, 1, []), bz, bz, (5, 1, 0, 1, []), (5, 1, 1, 1, []), (1, 1, 0, 0, []), (5, 1, 0, 1, []), (25, 3, 66, 0, []), bz, bz, (5, 1, 1, 1, []), (3, 1, 3, 1, []), (3, 2, 4, 0, []), bz, (40, 3, 12, 0, []), bz, bz, (40, 3, 13, 0, []), bz, bz, (41, 1, 0, 0, []), (5, 1, 1, 1, []), (3, 2, 5, 0, []), bz, (3, 1, 3, 1, []), (40, 3, 14, 0, []), bz, bz, (21, 3, 49, 1, []), bz, bz, (1, 2, 1, (-2), []), bz, (41, 1, 0, 0, []), (5, 1, 0, 1, []), (5, 1, 1, 1, []), (1, 1, 0, 0, []), (5, 1, 0, 1, []), (25, 3, 66, 0, []), bz, bz, (5, 1, 1, 1, []), (3, 2, 5, 0, []), bz, (3, 1, 3, 1, []), (3, 2, 4, 0, []), bz, (40, 3, 15, 0, []), bz, bz, (40, 3, 13, 0, []), bz, bz, (41, 1, 0, 0, [])]
def cd_X3_init : List bh_I := [(5, 1, 0, 1, []), (39, 3, 0, 3, [357]), bz, bz, (5, 1, 0, 1, []), (1, 2, 1, 16, []), bz, (37, 2, 20, 0, []), bz, (26, 3, 90, 0, []), bz, bz, (5, 1, 0, 1, []), (1, 2, 1, 16, []), bz, (37, 2, 20, 0, []), bz, (26, 3, 92, 0, []), bz, bz, (44, 1, 0, 0, [])]
def cd_X3_gather : List bh_I := [(1, 1, 0, 0, []), (6, 2, 5, 0, []), bz, (3, 2, 5, 0, []), bz, (1, 2, 1, 16, []), bz, (22, 3, 24, 3, []), bz, bz, (5, 1, 0, 1, []), (25, 3, 90, 0, []), bz, bz, (3, 2, 5, 0, []), bz, (1, 1, 0, 0, []), (28, 1, 0, 0, []), (9, 3, 5, 1, []), bz, bz, (23, 3, 3, 0, []), bz, bz, (1, 1, 0, 0, []), (6, 2, 5, 0, []), bz, (3, 2, 5, 0, []), bz, (5, 1, 1, 1, []), (25, 3, 3, 0, []), bz, bz, (22, 3, 113, 3, []), bz, bz, (5, 1, 2, 1, []), (5, 1, 1, 1, []), (3, 2, 5, 0, []), bz, (3, 1, 3, 1, []), (3, 2, 4, 0, []), bz, (40, 3, 16, 0, []), bz, bz, (6, 2, 6, 0, []), bz, (3, 2, 6, 0, []), bz, (1, 2, 1, (-2), []), bz, (22, 3, 59, 1, []), bz, bz, (1, 1, 0, 0, []), (23, 3, 69, 0, []), bz, bz, (3, 2, 6, 0, []), bz, (5, 1, 1, 1, []), (3, 1, 3, 1, []), (3, 2, 4, 0, []), bz, (40, 3, 17, 0, []), bz, bz, (10, 1, 5, 0, []), (6, 2, 7, 0, []), bz, (1, 1, 0, 0, []), (6, 2, 8, 0, []), bz, (3, 2, 8, 0, []), bz, (1, 2, 1, 16, []), bz, (22, 3, 107, 3, []), bz, bz, (5, 1, 0, 1, []), (25, 3, 90, 0, []), bz, bz, (3, 2, 8, 0, []), bz, (20, 1, 0, 0, []), (27, 1, 0, 0, []), (3, 2, 7, 0, []), bz, (3, 2, 8, 0, []), bz, (10, 1, 7, 0, []), (1, 1, 0, 1, []), (10, 1, 3, 0, []), (3, 2, 5, 0, []), bz, (10, 1, 6, 0, []), (10, 1, 4, 0, []), (28, 1, 0, 0, []), (9, 3, 8, 1, []), bz, bz, (23, 3, 74, 0, []), bz, bz, (9, 3, 5, 1, []), bz, bz, (23, 3, 27, 0, []), bz, bz, (44, 1, 0, 0, [])]
def cd_X3_clashes : List bh_I := [(1, 1, 0, 0, []), (6, 1, 1, 1, []), (1, 1, 0, 0, []), (6, 1, 2, 1, []), (3, 1, 2, 1, []), (1, 2, 1, 16, []), bz, (22, 3, 53, 3, []), bz, bz, (3, 1, 2, 1, []), (1, 1, 0, 1, []), (10, 1, 0, 0, []), (6, 1, 3, 1, []), (3, 1, 3, 1, []), (1, 2, 1, 16, []), bz, (22, 3, 47, 3, []), bz, bz, (5, 1, 0, 1, []), (25, 3, 90, 0, []), bz, bz, (3, 1, 2, 1, []), (27, 1, 0, 0, []), (5, 1, 0, 1, []), (25, 3, 90, 0, []), bz, bz, (3, 1, 3, 1, []), (27, 1, 0, 0, []), (40, 3, 18, 0, []), bz, bz, (21, 3, 41, 0, []), bz, bz, (9, 3, 1, 1, []), bz, bz, (9, 3, 3, 1, []), bz, bz, (23, 3, 14, 0, []), bz, bz, (9, 3, 2, 1, []), bz, bz, (23, 3, 4, 0, []), bz, bz, (3, 1, 1, 1, []), (41, 1, 0, 0, [])]
def cd_X3_clash : List bh_I := [(3, 1, 0, 1, []), (3, 1, 1, 1, []), (10, 1, 3, 0, []), (6, 1, 2, 1, []), (3, 1, 2, 1, []), (21, 3, 22, 0, []), bz, bz, (3, 1, 2, 1, []), (3, 1, 0, 1, []), (22, 3, 22, 0, []), bz, bz, (3, 1, 2, 1, []), (3, 1, 1, 1, []), (22, 3, 22, 0, []), bz, bz, (1, 1, 0, 1, []), (23, 3, 23, 0, []), bz, bz, (1, 1, 0, 0, []), (41, 1, 0, 0, [])]
def cd_X3_unlikeSets : List bh_I := [(1, 1, 0, 0, []), (6, 1, 1, 1, []), (1, 1, 0, 0, []), (6, 1, 2, 1, []), (3, 1, 2, 1, []), (1, 2, 1, 16, []), bz, (22, 3, 36, 3, []), bz, bz, (5, 1, 0, 1, []), (25, 3, 90, 0, []), bz, bz, (3, 1, 2, 1, []), (27, 1, 0, 0, []), (21, 3, 30, 0, []), bz, bz, (5, 1, 0, 1, []), (3, 1, 2, 1, []), (40, 3, 19, 0, []), bz, bz, (21, 3, 30, 0, []), bz, bz, (9, 3, 1, 1, []), bz, bz, (9, 3, 2, 1, []), bz, bz, (23, 3, 4, 0, []), bz, bz, (3, 1, 1, 1, []), (41, 1, 0, 0, [])]
def cd_X3_isFirstOfItsLike : List bh_I := [(1, 1, 0, 0, []), (6, 1, 2, 1, []), (3, 1, 2, 1, []), (3, 1, 1, 1, []), (22, 3, 30, 3, []), bz, bz, (5, 1, 0, 1, []), (25, 3, 90, 0, []), bz, bz, (3, 1, 2, 1, []), (27, 1, 0, 0, []), (5, 1, 0, 1, []), (25, 3, 90, 0, []), bz, bz, (3, 1, 1, 1, []), (27, 1, 0, 0, []), (22, 3, 24, 1, []), bz, bz, (1, 1, 0, 0, []), (41, 1, 0, 0, []), (9, 3, 2, 1, []), bz, bz, (23, 3, 2, 0, []), bz, bz, (1, 1, 0, 1, []), (41, 1, 0, 0, [])]
def cd_X3_longestRow : List bh_I := [(1, 1, 0, 0, []), (6, 1, 1, 1, []), (1, 1, 0, 1, []), (6, 1, 2, 1, []), (3, 1, 2, 1, []), (1, 2, 1, 12, []), bz, (22, 3, 67, 4, []), bz, bz, (1, 1, 0, 0, []), (6, 1, 3, 1, []), (3, 1, 3, 1, []), (1, 2, 1, 16, []), bz, (22, 3, 61, 3, []), bz, bz, (5, 1, 0, 1, []), (25, 3, 90, 0, []), bz, bz, (3, 1, 3, 1, []), (27, 1, 0, 0, []), (40, 3, 20, 0, []), bz, bz, (3, 1, 2, 1, []), (22, 3, 55, 1, []), bz, bz, (5, 1, 0, 1, []), (25, 3, 92, 0, []), bz, bz, (3, 1, 3, 1, []), (1, 1, 0, 1, []), (5, 1, 0, 1, []), (3, 1, 3, 1, []), (40, 3, 21, 0, []), bz, bz, (10, 1, 0, 0, []), (28, 1, 0, 0, []), (3, 1, 1, 1, []), (5, 1, 0, 1, []), (25, 3, 92, 0, []), bz, bz, (3, 1, 3, 1, []), (27, 1, 0, 0, []), (49, 3, 0, 51, [1017]), bz, bz, (6, 1, 1, 1, []), (9, 3, 3, 1, []), bz, bz, (23, 3, 12, 0, []), bz, bz, (9, 3, 2, 1, []), bz, bz, (23, 3, 4, 0, []), bz, bz, (3, 1, 1, 1, []), (41, 1, 0, 0, [])]
def cd_X3_longestWithin : List bh_I := [(1, 1, 0, 0, []), (6, 1, 2, 1, []), (1, 1, 0, 0, []), (6, 1, 3, 1, []), (3, 1, 3, 1, []), (1, 2, 1, 16, []), bz, (22, 3, 81, 3, []), bz, bz, (5, 1, 0, 1, []), (25, 3, 90, 0, []), bz, bz, (3, 1, 3, 1, []), (27, 1, 0, 0, []), (21, 3, 38, 0, []), bz, bz, (5, 1, 0, 1, []), (25, 3, 90, 0, []), bz, bz, (3, 1, 3, 1, []), (27, 1, 0, 0, []), (5, 1, 0, 1, []), (25, 3, 90, 0, []), bz, bz, (3, 1, 1, 1, []), (27, 1, 0, 0, []), (22, 3, 38, 0, []), bz, bz, (1, 1, 0, 1, []), (23, 3, 39, 0, []), bz, bz, (1, 1, 0, 0, []), (6, 2, 4, 0, []), bz, (3, 2, 4, 0, []), bz, (21, 3, 75, 0, []), bz, bz, (5, 1, 0, 1, []), (25, 3, 90, 0, []), bz, bz, (3, 1, 3, 1, []), (27, 1, 0, 0, []), (5, 1, 0, 1, []), (25, 3, 90, 0, []), bz, bz, (3, 1, 1, 1, []), (27, 1, 0, 0, []), (1, 1, 0, (-1), []), (10, 1, 5, 0, []), (10, 1, 3, 0, []), (21, 3, 75, 1, []), bz, bz, (3, 1, 2, 1, []), (5, 1, 0, 1, []), (25, 3, 92, 0, []), bz, bz, (3, 1, 3, 1, []), (27, 1, 0, 0, []), (49, 3, 0, 51, [1017]), bz, bz, (6, 1, 2, 1, []), (9, 3, 3, 1, []), bz, bz, (23, 3, 4, 0, []), bz, bz, (3, 1, 2, 1, []), (41, 1, 0, 0, [])]
def cd_X4_init : List bh_I := [(5, 1, 0, 1, []), (39, 3, 0, 3, [293]), bz, bz, (44, 1, 0, 0, [])]
def cd_X4_search : List bh_I := [(5, 1, 0, 1, []), (1, 1, 0, 0, []), (26, 3, 73, 0, []), bz, bz, (1, 1, 0, 0, []), (6, 2, 5, 0, []), bz, (3, 2, 5, 0, []), bz, (5, 1, 1, 1, []), (25, 3, 1, 0, []), bz, bz, (22, 3, 108, 3, []), bz, bz, (1, 1, 0, 0, []), (6, 2, 6, 0, []), bz, (3, 2, 6, 0, []), bz, (5, 1, 2, 1, []), (25, 3, 64, 0, []), bz, bz, (22, 3, 102, 3, []), bz, bz, (5, 1, 2, 1, []), (25, 3, 61, 0, []), bz, bz, (3, 2, 6, 0, []), bz, (27, 1, 0, 0, []), (3, 2, 5, 0, []), bz, (22, 3, 54, 1, []), bz, bz, (5, 1, 1, 1, []), (3, 2, 5, 0, []), bz, (40, 3, 22, 0, []), bz, bz, (21, 3, 54, 1, []), bz, bz, (1, 1, 0, 1, []), (23, 3, 55, 0, []), bz, bz, (1, 1, 0, 0, []), (6, 2, 7, 0, []), bz, (3, 2, 7, 0, []), bz, (21, 3, 96, 0, []), bz, bz, (5, 1, 0, 1, []), (5, 1, 1, 1, []), (5, 1, 2, 1, []), (3, 2, 6, 0, []), bz, (3, 2, 4, 0, []), bz, (40, 3, 23, 0, []), bz, bz, (21, 3, 96, 0, []), bz, bz, (5, 1, 0, 1, []), (5, 1, 1, 1, []), (3, 2, 5, 0, []), bz, (5, 1, 2, 1, []), (5, 1, 1, 1, []), (3, 2, 6, 0, []), bz, (1, 1, 0, 1, []), (10, 1, 0, 0, []), (5, 1, 2, 1, []), (25, 3, 64, 0, []), bz, bz, (3, 1, 3, 1, []), (40, 3, 24, 0, []), bz, bz, (40, 3, 25, 0, []), bz, bz, (9, 3, 6, 1, []), bz, bz, (23, 3, 20, 0, []), bz, bz, (9, 3, 5, 1, []), bz, bz, (23, 3, 8, 0, []), bz, bz, (44, 1, 0, 0, [])]
def cd_X4_ofFirst : List bh_I := [(3, 1, 1, 1, []), (24, 27, 50, 1, [28, 33, 38]), bz, bz, bz, bz, bz, bz, bz, bz, bz, bz, bz, bz, bz, bz, bz, bz, bz, bz, bz, bz, bz, bz, bz, bz, bz, bz, (5, 1, 0, 1, []), (25, 3, 75, 0, []), bz, bz, (41, 1, 0, 0, []), (5, 1, 0, 1, []), (25, 3, 76, 0, []), bz, bz, (41, 1, 0, 0, []), (5, 1, 0, 1, []), (25, 3, 76, 0, []), bz, bz, (5, 1, 0, 1, []), (25, 3, 77, 0, []), bz, bz, (40, 3, 26, 0, []), bz, bz, (41, 1, 0, 0, []), (5, 1, 0, 1, []), (25, 3, 76, 0, []), bz, bz, (5, 1, 0, 1, []), (25, 3, 78, 0, []), bz, bz, (40, 3, 27, 0, []), bz, bz, (41, 1, 0, 0, [])]
def cd_X4_findDemand : List bh_I := [(5, 1, 2, 1, []), (5, 1, 1, 1, []), (1, 1, 0, 0, []), (3, 1, 3, 1, []), (1, 1, 0, 0, []), (40, 3, 24, 0, []), bz, bz, (6, 2, 5, 0, []), bz, (3, 2, 4, 0, []), bz, (3, 2, 5, 0, []), bz, (10, 1, 5, 0, []), (6, 2, 6, 0, []), bz, (1, 1, 0, 0, []), (6, 2, 7, 0, []), bz, (5, 1, 0, 1, []), (1, 1, 0, 0, []), (26, 3, 79, 0, []), bz, bz, (5, 1, 0, 1, []), (1, 1, 0, 0, []), (26, 3, 80, 0, []), bz, bz, (1, 1, 0, 0, []), (6, 2, 8, 0, []), bz, (3, 2, 8, 0, []), bz, (1, 2, 1, 16, []), bz, (22, 3, 128, 3, []), bz, bz, (5, 1, 2, 1, []), (5, 1, 1, 1, []), (1, 1, 0, 0, []), (3, 1, 3, 1, []), (1, 1, 0, 1, []), (3, 2, 8, 0, []), bz, (10, 1, 6, 0, []), (40, 3, 24, 0, []), bz, bz, (3, 2, 5, 0, []), bz, (10, 1, 5, 0, []), (6, 2, 9, 0, []), bz, (3, 2, 7, 0, []), bz, (3, 2, 9, 0, []), bz, (10, 1, 4, 0, []), (6, 2, 7, 0, []), bz, (3, 2, 9, 0, []), bz, (21, 3, 81, 0, []), bz, bz, (5, 1, 0, 1, []), (18, 1, 0, 0, []), (25, 3, 79, 0, []), bz, bz, (1, 1, 0, 1, []), (3, 2, 8, 0, []), bz, (10, 1, 6, 0, []), (10, 1, 4, 0, []), (26, 3, 79, 0, []), bz, bz, (3, 2, 9, 0, []), bz, (21, 3, 112, 0, []), bz, bz, (3, 2, 6, 0, []), bz, (3, 2, 9, 0, []), bz, (10, 1, 3, 0, []), (3, 2, 9, 0, []), bz, (22, 3, 112, 1, []), bz, bz, (5, 1, 0, 1, []), (18, 1, 0, 0, []), (25, 3, 80, 0, []), bz, bz, (1, 1, 0, 1, []), (3, 2, 8, 0, []), bz, (10, 1, 6, 0, []), (10, 1, 4, 0, []), (26, 3, 80, 0, []), bz, bz, (23, 3, 122, 0, []), bz, bz, (3, 2, 6, 0, []), bz, (3, 2, 9, 0, []), bz, (10, 1, 3, 0, []), (21, 3, 122, 0, []), bz, bz, (1, 1, 0, 0, []), (41, 1, 0, 0, []), (9, 3, 8, 1, []), bz, bz, (23, 3, 33, 0, []), bz, bz, (3, 2, 6, 0, []), bz, (3, 2, 7, 0, []), bz, (1, 1, 0, (-1), []), (10, 1, 5, 0, []), (10, 1, 3, 0, []), (21, 3, 142, 1, []), bz, bz, (1, 1, 0, 1, []), (23, 3, 143, 0, []), bz, bz, (1, 1, 0, 0, []), (41, 1, 0, 0, [])]
def cd_X4_tryHabits : List bh_I := [(1, 1, 0, 0, []), (6, 2, 4, 0, []), bz, (3, 2, 4, 0, []), bz, (1, 2, 1, 6, []), bz, (22, 3, 131, 4, []), bz, bz, (3, 2, 4, 0, []), bz, (40, 3, 28, 0, []), bz, bz, (21, 3, 23, 5, []), bz, bz, (1, 2, 1, 16, []), bz, (23, 3, 24, 0, []), bz, bz, (1, 1, 0, 1, []), (6, 2, 5, 0, []), bz, (3, 2, 4, 0, []), bz, (40, 3, 28, 0, []), bz, bz, (1, 1, 0, 1, []), (22, 3, 40, 5, []), bz, bz, (1, 2, 1, 16, []), bz, (23, 3, 41, 0, []), bz, bz, (1, 1, 0, 1, []), (6, 2, 6, 0, []), bz, (1, 1, 0, 0, []), (6, 2, 7, 0, []), bz, (3, 2, 7, 0, []), bz, (3, 2, 5, 0, []), bz, (22, 3, 125, 3, []), bz, bz, (1, 1, 0, 0, []), (6, 2, 8, 0, []), bz, (3, 2, 8, 0, []), bz, (3, 2, 6, 0, []), bz, (22, 3, 119, 3, []), bz, bz, (5, 1, 1, 1, []), (3, 1, 2, 1, []), (3, 2, 4, 0, []), bz, (3, 2, 7, 0, []), bz, (3, 2, 8, 0, []), bz, (40, 3, 29, 0, []), bz, bz, (21, 3, 81, 1, []), bz, bz, (1, 1, 0, 1, []), (23, 3, 82, 0, []), bz, bz, (1, 1, 0, 0, []), (6, 2, 9, 0, []), bz, (3, 2, 9, 0, []), bz, (21, 3, 113, 0, []), bz, bz, (3, 2, 4, 0, []), bz, (3, 2, 7, 0, []), bz, (3, 2, 8, 0, []), bz, (40, 3, 30, 0, []), bz, bz, (21, 3, 113, 0, []), bz, bz, (5, 1, 0, 1, []), (3, 1, 2, 1, []), (3, 2, 4, 0, []), bz, (3, 2, 7, 0, []), bz, (3, 2, 8, 0, []), bz, (3, 1, 3, 1, []), (40, 3, 31, 0, []), bz, bz, (9, 3, 8, 1, []), bz, bz, (23, 3, 56, 0, []), bz, bz, (9, 3, 7, 1, []), bz, bz, (23, 3, 46, 0, []), bz, bz, (9, 3, 4, 1, []), bz, bz, (23, 3, 3, 0, []), bz, bz, (44, 1, 0, 0, [])]
def cd_X4_tryOne : List bh_I := [(3, 1, 2, 1, []), (3, 1, 3, 1, []), (3, 2, 4, 0, []), bz, (3, 2, 5, 0, []), bz, (40, 3, 32, 0, []), bz, bz, (5, 1, 0, 1, []), (25, 3, 79, 0, []), bz, bz, (10, 1, 3, 0, []), (5, 1, 0, 1, []), (25, 3, 80, 0, []), bz, bz, (22, 3, 22, 0, []), bz, bz, (44, 1, 0, 0, []), (5, 1, 0, 1, []), (25, 3, 73, 0, []), bz, bz, (21, 3, 50, 1, []), bz, bz, (5, 1, 0, 1, []), (3, 1, 1, 1, []), (26, 3, 75, 0, []), bz, bz, (5, 1, 0, 1, []), (3, 1, 2, 1, []), (26, 3, 76, 0, []), bz, bz, (5, 1, 0, 1, []), (3, 1, 3, 1, []), (26, 3, 77, 0, []), bz, bz, (5, 1, 0, 1, []), (3, 2, 4, 0, []), bz, (26, 3, 78, 0, []), bz, bz, (5, 1, 0, 1, []), (18, 1, 0, 0, []), (25, 3, 73, 0, []), bz, bz, (1, 1, 0, 1, []), (10, 1, 0, 0, []), (26, 3, 73, 0, []), bz, bz, (44, 1, 0, 0, [])]
def cd_X5_init : List bh_I := [(5, 1, 0, 1, []), (39, 3, 0, 3, [322]), bz, bz, (5, 1, 0, 1, []), (1, 2, 1, 16, []), bz, (37, 2, 20, 0, []), bz, (26, 3, 81, 0, []), bz, bz, (5, 1, 0, 1, []), (1, 2, 1, 16, []), bz, (37, 2, 20, 0, []), bz, (26, 3, 83, 0, []), bz, bz, (44, 1, 0, 0, [])]
def cd_X5_cut : List bh_I := [(5, 1, 0, 1, []), (1, 1, 0, 0, []), (26, 3, 85, 0, []), bz, bz, (1, 1, 0, 0, []), (6, 2, 5, 0, []), bz, (3, 2, 5, 0, []), bz, (5, 1, 1, 1, []), (25, 3, 10, 0, []), bz, bz, (22, 3, 121, 3, []), bz, bz, (5, 1, 1, 1, []), (5, 1, 2, 1, []), (3, 1, 3, 1, []), (3, 2, 4, 0, []), bz, (3, 2, 5, 0, []), bz, (40, 3, 33, 0, []), bz, bz, (6, 2, 6, 0, []), bz, (3, 2, 6, 0, []), bz, (21, 3, 40, 1, []), bz, bz, (5, 1, 0, 1, []), (1, 1, 0, 0, []), (26, 3, 85, 0, []), bz, bz, (44, 1, 0, 0, []), (5, 1, 0, 1, []), (25, 3, 85, 0, []), bz, bz, (21, 3, 83, 5, []), bz, bz, (5, 1, 0, 1, []), (25, 3, 83, 0, []), bz, bz, (5, 1, 0, 1, []), (25, 3, 85, 0, []), bz, bz, (1, 1, 0, 1, []), (10, 1, 1, 0, []), (27, 1, 0, 0, []), (3, 2, 6, 0, []), bz, (10, 1, 3, 0, []), (21, 3, 83, 0, []), bz, bz, (5, 1, 0, 1, []), (25, 3, 83, 0, []), bz, bz, (5, 1, 0, 1, []), (25, 3, 85, 0, []), bz, bz, (1, 1, 0, 1, []), (10, 1, 1, 0, []), (20, 1, 0, 0, []), (27, 1, 0, 0, []), (3, 2, 6, 0, []), bz, (10, 1, 3, 0, []), (28, 1, 0, 0, []), (23, 3, 115, 0, []), bz, bz, (5, 1, 0, 1, []), (25, 3, 81, 0, []), bz, bz, (5, 1, 0, 1, []), (25, 3, 85, 0, []), bz, bz, (3, 2, 5, 0, []), bz, (28, 1, 0, 0, []), (5, 1, 0, 1, []), (25, 3, 83, 0, []), bz, bz, (5, 1, 0, 1, []), (25, 3, 85, 0, []), bz, bz, (3, 2, 6, 0, []), bz, (28, 1, 0, 0, []), (5, 1, 0, 1, []), (18, 1, 0, 0, []), (25, 3, 85, 0, []), bz, bz, (1, 1, 0, 1, []), (10, 1, 0, 0, []), (26, 3, 85, 0, []), bz, bz, (9, 3, 5, 1, []), bz, bz, (23, 3, 8, 0, []), bz, bz, (44, 1, 0, 0, [])]
def cd_X5_whoMade : List bh_I := [(5, 1, 0, 1, []), (3, 1, 3, 1, []), (3, 2, 4, 0, []), bz, (40, 3, 34, 0, []), bz, bz, (6, 2, 5, 0, []), bz, (5, 1, 0, 1, []), (25, 3, 52, 0, []), bz, bz, (3, 2, 4, 0, []), bz, (27, 1, 0, 0, []), (6, 2, 6, 0, []), bz, (5, 1, 0, 1, []), (3, 1, 2, 1, []), (5, 1, 0, 1, []), (3, 1, 3, 1, []), (3, 2, 5, 0, []), bz, (40, 3, 35, 0, []), bz, bz, (40, 3, 36, 0, []), bz, bz, (3, 2, 6, 0, []), bz, (22, 3, 41, 1, []), bz, bz, (1, 3, 2, 4096, []), bz, bz, (23, 3, 42, 0, []), bz, bz, (1, 1, 0, 0, []), (6, 2, 7, 0, []), bz, (1, 1, 0, 0, []), (6, 2, 8, 0, []), bz, (3, 2, 8, 0, []), bz, (5, 1, 0, 1, []), (25, 3, 4, 0, []), bz, bz, (22, 3, 118, 3, []), bz, bz, (5, 1, 0, 1, []), (25, 3, 21, 0, []), bz, bz, (3, 2, 8, 0, []), bz, (27, 1, 0, 0, []), (5, 1, 0, 1, []), (25, 3, 21, 0, []), bz, bz, (3, 1, 2, 1, []), (27, 1, 0, 0, []), (22, 3, 112, 3, []), bz, bz, (5, 1, 1, 1, []), (5, 1, 0, 1, []), (3, 2, 8, 0, []), bz, (3, 1, 3, 1, []), (3, 2, 5, 0, []), bz, (40, 3, 37, 0, []), bz, bz, (6, 2, 9, 0, []), bz, (3, 2, 9, 0, []), bz, (1, 2, 1, (-2), []), bz, (22, 3, 112, 0, []), bz, bz, (5, 1, 0, 1, []), (3, 1, 2, 1, []), (3, 2, 9, 0, []), bz, (40, 3, 36, 0, []), bz, bz, (3, 2, 6, 0, []), bz, (22, 3, 112, 1, []), bz, bz, (3, 2, 7, 0, []), bz, (1, 1, 0, 1, []), (3, 2, 8, 0, []), bz, (10, 1, 6, 0, []), (10, 1, 4, 0, []), (6, 2, 7, 0, []), bz, (9, 3, 8, 1, []), bz, bz, (23, 3, 47, 0, []), bz, bz, (3, 2, 7, 0, []), bz, (41, 1, 0, 0, [])]
def cd_X6_init : List bh_I := [(5, 1, 0, 1, []), (39, 3, 0, 3, [232]), bz, bz, (5, 1, 0, 1, []), (1, 3, 2, 400, []), bz, bz, (37, 2, 20, 0, []), bz, (26, 3, 54, 0, []), bz, bz, (44, 1, 0, 0, [])]
def cd_X6_hasRoom : List bh_I := [(5, 1, 0, 1, []), (25, 3, 55, 0, []), bz, bz, (3, 1, 1, 1, []), (10, 1, 0, 0, []), (1, 3, 2, 400, []), bz, bz, (22, 3, 16, 4, []), bz, bz, (1, 1, 0, 1, []), (23, 3, 17, 0, []), bz, bz, (1, 1, 0, 0, []), (41, 1, 0, 0, [])]
def cd_X6_append : List bh_I := [(1, 2, 1, 24, []), bz, (6, 1, 2, 1, []), (3, 1, 2, 1, []), (21, 3, 39, 2, []), bz, bz, (5, 1, 0, 1, []), (25, 3, 54, 0, []), bz, bz, (5, 1, 0, 1, []), (25, 3, 55, 0, []), bz, bz, (3, 1, 1, 1, []), (3, 1, 2, 1, []), (10, 1, 8, 0, []), (1, 3, 2, 255, []), bz, bz, (10, 1, 3, 0, []), (28, 1, 0, 0, []), (5, 1, 0, 1, []), (18, 1, 0, 0, []), (25, 3, 55, 0, []), bz, bz, (1, 1, 0, 1, []), (10, 1, 0, 0, []), (26, 3, 55, 0, []), bz, bz, (9, 3, 2, (-8), []), bz, bz, (23, 3, 3, 0, []), bz, bz, (44, 1, 0, 0, [])]
def cd_X6_readInto : List bh_I := [(5, 1, 1, 1, []), (40, 3, 38, 0, []), bz, bz, (5, 1, 0, 1, []), (1, 1, 0, 0, []), (26, 3, 57, 0, []), bz, bz, (5, 1, 0, 1, []), (1, 1, 0, 0, []), (26, 3, 59, 0, []), bz, bz, (5, 1, 0, 1, []), (40, 3, 39, 0, []), bz, bz, (5, 1, 0, 1, []), (25, 3, 57, 0, []), bz, bz, (5, 1, 0, 1, []), (25, 3, 55, 0, []), bz, bz, (22, 3, 33, 3, []), bz, bz, (1, 1, 0, 1, []), (23, 3, 34, 0, []), bz, bz, (1, 1, 0, 0, []), (6, 1, 2, 1, []), (1, 1, 0, 0, []), (6, 1, 3, 1, []), (3, 1, 2, 1, []), (21, 3, 75, 0, []), bz, bz, (3, 1, 3, 1, []), (1, 3, 2, 400, []), bz, bz, (22, 3, 75, 4, []), bz, bz, (5, 1, 0, 1, []), (5, 1, 1, 1, []), (40, 3, 40, 0, []), bz, bz, (21, 3, 67, 0, []), bz, bz, (5, 1, 0, 1, []), (40, 3, 41, 0, []), bz, bz, (21, 3, 67, 0, []), bz, bz, (1, 1, 0, 1, []), (23, 3, 68, 0, []), bz, bz, (1, 1, 0, 0, []), (6, 1, 2, 1, []), (9, 3, 3, 1, []), bz, bz, (23, 3, 37, 0, []), bz, bz, (5, 1, 0, 1, []), (25, 3, 59, 0, []), bz, bz, (41, 1, 0, 0, [])]
def cd_X6_readPart : List bh_I := [(5, 1, 0, 1, []), (40, 3, 42, 0, []), bz, bz, (5, 1, 0, 1, []), (45, 2, 0, 44, []), bz, (40, 3, 43, 0, []), bz, bz, (21, 3, 40, 0, []), bz, bz, (5, 1, 1, 1, []), (25, 3, 6, 0, []), bz, bz, (1, 2, 1, 12, []), bz, (22, 3, 30, 3, []), bz, bz, (5, 1, 0, 1, []), (5, 1, 1, 1, []), (40, 3, 44, 0, []), bz, bz, (23, 3, 39, 0, []), bz, bz, (5, 1, 0, 1, []), (5, 1, 0, 1, []), (25, 3, 58, 0, []), bz, bz, (1, 1, 0, 3, []), (40, 3, 45, 0, []), bz, bz, (41, 1, 0, 0, []), (5, 1, 0, 1, []), (45, 2, 9, 63, []), bz, (40, 3, 43, 0, []), bz, bz, (21, 3, 75, 0, []), bz, bz, (5, 1, 1, 1, []), (25, 3, 8, 0, []), bz, bz, (1, 1, 0, 4, []), (22, 3, 65, 3, []), bz, bz, (5, 1, 0, 1, []), (5, 1, 1, 1, []), (40, 3, 46, 0, []), bz, bz, (23, 3, 74, 0, []), bz, bz, (5, 1, 0, 1, []), (5, 1, 0, 1, []), (25, 3, 58, 0, []), bz, bz, (1, 1, 0, 3, []), (40, 3, 45, 0, []), bz, bz, (41, 1, 0, 0, []), (5, 1, 0, 1, []), (5, 1, 0, 1, []), (25, 3, 58, 0, []), bz, bz, (1, 1, 0, 1, []), (40, 3, 45, 0, []), bz, bz, (41, 1, 0, 0, [])]
def cd_X6_readSemicolon : List bh_I := [(5, 1, 0, 1, []), (40, 3, 39, 0, []), bz, bz, (5, 1, 0, 1, []), (25, 3, 57, 0, []), bz, bz, (5, 1, 0, 1, []), (25, 3, 55, 0, []), bz, bz, (22, 3, 17, 2, []), bz, bz, (1, 1, 0, 0, []), (41, 1, 0, 0, []), (5, 1, 0, 1, []), (25, 3, 54, 0, []), bz, bz, (5, 1, 0, 1, []), (25, 3, 57, 0, []), bz, bz, (27, 1, 0, 0, []), (1, 2, 1, 59, []), bz, (22, 3, 41, 0, []), bz, bz, (5, 1, 0, 1, []), (5, 1, 0, 1, []), (25, 3, 57, 0, []), bz, bz, (1, 1, 0, 1, []), (40, 3, 45, 0, []), bz, bz, (41, 1, 0, 0, []), (5, 1, 0, 1, []), (18, 1, 0, 0, []), (25, 3, 57, 0, []), bz, bz, (1, 1, 0, 1, []), (10, 1, 0, 0, []), (26, 3, 57, 0, []), bz, bz, (1, 1, 0, 1, []), (41, 1, 0, 0, [])]
def cd_X6_readWriter : List bh_I := [(5, 1, 1, 1, []), (25, 3, 6, 0, []), bz, bz, (6, 1, 2, 1, []), (5, 1, 0, 1, []), (1, 1, 0, 0, []), (1, 2, 1, 99, []), bz, (40, 3, 47, 0, []), bz, bz, (6, 1, 3, 1, []), (5, 1, 0, 1, []), (25, 3, 59, 0, []), bz, bz, (21, 3, 22, 0, []), bz, bz, (1, 1, 0, 0, []), (41, 1, 0, 0, []), (5, 1, 1, 1, []), (3, 1, 3, 1, []), (40, 3, 48, 0, []), bz, bz, (5, 1, 0, 1, []), (5, 1, 1, 1, []), (3, 1, 2, 1, []), (40, 3, 49, 0, []), bz, bz, (21, 3, 38, 1, []), bz, bz, (1, 1, 0, 0, []), (41, 1, 0, 0, []), (5, 1, 0, 1, []), (40, 3, 39, 0, []), bz, bz, (5, 1, 0, 1, []), (25, 3, 57, 0, []), bz, bz, (5, 1, 0, 1, []), (25, 3, 55, 0, []), bz, bz, (22, 3, 77, 3, []), bz, bz, (5, 1, 0, 1, []), (25, 3, 54, 0, []), bz, bz, (5, 1, 0, 1, []), (25, 3, 57, 0, []), bz, bz, (27, 1, 0, 0, []), (40, 3, 50, 0, []), bz, bz, (21, 3, 77, 0, []), bz, bz, (5, 1, 0, 1, []), (5, 1, 1, 1, []), (3, 1, 2, 1, []), (40, 3, 51, 0, []), bz, bz, (21, 3, 81, 0, []), bz, bz, (1, 1, 0, 1, []), (23, 3, 82, 0, []), bz, bz, (1, 1, 0, 0, []), (41, 1, 0, 0, [])]
def cd_X6_readHabit : List bh_I := [(5, 1, 0, 1, []), (40, 3, 42, 0, []), bz, bz, (5, 1, 0, 1, []), (40, 3, 52, 0, []), bz, bz, (6, 1, 3, 1, []), (3, 1, 3, 1, []), (1, 1, 0, (-1), []), (22, 3, 24, 1, []), bz, bz, (5, 1, 0, 1, []), (5, 1, 0, 1, []), (25, 3, 58, 0, []), bz, bz, (1, 1, 0, 1, []), (40, 3, 45, 0, []), bz, bz, (41, 1, 0, 0, []), (1, 1, 0, 0, []), (6, 2, 4, 0, []), bz, (1, 1, 0, 0, []), (6, 2, 5, 0, []), bz, (3, 1, 3, 1, []), (40, 3, 53, 0, []), bz, bz, (21, 3, 55, 5, []), bz, bz, (5, 1, 0, 1, []), (3, 1, 3, 1, []), (1, 1, 0, 4, []), (22, 3, 47, 1, []), bz, bz, (1, 1, 0, 1, []), (23, 3, 48, 0, []), bz, bz, (1, 1, 0, 0, []), (1, 2, 1, 15, []), bz, (40, 3, 47, 0, []), bz, bz, (6, 2, 4, 0, []), bz, (5, 1, 0, 1, []), (25, 3, 59, 0, []), bz, bz, (21, 3, 103, 1, []), bz, bz, (3, 1, 3, 1, []), (40, 3, 53, 0, []), bz, bz, (1, 1, 0, 1, []), (22, 3, 103, 5, []), bz, bz, (5, 1, 0, 1, []), (1, 1, 0, 0, []), (1, 2, 1, 15, []), bz, (40, 3, 47, 0, []), bz, bz, (6, 2, 5, 0, []), bz, (5, 1, 0, 1, []), (25, 3, 59, 0, []), bz, bz, (21, 3, 103, 1, []), bz, bz, (3, 2, 5, 0, []), bz, (3, 2, 4, 0, []), bz, (22, 3, 103, 1, []), bz, bz, (5, 1, 0, 1, []), (5, 1, 0, 1, []), (25, 3, 58, 0, []), bz, bz, (1, 1, 0, 2, []), (40, 3, 45, 0, []), bz, bz, (19, 1, 0, 0, []), (5, 1, 1, 1, []), (3, 1, 2, 1, []), (3, 1, 3, 1, []), (3, 2, 4, 0, []), bz, (3, 2, 5, 0, []), bz, (40, 3, 54, 0, []), bz, bz, (5, 1, 0, 1, []), (25, 3, 59, 0, []), bz, bz, (21, 3, 124, 1, []), bz, bz, (1, 1, 0, 1, []), (23, 3, 125, 0, []), bz, bz, (1, 1, 0, 0, []), (41, 1, 0, 0, [])]
def cd_X6_readUnder : List bh_I := [(5, 1, 0, 1, []), (40, 3, 42, 0, []), bz, bz, (5, 1, 0, 1, []), (45, 2, 8, 104, []), bz, (40, 3, 43, 0, []), bz, bz, (21, 3, 23, 1, []), bz, bz, (5, 1, 0, 1, []), (5, 1, 0, 1, []), (25, 3, 58, 0, []), bz, bz, (1, 1, 0, 1, []), (40, 3, 45, 0, []), bz, bz, (41, 1, 0, 0, []), (5, 1, 0, 1, []), (1, 1, 0, 0, []), (3, 1, 2, 1, []), (1, 1, 0, 1, []), (10, 1, 1, 0, []), (40, 3, 47, 0, []), bz, bz, (6, 1, 3, 1, []), (5, 1, 0, 1, []), (25, 3, 59, 0, []), bz, bz, (21, 3, 41, 0, []), bz, bz, (1, 1, 0, 0, []), (41, 1, 0, 0, []), (5, 1, 1, 1, []), (25, 3, 23, 0, []), bz, bz, (3, 1, 3, 1, []), (27, 1, 0, 0, []), (5, 1, 1, 1, []), (25, 3, 23, 0, []), bz, bz, (3, 1, 2, 1, []), (27, 1, 0, 0, []), (22, 3, 66, 2, []), bz, bz, (5, 1, 0, 1, []), (5, 1, 0, 1, []), (25, 3, 58, 0, []), bz, bz, (1, 1, 0, 4, []), (40, 3, 45, 0, []), bz, bz, (41, 1, 0, 0, []), (5, 1, 1, 1, []), (25, 3, 39, 0, []), bz, bz, (3, 1, 2, 1, []), (3, 1, 3, 1, []), (28, 1, 0, 0, []), (1, 1, 0, 1, []), (41, 1, 0, 0, [])]
def cd_X6_readBook : List bh_I := [(5, 1, 1, 1, []), (40, 3, 55, 0, []), bz, bz, (1, 1, 0, 0, []), (6, 1, 2, 1, []), (3, 1, 2, 1, []), (1, 2, 1, 8, []), bz, (22, 3, 88, 4, []), bz, bz, (5, 1, 0, 1, []), (1, 1, 0, 0, []), (1, 2, 3, 65535, [114, 575]), bz, (40, 3, 47, 0, []), bz, bz, (6, 1, 3, 1, []), (5, 1, 0, 1, []), (25, 3, 59, 0, []), bz, bz, (21, 3, 29, 0, []), bz, bz, (1, 1, 0, 0, []), (41, 1, 0, 0, []), (3, 1, 2, 1, []), (1, 2, 1, 8, []), bz, (22, 3, 45, 1, []), bz, bz, (5, 1, 0, 1, []), (5, 1, 0, 1, []), (25, 3, 58, 0, []), bz, bz, (1, 1, 0, 3, []), (40, 3, 45, 0, []), bz, bz, (41, 1, 0, 0, []), (5, 1, 1, 1, []), (3, 1, 3, 1, []), (40, 3, 56, 0, []), bz, bz, (5, 1, 0, 1, []), (40, 3, 39, 0, []), bz, bz, (5, 1, 0, 1, []), (25, 3, 57, 0, []), bz, bz, (5, 1, 0, 1, []), (25, 3, 55, 0, []), bz, bz, (22, 3, 80, 3, []), bz, bz, (5, 1, 0, 1, []), (25, 3, 54, 0, []), bz, bz, (5, 1, 0, 1, []), (25, 3, 57, 0, []), bz, bz, (27, 1, 0, 0, []), (40, 3, 57, 0, []), bz, bz, (21, 3, 82, 1, []), bz, bz, (1, 1, 0, 1, []), (41, 1, 0, 0, []), (9, 3, 2, 1, []), bz, bz, (23, 3, 6, 0, []), bz, bz, (1, 1, 0, 1, []), (41, 1, 0, 0, [])]
def cd_X6_readNumber : List bh_I := [(5, 1, 0, 1, []), (40, 3, 39, 0, []), bz, bz, (5, 1, 0, 1, []), (5, 1, 0, 1, []), (25, 3, 57, 0, []), bz, bz, (26, 3, 58, 0, []), bz, bz, (1, 1, 0, 0, []), (6, 1, 3, 1, []), (5, 1, 0, 1, []), (25, 3, 57, 0, []), bz, bz, (5, 1, 0, 1, []), (25, 3, 55, 0, []), bz, bz, (22, 3, 76, 3, []), bz, bz, (5, 1, 0, 1, []), (25, 3, 54, 0, []), bz, bz, (5, 1, 0, 1, []), (25, 3, 57, 0, []), bz, bz, (27, 1, 0, 0, []), (40, 3, 57, 0, []), bz, bz, (21, 3, 76, 0, []), bz, bz, (3, 1, 3, 1, []), (1, 2, 1, 10, []), bz, (10, 1, 2, 0, []), (5, 1, 0, 1, []), (25, 3, 54, 0, []), bz, bz, (5, 1, 0, 1, []), (25, 3, 57, 0, []), bz, bz, (27, 1, 0, 0, []), (10, 1, 0, 0, []), (1, 2, 1, 48, []), bz, (10, 1, 1, 0, []), (1, 2, 3, 1000000, [121, 523]), bz, (50, 3, 0, 122, [524]), bz, bz, (6, 1, 3, 1, []), (5, 1, 0, 1, []), (18, 1, 0, 0, []), (25, 3, 57, 0, []), bz, bz, (1, 1, 0, 1, []), (10, 1, 0, 0, []), (26, 3, 57, 0, []), bz, bz, (23, 3, 14, 0, []), bz, bz, (5, 1, 0, 1, []), (25, 3, 57, 0, []), bz, bz, (5, 1, 0, 1, []), (25, 3, 58, 0, []), bz, bz, (22, 3, 100, 1, []), bz, bz, (5, 1, 0, 1, []), (5, 1, 0, 1, []), (25, 3, 58, 0, []), bz, bz, (1, 1, 0, 1, []), (40, 3, 45, 0, []), bz, bz, (19, 1, 0, 0, []), (23, 3, 120, 0, []), bz, bz, (3, 1, 3, 1, []), (3, 1, 1, 1, []), (22, 3, 110, 2, []), bz, bz, (3, 1, 3, 1, []), (3, 1, 2, 1, []), (22, 3, 120, 5, []), bz, bz, (5, 1, 0, 1, []), (5, 1, 0, 1, []), (25, 3, 58, 0, []), bz, bz, (1, 1, 0, 2, []), (40, 3, 45, 0, []), bz, bz, (19, 1, 0, 0, []), (3, 1, 3, 1, []), (41, 1, 0, 0, [])]
def cd_X6_readWord : List bh_I := [(5, 1, 0, 1, []), (40, 3, 39, 0, []), bz, bz, (5, 1, 0, 1, []), (5, 1, 0, 1, []), (25, 3, 57, 0, []), bz, bz, (26, 3, 58, 0, []), bz, bz, (5, 1, 0, 1, []), (25, 3, 57, 0, []), bz, bz, (5, 1, 0, 1, []), (25, 3, 55, 0, []), bz, bz, (22, 3, 51, 3, []), bz, bz, (5, 1, 0, 1, []), (25, 3, 54, 0, []), bz, bz, (5, 1, 0, 1, []), (25, 3, 57, 0, []), bz, bz, (27, 1, 0, 0, []), (40, 3, 50, 0, []), bz, bz, (21, 3, 51, 0, []), bz, bz, (5, 1, 0, 1, []), (18, 1, 0, 0, []), (25, 3, 57, 0, []), bz, bz, (1, 1, 0, 1, []), (10, 1, 0, 0, []), (26, 3, 57, 0, []), bz, bz, (23, 3, 12, 0, []), bz, bz, (44, 1, 0, 0, [])]
def cd_X6_wordIs : List bh_I := [(5, 1, 1, 1, []), (46, 3, 0, 127, [464]), bz, bz, (5, 1, 0, 1, []), (25, 3, 57, 0, []), bz, bz, (5, 1, 0, 1, []), (25, 3, 58, 0, []), bz, bz, (10, 1, 1, 0, []), (22, 3, 18, 0, []), bz, bz, (1, 1, 0, 0, []), (41, 1, 0, 0, []), (1, 1, 0, 0, []), (6, 1, 2, 1, []), (3, 1, 2, 1, []), (5, 1, 1, 1, []), (46, 3, 0, 127, [464]), bz, bz, (22, 3, 55, 3, []), bz, bz, (5, 1, 0, 1, []), (25, 3, 54, 0, []), bz, bz, (5, 1, 0, 1, []), (25, 3, 58, 0, []), bz, bz, (3, 1, 2, 1, []), (10, 1, 0, 0, []), (27, 1, 0, 0, []), (5, 1, 1, 1, []), (3, 1, 2, 1, []), (47, 3, 0, 131, [474]), bz, bz, (22, 3, 49, 0, []), bz, bz, (1, 1, 0, 0, []), (41, 1, 0, 0, []), (9, 3, 2, 1, []), bz, bz, (23, 3, 20, 0, []), bz, bz, (1, 1, 0, 1, []), (41, 1, 0, 0, [])]
def cd_X6_kindOfWord : List bh_I := [(1, 1, 0, 0, []), (6, 1, 1, 1, []), (3, 1, 1, 1, []), (1, 2, 1, 6, []), bz, (22, 3, 27, 4, []), bz, bz, (5, 1, 0, 1, []), (3, 1, 1, 1, []), (40, 3, 58, 0, []), bz, bz, (40, 3, 43, 0, []), bz, bz, (21, 3, 21, 0, []), bz, bz, (3, 1, 1, 1, []), (41, 1, 0, 0, []), (9, 3, 1, 1, []), bz, bz, (23, 3, 2, 0, []), bz, bz, (1, 1, 0, (-1), []), (41, 1, 0, 0, [])]
def cd_X6_wordOfKind : List bh_I := [(3, 1, 0, 1, []), (24, 39, 58, 1, [40, 43, 46, 49, 52, 55]), bz, bz, bz, bz, bz, bz, bz, bz, bz, bz, bz, bz, bz, bz, bz, bz, bz, bz, bz, bz, bz, bz, bz, bz, bz, bz, bz, bz, bz, bz, bz, bz, bz, bz, bz, bz, bz, bz, (45, 2, 1, 139, []), bz, (43, 1, 0, 0, []), (45, 2, 2, 141, []), bz, (43, 1, 0, 0, []), (45, 2, 3, 143, []), bz, (43, 1, 0, 0, []), (45, 2, 4, 145, []), bz, (43, 1, 0, 0, []), (45, 2, 5, 147, []), bz, (43, 1, 0, 0, []), (45, 2, 6, 149, []), bz, (43, 1, 0, 0, []), (45, 2, 7, 151, []), bz, (43, 1, 0, 0, [])]
def cd_X6_skipBlanks : List bh_I := [(5, 1, 0, 1, []), (25, 3, 57, 0, []), bz, bz, (5, 1, 0, 1, []), (25, 3, 55, 0, []), bz, bz, (22, 3, 38, 3, []), bz, bz, (5, 1, 0, 1, []), (25, 3, 54, 0, []), bz, bz, (5, 1, 0, 1, []), (25, 3, 57, 0, []), bz, bz, (27, 1, 0, 0, []), (1, 2, 1, 32, []), bz, (22, 3, 38, 1, []), bz, bz, (5, 1, 0, 1, []), (18, 1, 0, 0, []), (25, 3, 57, 0, []), bz, bz, (1, 1, 0, 1, []), (10, 1, 0, 0, []), (26, 3, 57, 0, []), bz, bz, (23, 3, 0, 0, []), bz, bz, (44, 1, 0, 0, [])]
def cd_X6_isLetter : List bh_I := [(3, 1, 0, 1, []), (1, 2, 1, 97, []), bz, (22, 3, 16, 2, []), bz, bz, (3, 1, 0, 1, []), (1, 2, 1, 122, []), bz, (22, 3, 16, 4, []), bz, bz, (1, 1, 0, 1, []), (23, 3, 17, 0, []), bz, bz, (1, 1, 0, 0, []), (41, 1, 0, 0, [])]
def cd_X6_isDigit : List bh_I := [(3, 1, 0, 1, []), (1, 2, 1, 48, []), bz, (22, 3, 16, 2, []), bz, bz, (3, 1, 0, 1, []), (1, 2, 1, 57, []), bz, (22, 3, 16, 4, []), bz, bz, (1, 1, 0, 1, []), (23, 3, 17, 0, []), bz, bz, (1, 1, 0, 0, []), (41, 1, 0, 0, [])]
def cd_X6_refuse : List bh_I := [(5, 1, 0, 1, []), (1, 2, 1, 8, []), bz, (3, 1, 1, 1, []), (10, 1, 2, 0, []), (3, 1, 2, 1, []), (10, 1, 0, 0, []), (26, 3, 59, 0, []), bz, bz, (1, 1, 0, 0, []), (41, 1, 0, 0, [])]
def cd_X7_init : List bh_I := [(5, 1, 0, 1, []), (39, 3, 0, 3, [134]), bz, bz, (5, 1, 0, 1, []), (1, 2, 1, 12, []), bz, (37, 2, 20, 0, []), bz, (26, 3, 20, 0, []), bz, bz, (5, 1, 0, 1, []), (1, 2, 1, 12, []), bz, (37, 2, 20, 0, []), bz, (26, 3, 24, 0, []), bz, bz, (5, 1, 0, 1, []), (1, 2, 1, 12, []), bz, (37, 2, 20, 0, []), bz, (26, 3, 28, 0, []), bz, bz, (5, 1, 0, 1, []), (1, 2, 1, 12, []), bz, (37, 2, 20, 0, []), bz, (26, 3, 32, 0, []), bz, bz, (5, 1, 0, 1, []), (1, 2, 1, 12, []), bz, (37, 2, 20, 0, []), bz, (26, 3, 36, 0, []), bz, bz, (5, 1, 0, 1, []), (1, 2, 1, 12, []), bz, (37, 2, 20, 0, []), bz, (26, 3, 40, 0, []), bz, bz, (5, 1, 0, 1, []), (1, 2, 1, 12, []), bz, (37, 2, 20, 0, []), bz, (26, 3, 42, 0, []), bz, bz, (5, 1, 0, 1, []), (1, 2, 1, 12, []), bz, (37, 2, 20, 0, []), bz, (26, 3, 44, 0, []), bz, bz, (5, 1, 0, 1, []), (1, 1, 0, 4, []), (37, 2, 20, 0, []), bz, (26, 3, 46, 0, []), bz, bz, (5, 1, 0, 1, []), (1, 2, 1, 32, []), bz, (37, 2, 20, 0, []), bz, (26, 3, 49, 0, []), bz, bz, (5, 1, 0, 1, []), (1, 3, 2, 384, []), bz, bz, (37, 2, 20, 0, []), bz, (26, 3, 50, 0, []), bz, bz, (5, 1, 0, 1, []), (1, 2, 1, 16, []), bz, (37, 2, 20, 0, []), bz, (26, 3, 51, 0, []), bz, bz, (44, 1, 0, 0, [])]
def cd_X7_empty : List bh_I := [(5, 1, 0, 1, []), (1, 1, 0, 0, []), (26, 3, 0, 0, []), bz, bz, (5, 1, 0, 1, []), (1, 1, 0, 0, []), (26, 3, 7, 0, []), bz, bz, (5, 1, 0, 1, []), (1, 1, 0, 0, []), (26, 3, 11, 0, []), bz, bz, (5, 1, 0, 1, []), (1, 1, 0, 0, []), (26, 3, 13, 0, []), bz, bz, (5, 1, 0, 1, []), (1, 1, 0, 0, []), (26, 3, 15, 0, []), bz, bz, (5, 1, 0, 1, []), (1, 1, 0, 0, []), (26, 3, 17, 0, []), bz, bz, (44, 1, 0, 0, [])]
def cd_X7_copyFrom : List bh_I := [(5, 1, 0, 1, []), (5, 1, 1, 1, []), (25, 3, 0, 0, []), bz, bz, (26, 3, 0, 0, []), bz, bz, (5, 1, 0, 1, []), (5, 1, 1, 1, []), (25, 3, 7, 0, []), bz, bz, (26, 3, 7, 0, []), bz, bz, (5, 1, 0, 1, []), (5, 1, 1, 1, []), (25, 3, 11, 0, []), bz, bz, (26, 3, 11, 0, []), bz, bz, (5, 1, 0, 1, []), (5, 1, 1, 1, []), (25, 3, 13, 0, []), bz, bz, (26, 3, 13, 0, []), bz, bz, (5, 1, 0, 1, []), (5, 1, 1, 1, []), (25, 3, 15, 0, []), bz, bz, (26, 3, 15, 0, []), bz, bz, (5, 1, 0, 1, []), (5, 1, 1, 1, []), (25, 3, 17, 0, []), bz, bz, (26, 3, 17, 0, []), bz, bz, (5, 1, 1, 1, []), (25, 3, 20, 0, []), bz, bz, (5, 1, 0, 1, []), (25, 3, 20, 0, []), bz, bz, (40, 3, 59, 0, []), bz, bz, (5, 1, 1, 1, []), (25, 3, 24, 0, []), bz, bz, (5, 1, 0, 1, []), (25, 3, 24, 0, []), bz, bz, (40, 3, 59, 0, []), bz, bz, (5, 1, 1, 1, []), (25, 3, 28, 0, []), bz, bz, (5, 1, 0, 1, []), (25, 3, 28, 0, []), bz, bz, (40, 3, 59, 0, []), bz, bz, (5, 1, 1, 1, []), (25, 3, 32, 0, []), bz, bz, (5, 1, 0, 1, []), (25, 3, 32, 0, []), bz, bz, (40, 3, 59, 0, []), bz, bz, (5, 1, 1, 1, []), (25, 3, 36, 0, []), bz, bz, (5, 1, 0, 1, []), (25, 3, 36, 0, []), bz, bz, (40, 3, 59, 0, []), bz, bz, (5, 1, 1, 1, []), (25, 3, 40, 0, []), bz, bz, (5, 1, 0, 1, []), (25, 3, 40, 0, []), bz, bz, (40, 3, 59, 0, []), bz, bz, (5, 1, 1, 1, []), (25, 3, 42, 0, []), bz, bz, (5, 1, 0, 1, []), (25, 3, 42, 0, []), bz, bz, (40, 3, 59, 0, []), bz, bz, (5, 1, 1, 1, []), (25, 3, 44, 0, []), bz, bz, (5, 1, 0, 1, []), (25, 3, 44, 0, []), bz, bz, (40, 3, 59, 0, []), bz, bz, (5, 1, 1, 1, []), (25, 3, 46, 0, []), bz, bz, (5, 1, 0, 1, []), (25, 3, 46, 0, []), bz, bz, (40, 3, 59, 0, []), bz, bz, (5, 1, 1, 1, []), (25, 3, 49, 0, []), bz, bz, (5, 1, 0, 1, []), (25, 3, 49, 0, []), bz, bz, (40, 3, 59, 0, []), bz, bz, (5, 1, 1, 1, []), (25, 3, 50, 0, []), bz, bz, (5, 1, 0, 1, []), (25, 3, 50, 0, []), bz, bz, (40, 3, 59, 0, []), bz, bz, (5, 1, 1, 1, []), (25, 3, 51, 0, []), bz, bz, (5, 1, 0, 1, []), (25, 3, 51, 0, []), bz, bz, (40, 3, 59, 0, []), bz, bz, (44, 1, 0, 0, [])]
def cd_X7_copyRow : List bh_I := [(5, 1, 0, 1, []), (1, 1, 0, 0, []), (5, 1, 1, 1, []), (1, 1, 0, 0, []), (5, 1, 0, 1, []), (35, 1, 0, 0, []), (5, 1, 1, 1, []), (35, 1, 0, 0, []), (50, 3, 0, 71, [591]), bz, bz, (48, 3, 0, 77, [592]), bz, bz, (44, 1, 0, 0, [])]
def cd_X7_addWriter : List bh_I := [(5, 1, 0, 1, []), (25, 3, 20, 0, []), bz, bz, (5, 1, 0, 1, []), (25, 3, 0, 0, []), bz, bz, (3, 1, 1, 1, []), (28, 1, 0, 0, []), (5, 1, 0, 1, []), (5, 1, 0, 1, []), (25, 3, 0, 0, []), bz, bz, (1, 1, 0, 0, []), (1, 1, 0, 0, []), (1, 1, 0, 0, []), (40, 3, 60, 0, []), bz, bz, (5, 1, 0, 1, []), (25, 3, 36, 0, []), bz, bz, (5, 1, 0, 1, []), (25, 3, 0, 0, []), bz, bz, (1, 1, 0, (-1), []), (28, 1, 0, 0, []), (5, 1, 0, 1, []), (25, 3, 40, 0, []), bz, bz, (5, 1, 0, 1, []), (25, 3, 0, 0, []), bz, bz, (1, 1, 0, 0, []), (28, 1, 0, 0, []), (5, 1, 0, 1, []), (25, 3, 42, 0, []), bz, bz, (5, 1, 0, 1, []), (25, 3, 0, 0, []), bz, bz, (1, 1, 0, 0, []), (28, 1, 0, 0, []), (5, 1, 0, 1, []), (25, 3, 44, 0, []), bz, bz, (5, 1, 0, 1, []), (25, 3, 0, 0, []), bz, bz, (1, 1, 0, 0, []), (28, 1, 0, 0, []), (5, 1, 0, 1, []), (18, 1, 0, 0, []), (25, 3, 0, 0, []), bz, bz, (1, 1, 0, 1, []), (10, 1, 0, 0, []), (26, 3, 0, 0, []), bz, bz, (44, 1, 0, 0, [])]
def cd_X7_addBook : List bh_I := [(5, 1, 0, 1, []), (25, 3, 46, 0, []), bz, bz, (5, 1, 0, 1, []), (25, 3, 7, 0, []), bz, bz, (1, 1, 0, 0, []), (28, 1, 0, 0, []), (5, 1, 0, 1, []), (18, 1, 0, 0, []), (25, 3, 7, 0, []), bz, bz, (1, 1, 0, 1, []), (10, 1, 0, 0, []), (26, 3, 7, 0, []), bz, bz, (44, 1, 0, 0, [])]
def cd_X7_addPage : List bh_I := [(5, 1, 0, 1, []), (25, 3, 7, 0, []), bz, bz, (1, 1, 0, 1, []), (10, 1, 1, 0, []), (6, 1, 2, 1, []), (5, 1, 0, 1, []), (25, 3, 49, 0, []), bz, bz, (3, 1, 2, 1, []), (1, 2, 1, 8, []), bz, (10, 1, 2, 0, []), (5, 1, 0, 1, []), (25, 3, 46, 0, []), bz, bz, (3, 1, 2, 1, []), (27, 1, 0, 0, []), (10, 1, 0, 0, []), (3, 1, 1, 1, []), (28, 1, 0, 0, []), (5, 1, 0, 1, []), (25, 3, 46, 0, []), bz, bz, (3, 1, 2, 1, []), (20, 1, 0, 0, []), (27, 1, 0, 0, []), (1, 1, 0, 1, []), (10, 1, 0, 0, []), (28, 1, 0, 0, []), (44, 1, 0, 0, [])]
def cd_X7_isWriter : List bh_I := [(3, 1, 1, 1, []), (21, 3, 16, 2, []), bz, bz, (3, 1, 1, 1, []), (5, 1, 0, 1, []), (25, 3, 0, 0, []), bz, bz, (22, 3, 16, 3, []), bz, bz, (1, 1, 0, 1, []), (23, 3, 17, 0, []), bz, bz, (1, 1, 0, 0, []), (41, 1, 0, 0, [])]
def cd_X7_isBook : List bh_I := [(3, 1, 1, 1, []), (21, 3, 16, 2, []), bz, bz, (3, 1, 1, 1, []), (5, 1, 0, 1, []), (25, 3, 7, 0, []), bz, bz, (22, 3, 16, 3, []), bz, bz, (1, 1, 0, 1, []), (23, 3, 17, 0, []), bz, bz, (1, 1, 0, 0, []), (41, 1, 0, 0, [])]
def cd_X7_isPage : List bh_I := [(5, 1, 0, 1, []), (3, 1, 1, 1, []), (40, 3, 61, 0, []), bz, bz, (21, 3, 26, 0, []), bz, bz, (3, 1, 2, 1, []), (21, 3, 26, 2, []), bz, bz, (3, 1, 2, 1, []), (5, 1, 0, 1, []), (25, 3, 46, 0, []), bz, bz, (3, 1, 1, 1, []), (27, 1, 0, 0, []), (22, 3, 26, 3, []), bz, bz, (1, 1, 0, 1, []), (23, 3, 27, 0, []), bz, bz, (1, 1, 0, 0, []), (41, 1, 0, 0, [])]
def cd_X7_isDead : List bh_I := [(5, 1, 0, 1, []), (25, 3, 17, 0, []), bz, bz, (3, 1, 1, 1, []), (10, 1, 7, 0, []), (1, 1, 0, 1, []), (10, 1, 3, 0, []), (1, 1, 0, 1, []), (22, 3, 16, 1, []), bz, bz, (1, 1, 0, 1, []), (23, 3, 17, 0, []), bz, bz, (1, 1, 0, 0, []), (41, 1, 0, 0, [])]
def cd_X7_inMood : List bh_I := [(5, 1, 0, 1, []), (25, 3, 15, 0, []), bz, bz, (3, 1, 1, 1, []), (10, 1, 7, 0, []), (1, 1, 0, 1, []), (10, 1, 3, 0, []), (1, 1, 0, 1, []), (22, 3, 16, 1, []), bz, bz, (1, 1, 0, 1, []), (23, 3, 17, 0, []), bz, bz, (1, 1, 0, 0, []), (41, 1, 0, 0, [])]
def cd_X7_hasStock : List bh_I := [(5, 1, 0, 1, []), (25, 3, 44, 0, []), bz, bz, (3, 1, 1, 1, []), (27, 1, 0, 0, []), (3, 1, 2, 1, []), (10, 1, 7, 0, []), (1, 1, 0, 1, []), (10, 1, 3, 0, []), (1, 1, 0, 1, []), (22, 3, 18, 1, []), bz, bz, (1, 1, 0, 1, []), (23, 3, 19, 0, []), bz, bz, (1, 1, 0, 0, []), (41, 1, 0, 0, [])]
def cd_X7_stockOf : List bh_I := [(5, 1, 0, 1, []), (25, 3, 50, 0, []), bz, bz, (3, 1, 1, 1, []), (1, 1, 0, 4, []), (10, 1, 2, 0, []), (3, 1, 2, 1, []), (10, 1, 0, 0, []), (1, 2, 1, 8, []), bz, (10, 1, 2, 0, []), (3, 1, 3, 1, []), (10, 1, 0, 0, []), (27, 1, 0, 0, []), (41, 1, 0, 0, [])]
def cd_X7_putStock : List bh_I := [(5, 1, 0, 1, []), (25, 3, 50, 0, []), bz, bz, (3, 1, 1, 1, []), (1, 1, 0, 4, []), (10, 1, 2, 0, []), (3, 1, 2, 1, []), (10, 1, 0, 0, []), (1, 2, 1, 8, []), bz, (10, 1, 2, 0, []), (3, 1, 3, 1, []), (10, 1, 0, 0, []), (3, 2, 4, 0, []), bz, (28, 1, 0, 0, []), (5, 1, 0, 1, []), (25, 3, 44, 0, []), bz, bz, (3, 1, 1, 1, []), (20, 1, 0, 0, []), (27, 1, 0, 0, []), (1, 1, 0, 1, []), (3, 1, 2, 1, []), (10, 1, 6, 0, []), (10, 1, 4, 0, []), (28, 1, 0, 0, []), (44, 1, 0, 0, [])]
def cd_X7_hasHabit : List bh_I := [(5, 1, 0, 1, []), (25, 3, 24, 0, []), bz, bz, (3, 1, 1, 1, []), (27, 1, 0, 0, []), (3, 1, 2, 1, []), (22, 3, 35, 1, []), bz, bz, (5, 1, 0, 1, []), (25, 3, 28, 0, []), bz, bz, (3, 1, 1, 1, []), (27, 1, 0, 0, []), (3, 1, 3, 1, []), (22, 3, 35, 1, []), bz, bz, (5, 1, 0, 1, []), (25, 3, 32, 0, []), bz, bz, (3, 1, 1, 1, []), (27, 1, 0, 0, []), (3, 2, 4, 0, []), bz, (22, 3, 35, 1, []), bz, bz, (1, 1, 0, 1, []), (23, 3, 36, 0, []), bz, bz, (1, 1, 0, 0, []), (41, 1, 0, 0, [])]
def cd_X7_setHabit : List bh_I := [(5, 1, 0, 1, []), (25, 3, 24, 0, []), bz, bz, (3, 1, 1, 1, []), (3, 1, 2, 1, []), (28, 1, 0, 0, []), (5, 1, 0, 1, []), (25, 3, 28, 0, []), bz, bz, (3, 1, 1, 1, []), (3, 1, 3, 1, []), (28, 1, 0, 0, []), (5, 1, 0, 1, []), (25, 3, 32, 0, []), bz, bz, (3, 1, 1, 1, []), (3, 2, 4, 0, []), bz, (28, 1, 0, 0, []), (44, 1, 0, 0, [])]
def cd_X7_habitOn : List bh_I := [(5, 1, 0, 1, []), (25, 3, 24, 0, []), bz, bz, (3, 1, 1, 1, []), (27, 1, 0, 0, []), (5, 1, 0, 1, []), (25, 3, 28, 0, []), bz, bz, (3, 1, 1, 1, []), (27, 1, 0, 0, []), (5, 1, 0, 1, []), (25, 3, 32, 0, []), bz, bz, (3, 1, 1, 1, []), (27, 1, 0, 0, []), (3, 1, 2, 1, []), (40, 3, 62, 0, []), bz, bz, (41, 1, 0, 0, [])]
def cd_X7_rowOf : List bh_I := [(5, 1, 0, 1, []), (25, 3, 49, 0, []), bz, bz, (3, 1, 1, 1, []), (1, 2, 1, 8, []), bz, (10, 1, 2, 0, []), (3, 1, 2, 1, []), (10, 1, 0, 0, []), (27, 1, 0, 0, []), (41, 1, 0, 0, [])]
def cd_X7_pageOfSeen : List bh_I := [(5, 1, 0, 1, []), (25, 3, 46, 0, []), bz, bz, (3, 1, 1, 1, []), (27, 1, 0, 0, []), (21, 3, 20, 5, []), bz, bz, (3, 1, 2, 1, []), (5, 1, 0, 1, []), (25, 3, 46, 0, []), bz, bz, (3, 1, 1, 1, []), (27, 1, 0, 0, []), (12, 1, 0, 0, []), (23, 3, 21, 0, []), bz, bz, (1, 1, 0, 0, []), (41, 1, 0, 0, [])]
def cd_X7_havingUnder : List bh_I := [(1, 1, 0, 0, []), (6, 1, 2, 1, []), (1, 1, 0, 0, []), (6, 1, 3, 1, []), (3, 1, 3, 1, []), (5, 1, 0, 1, []), (25, 3, 0, 0, []), bz, bz, (22, 3, 34, 3, []), bz, bz, (5, 1, 0, 1, []), (25, 3, 36, 0, []), bz, bz, (3, 1, 3, 1, []), (27, 1, 0, 0, []), (3, 1, 1, 1, []), (22, 3, 28, 1, []), bz, bz, (3, 1, 2, 1, []), (1, 1, 0, 1, []), (3, 1, 3, 1, []), (10, 1, 6, 0, []), (10, 1, 4, 0, []), (6, 1, 2, 1, []), (9, 3, 3, 1, []), bz, bz, (23, 3, 4, 0, []), bz, bz, (3, 1, 2, 1, []), (41, 1, 0, 0, [])]
def cd_X7_allPages : List bh_I := [(1, 1, 0, 0, []), (6, 1, 1, 1, []), (1, 1, 0, 0, []), (6, 1, 2, 1, []), (3, 1, 2, 1, []), (5, 1, 0, 1, []), (25, 3, 7, 0, []), bz, bz, (22, 3, 27, 3, []), bz, bz, (3, 1, 1, 1, []), (5, 1, 0, 1, []), (25, 3, 46, 0, []), bz, bz, (3, 1, 2, 1, []), (27, 1, 0, 0, []), (10, 1, 0, 0, []), (6, 1, 1, 1, []), (9, 3, 2, 1, []), bz, bz, (23, 3, 4, 0, []), bz, bz, (3, 1, 1, 1, []), (41, 1, 0, 0, [])]
def cd_X7_sumOf : List bh_I := [(1, 1, 0, 0, []), (6, 1, 2, 1, []), (1, 1, 0, 0, []), (6, 1, 3, 1, []), (3, 1, 3, 1, []), (5, 1, 0, 1, []), (25, 3, 0, 0, []), bz, bz, (22, 3, 24, 3, []), bz, bz, (3, 1, 2, 1, []), (5, 1, 1, 1, []), (3, 1, 3, 1, []), (27, 1, 0, 0, []), (10, 1, 0, 0, []), (6, 1, 2, 1, []), (9, 3, 3, 1, []), bz, bz, (23, 3, 4, 0, []), bz, bz, (3, 1, 2, 1, []), (41, 1, 0, 0, [])]
def cd_X8_init : List bh_I := [(5, 1, 0, 1, []), (39, 3, 0, 3, [275]), bz, bz, (5, 1, 0, 1, []), (1, 2, 1, 16, []), bz, (37, 2, 20, 0, []), bz, (26, 3, 68, 0, []), bz, bz, (5, 1, 0, 1, []), (1, 2, 1, 16, []), bz, (37, 2, 20, 0, []), bz, (26, 3, 70, 0, []), bz, bz, (5, 1, 0, 1, []), (1, 2, 1, 16, []), bz, (37, 2, 20, 0, []), bz, (26, 3, 72, 0, []), bz, bz, (44, 1, 0, 0, [])]
def cd_X8_follow : List bh_I := [(1, 1, 0, 0, []), (6, 2, 4, 0, []), bz, (3, 2, 4, 0, []), bz, (1, 2, 1, 16, []), bz, (22, 3, 33, 3, []), bz, bz, (5, 1, 0, 1, []), (25, 3, 68, 0, []), bz, bz, (3, 2, 4, 0, []), bz, (3, 2, 4, 0, []), bz, (28, 1, 0, 0, []), (5, 1, 0, 1, []), (25, 3, 70, 0, []), bz, bz, (3, 2, 4, 0, []), bz, (1, 1, 0, (-1), []), (28, 1, 0, 0, []), (9, 3, 4, 1, []), bz, bz, (23, 3, 3, 0, []), bz, bz, (3, 1, 3, 1, []), (6, 2, 4, 0, []), bz, (5, 1, 2, 1, []), (25, 3, 65, 0, []), bz, bz, (1, 1, 0, 1, []), (10, 1, 1, 0, []), (6, 2, 5, 0, []), bz, (3, 2, 5, 0, []), bz, (21, 3, 92, 2, []), bz, bz, (5, 1, 2, 1, []), (25, 3, 62, 0, []), bz, bz, (3, 2, 5, 0, []), bz, (27, 1, 0, 0, []), (6, 2, 6, 0, []), bz, (5, 1, 1, 1, []), (3, 2, 6, 0, []), bz, (40, 3, 63, 0, []), bz, bz, (21, 3, 86, 1, []), bz, bz, (5, 1, 0, 1, []), (5, 1, 1, 1, []), (3, 2, 6, 0, []), bz, (3, 2, 4, 0, []), bz, (40, 3, 64, 0, []), bz, bz, (5, 1, 1, 1, []), (3, 2, 6, 0, []), bz, (3, 2, 4, 0, []), bz, (40, 3, 65, 0, []), bz, bz, (6, 2, 4, 0, []), bz, (9, 3, 5, (-1), []), bz, bz, (23, 3, 44, 0, []), bz, bz, (44, 1, 0, 0, [])]
def cd_X8_changedBy : List bh_I := [(1, 1, 0, 0, []), (6, 1, 2, 1, []), (1, 1, 0, 0, []), (6, 1, 3, 1, []), (3, 1, 3, 1, []), (1, 2, 1, 16, []), bz, (22, 3, 32, 3, []), bz, bz, (5, 1, 0, 1, []), (25, 3, 70, 0, []), bz, bz, (3, 1, 3, 1, []), (27, 1, 0, 0, []), (3, 1, 1, 1, []), (22, 3, 26, 1, []), bz, bz, (3, 1, 2, 1, []), (1, 1, 0, 1, []), (3, 1, 3, 1, []), (10, 1, 6, 0, []), (10, 1, 4, 0, []), (6, 1, 2, 1, []), (9, 3, 3, 1, []), bz, bz, (23, 3, 4, 0, []), bz, bz, (3, 1, 2, 1, []), (41, 1, 0, 0, [])]
def cd_X8_step : List bh_I := [(5, 1, 1, 1, []), (25, 3, 29, 0, []), bz, bz, (3, 1, 2, 1, []), (27, 1, 0, 0, []), (6, 2, 4, 0, []), bz, (5, 1, 1, 1, []), (25, 3, 33, 0, []), bz, bz, (3, 1, 2, 1, []), (27, 1, 0, 0, []), (6, 2, 5, 0, []), bz, (5, 1, 1, 1, []), (25, 3, 25, 0, []), bz, bz, (3, 1, 2, 1, []), (27, 1, 0, 0, []), (24, 38, 207, 1, [60, 71, 97, 122, 145, 170]), bz, bz, bz, bz, bz, bz, bz, bz, bz, bz, bz, bz, bz, bz, bz, bz, bz, bz, bz, bz, bz, bz, bz, bz, bz, bz, bz, bz, bz, bz, bz, bz, bz, bz, bz, bz, bz, (5, 1, 0, 1, []), (25, 3, 70, 0, []), bz, bz, (3, 2, 4, 0, []), bz, (3, 1, 2, 1, []), (28, 1, 0, 0, []), (23, 3, 207, 0, []), bz, bz, (5, 1, 0, 1, []), (3, 2, 4, 0, []), bz, (1, 1, 0, (-1), []), (3, 1, 2, 1, []), (3, 1, 3, 1, []), (3, 2, 4, 0, []), bz, (40, 3, 66, 0, []), bz, bz, (1, 1, 0, 1, []), (22, 3, 90, 0, []), bz, bz, (1, 1, 0, 1, []), (23, 3, 91, 0, []), bz, bz, (1, 1, 0, 0, []), (40, 3, 67, 0, []), bz, bz, (23, 3, 207, 0, []), bz, bz, (5, 1, 0, 1, []), (3, 2, 4, 0, []), bz, (1, 1, 0, (-1), []), (3, 1, 2, 1, []), (3, 1, 3, 1, []), (3, 2, 4, 0, []), bz, (40, 3, 66, 0, []), bz, bz, (21, 3, 115, 0, []), bz, bz, (1, 1, 0, 1, []), (23, 3, 116, 0, []), bz, bz, (1, 1, 0, 0, []), (40, 3, 67, 0, []), bz, bz, (23, 3, 207, 0, []), bz, bz, (5, 1, 0, 1, []), (5, 1, 0, 1, []), (25, 3, 68, 0, []), bz, bz, (3, 2, 4, 0, []), bz, (40, 3, 68, 0, []), bz, bz, (5, 1, 0, 1, []), (5, 1, 0, 1, []), (25, 3, 70, 0, []), bz, bz, (3, 2, 4, 0, []), bz, (40, 3, 68, 0, []), bz, bz, (23, 3, 207, 0, []), bz, bz, (5, 1, 0, 1, []), (25, 3, 68, 0, []), bz, bz, (3, 2, 4, 0, []), bz, (3, 2, 5, 0, []), bz, (40, 3, 69, 0, []), bz, bz, (5, 1, 0, 1, []), (25, 3, 70, 0, []), bz, bz, (3, 2, 4, 0, []), bz, (3, 2, 5, 0, []), bz, (40, 3, 69, 0, []), bz, bz, (23, 3, 207, 0, []), bz, bz, (5, 1, 0, 1, []), (3, 2, 5, 0, []), bz, (5, 1, 0, 1, []), (25, 3, 68, 0, []), bz, bz, (3, 2, 4, 0, []), bz, (27, 1, 0, 0, []), (3, 1, 2, 1, []), (3, 1, 3, 1, []), (3, 2, 4, 0, []), bz, (40, 3, 66, 0, []), bz, bz, (3, 1, 3, 1, []), (3, 2, 5, 0, []), bz, (40, 3, 66, 0, []), bz, bz, (22, 3, 200, 0, []), bz, bz, (1, 1, 0, 1, []), (23, 3, 201, 0, []), bz, bz, (1, 1, 0, 0, []), (40, 3, 67, 0, []), bz, bz, (23, 3, 207, 0, []), bz, bz, (44, 1, 0, 0, [])]
def cd_X8_put : List bh_I := [(5, 1, 0, 1, []), (25, 3, 68, 0, []), bz, bz, (3, 1, 1, 1, []), (3, 1, 2, 1, []), (28, 1, 0, 0, []), (3, 2, 4, 0, []), bz, (21, 3, 19, 0, []), bz, bz, (5, 1, 0, 1, []), (25, 3, 70, 0, []), bz, bz, (3, 1, 1, 1, []), (3, 1, 3, 1, []), (28, 1, 0, 0, []), (44, 1, 0, 0, [])]
def cd_X8_turn : List bh_I := [(1, 1, 0, 0, []), (6, 1, 3, 1, []), (3, 1, 3, 1, []), (1, 2, 1, 16, []), bz, (22, 3, 28, 3, []), bz, bz, (5, 1, 0, 1, []), (25, 3, 72, 0, []), bz, bz, (3, 1, 3, 1, []), (3, 1, 2, 1, []), (10, 1, 0, 0, []), (1, 2, 1, 16, []), bz, (12, 1, 0, 0, []), (5, 1, 1, 1, []), (3, 1, 3, 1, []), (27, 1, 0, 0, []), (28, 1, 0, 0, []), (9, 3, 3, 1, []), bz, bz, (23, 3, 2, 0, []), bz, bz, (5, 1, 0, 1, []), (25, 3, 72, 0, []), bz, bz, (1, 1, 0, 0, []), (5, 1, 1, 1, []), (1, 1, 0, 0, []), (1, 2, 1, 16, []), bz, (48, 3, 0, 70, [820]), bz, bz, (44, 1, 0, 0, [])]
def cd_X8_swap : List bh_I := [(5, 1, 0, 1, []), (3, 1, 1, 1, []), (27, 1, 0, 0, []), (6, 1, 3, 1, []), (5, 1, 0, 1, []), (3, 1, 1, 1, []), (5, 1, 0, 1, []), (3, 1, 2, 1, []), (27, 1, 0, 0, []), (28, 1, 0, 0, []), (5, 1, 0, 1, []), (3, 1, 2, 1, []), (3, 1, 3, 1, []), (28, 1, 0, 0, []), (44, 1, 0, 0, [])]
def cd_X9_init : List bh_I := [(5, 1, 0, 1, []), (39, 3, 0, 3, [126]), bz, bz, (5, 1, 0, 1, []), (36, 3, 7, 9, [129, 130, 104]), bz, bz, (18, 1, 0, 0, []), (40, 3, 70, 0, []), bz, bz, (26, 3, 93, 0, []), bz, bz, (5, 1, 0, 1, []), (36, 3, 7, 9, [129, 130, 104]), bz, bz, (18, 1, 0, 0, []), (40, 3, 70, 0, []), bz, bz, (26, 3, 94, 0, []), bz, bz, (5, 1, 0, 1, []), (36, 3, 6, 19, [227, 228, 105]), bz, bz, (18, 1, 0, 0, []), (40, 3, 71, 0, []), bz, bz, (26, 3, 95, 0, []), bz, bz, (5, 1, 0, 1, []), (1, 2, 1, 10, []), bz, (38, 3, 24, 9, [129]), bz, bz, (26, 3, 96, 0, []), bz, bz, (5, 1, 0, 1, []), (1, 1, 0, 2, []), (38, 3, 24, 9, [129]), bz, bz, (26, 3, 97, 0, []), bz, bz, (5, 1, 0, 1, []), (36, 3, 2, 33, [251, 252, 106]), bz, bz, (18, 1, 0, 0, []), (40, 3, 72, 0, []), bz, bz, (26, 3, 98, 0, []), bz, bz, (5, 1, 0, 1, []), (36, 3, 8, 40, [270, 271, 107]), bz, bz, (18, 1, 0, 0, []), (40, 3, 73, 0, []), bz, bz, (26, 3, 99, 0, []), bz, bz, (5, 1, 0, 1, []), (36, 3, 4, 47, [288, 289, 108]), bz, bz, (18, 1, 0, 0, []), (40, 3, 74, 0, []), bz, bz, (26, 3, 100, 0, []), bz, bz, (5, 1, 0, 1, []), (36, 3, 5, 54, [317, 318, 109]), bz, bz, (18, 1, 0, 0, []), (40, 3, 75, 0, []), bz, bz, (26, 3, 101, 0, []), bz, bz, (5, 1, 0, 1, []), (36, 3, 0, 61, [336, 337, 110]), bz, bz, (18, 1, 0, 0, []), (40, 3, 76, 0, []), bz, bz, (26, 3, 102, 0, []), bz, bz, (5, 1, 0, 1, []), (36, 3, 3, 68, [352, 353, 111]), bz, bz, (18, 1, 0, 0, []), (40, 3, 77, 0, []), bz, bz, (26, 3, 103, 0, []), bz, bz, (5, 1, 0, 1, []), (1, 2, 1, 12, []), bz, (37, 2, 20, 0, []), bz, (26, 3, 104, 0, []), bz, bz, (5, 1, 0, 1, []), (1, 2, 1, 17, []), bz, (37, 2, 21, 0, []), bz, (26, 3, 105, 0, []), bz, bz, (1, 1, 0, 0, []), (6, 1, 1, 1, []), (3, 1, 1, 1, []), (1, 2, 1, 10, []), bz, (22, 3, 163, 3, []), bz, bz, (5, 1, 0, 1, []), (25, 3, 96, 0, []), bz, bz, (3, 1, 1, 1, []), (36, 3, 7, 9, [129, 130, 104]), bz, bz, (18, 1, 0, 0, []), (40, 3, 70, 0, []), bz, bz, (34, 1, 0, 0, []), (9, 3, 1, 1, []), bz, bz, (23, 3, 138, 0, []), bz, bz, (1, 1, 0, 0, []), (6, 1, 1, 1, []), (3, 1, 1, 1, []), (1, 1, 0, 2, []), (22, 3, 189, 3, []), bz, bz, (5, 1, 0, 1, []), (25, 3, 97, 0, []), bz, bz, (3, 1, 1, 1, []), (36, 3, 7, 9, [129, 130, 104]), bz, bz, (18, 1, 0, 0, []), (40, 3, 70, 0, []), bz, bz, (34, 1, 0, 0, []), (9, 3, 1, 1, []), bz, bz, (23, 3, 165, 0, []), bz, bz, (44, 1, 0, 0, [])]
def cd_X9_feed : List bh_I := [(5, 1, 0, 1, []), (25, 3, 95, 0, []), bz, bz, (1, 2, 1, 20, []), bz, (40, 3, 78, 0, []), bz, bz, (21, 3, 14, 1, []), bz, bz, (1, 1, 0, (-1), []), (41, 1, 0, 0, []), (5, 1, 0, 1, []), (25, 3, 95, 0, []), bz, bz, (3, 1, 1, 1, []), (40, 3, 79, 0, []), bz, bz, (5, 1, 0, 1, []), (25, 3, 95, 0, []), bz, bz, (3, 1, 2, 1, []), (40, 3, 79, 0, []), bz, bz, (5, 1, 0, 1, []), (25, 3, 95, 0, []), bz, bz, (3, 1, 3, 1, []), (40, 3, 79, 0, []), bz, bz, (5, 1, 0, 1, []), (25, 3, 95, 0, []), bz, bz, (3, 2, 4, 0, []), bz, (40, 3, 79, 0, []), bz, bz, (5, 1, 0, 1, []), (25, 3, 95, 0, []), bz, bz, (3, 2, 5, 0, []), bz, (40, 3, 79, 0, []), bz, bz, (5, 1, 0, 1, []), (25, 3, 95, 0, []), bz, bz, (25, 3, 56, 0, []), bz, bz, (41, 1, 0, 0, [])]
def cd_X9_end : List bh_I := [(3, 1, 1, 1, []), (21, 3, 15, 2, []), bz, bz, (3, 1, 1, 1, []), (5, 1, 0, 1, []), (25, 3, 95, 0, []), bz, bz, (25, 3, 56, 0, []), bz, bz, (22, 3, 17, 5, []), bz, bz, (1, 1, 0, (-1), []), (41, 1, 0, 0, []), (5, 1, 0, 1, []), (25, 3, 95, 0, []), bz, bz, (3, 1, 1, 1, []), (26, 3, 56, 0, []), bz, bz, (3, 1, 1, 1, []), (41, 1, 0, 0, [])]
def cd_X9_tell : List bh_I := [(5, 1, 0, 1, []), (25, 3, 95, 0, []), bz, bz, (5, 1, 0, 1, []), (25, 3, 94, 0, []), bz, bz, (40, 3, 80, 0, []), bz, bz, (6, 1, 1, 1, []), (5, 1, 0, 1, []), (25, 3, 95, 0, []), bz, bz, (1, 1, 0, 0, []), (26, 3, 56, 0, []), bz, bz, (3, 1, 1, 1, []), (21, 3, 29, 0, []), bz, bz, (1, 2, 1, (-2), []), bz, (3, 1, 1, 1, []), (10, 1, 1, 0, []), (41, 1, 0, 0, []), (5, 1, 0, 1, []), (25, 3, 93, 0, []), bz, bz, (5, 1, 0, 1, []), (25, 3, 94, 0, []), bz, bz, (40, 3, 81, 0, []), bz, bz, (5, 1, 0, 1, []), (1, 1, 0, 0, []), (26, 3, 107, 0, []), bz, bz, (5, 1, 0, 1, []), (25, 3, 93, 0, []), bz, bz, (25, 3, 5, 0, []), bz, bz, (41, 1, 0, 0, [])]
def cd_X9_hire : List bh_I := [(5, 1, 0, 1, []), (25, 3, 93, 0, []), bz, bz, (3, 1, 1, 1, []), (40, 3, 82, 0, []), bz, bz, (21, 3, 22, 0, []), bz, bz, (5, 1, 0, 1, []), (25, 3, 93, 0, []), bz, bz, (3, 1, 2, 1, []), (40, 3, 82, 0, []), bz, bz, (21, 3, 24, 1, []), bz, bz, (1, 1, 0, (-1), []), (41, 1, 0, 0, []), (5, 1, 0, 1, []), (25, 3, 93, 0, []), bz, bz, (3, 1, 1, 1, []), (40, 3, 83, 0, []), bz, bz, (21, 3, 46, 1, []), bz, bz, (5, 1, 0, 1, []), (25, 3, 93, 0, []), bz, bz, (3, 1, 2, 1, []), (40, 3, 83, 0, []), bz, bz, (21, 3, 49, 0, []), bz, bz, (1, 2, 1, (-4), []), bz, (41, 1, 0, 0, []), (5, 1, 0, 1, []), (25, 3, 93, 0, []), bz, bz, (25, 3, 38, 0, []), bz, bz, (3, 1, 1, 1, []), (27, 1, 0, 0, []), (3, 1, 2, 1, []), (22, 3, 65, 1, []), bz, bz, (1, 2, 1, (-2), []), bz, (41, 1, 0, 0, []), (5, 1, 0, 1, []), (25, 3, 93, 0, []), bz, bz, (25, 3, 22, 0, []), bz, bz, (3, 1, 2, 1, []), (27, 1, 0, 0, []), (5, 1, 0, 1, []), (25, 3, 93, 0, []), bz, bz, (25, 3, 22, 0, []), bz, bz, (3, 1, 1, 1, []), (27, 1, 0, 0, []), (22, 3, 89, 2, []), bz, bz, (1, 2, 1, (-3), []), bz, (41, 1, 0, 0, []), (5, 1, 0, 1, []), (40, 3, 84, 0, []), bz, bz, (5, 1, 0, 1, []), (25, 3, 93, 0, []), bz, bz, (25, 3, 38, 0, []), bz, bz, (3, 1, 1, 1, []), (3, 1, 2, 1, []), (28, 1, 0, 0, []), (5, 1, 0, 1, []), (3, 1, 1, 1, []), (40, 3, 85, 0, []), bz, bz, (41, 1, 0, 0, [])]
def cd_X9_sack : List bh_I := [(5, 1, 0, 1, []), (25, 3, 93, 0, []), bz, bz, (3, 1, 1, 1, []), (40, 3, 82, 0, []), bz, bz, (21, 3, 13, 1, []), bz, bz, (1, 1, 0, (-1), []), (41, 1, 0, 0, []), (5, 1, 0, 1, []), (25, 3, 93, 0, []), bz, bz, (3, 1, 1, 1, []), (40, 3, 83, 0, []), bz, bz, (21, 3, 27, 0, []), bz, bz, (1, 2, 1, (-4), []), bz, (41, 1, 0, 0, []), (5, 1, 0, 1, []), (25, 3, 93, 0, []), bz, bz, (25, 3, 38, 0, []), bz, bz, (3, 1, 1, 1, []), (27, 1, 0, 0, []), (6, 1, 2, 1, []), (3, 1, 2, 1, []), (1, 1, 0, (-1), []), (22, 3, 45, 1, []), bz, bz, (1, 2, 1, (-2), []), bz, (41, 1, 0, 0, []), (5, 1, 0, 1, []), (40, 3, 84, 0, []), bz, bz, (5, 1, 0, 1, []), (25, 3, 93, 0, []), bz, bz, (25, 3, 38, 0, []), bz, bz, (3, 1, 1, 1, []), (1, 1, 0, (-1), []), (28, 1, 0, 0, []), (3, 1, 2, 1, []), (41, 1, 0, 0, [])]
def cd_X9_teach : List bh_I := [(5, 1, 0, 1, []), (25, 3, 93, 0, []), bz, bz, (3, 1, 1, 1, []), (40, 3, 82, 0, []), bz, bz, (21, 3, 21, 0, []), bz, bz, (3, 1, 2, 1, []), (3, 1, 3, 1, []), (3, 2, 4, 0, []), bz, (40, 3, 86, 0, []), bz, bz, (21, 3, 23, 1, []), bz, bz, (1, 1, 0, (-1), []), (41, 1, 0, 0, []), (5, 1, 0, 1, []), (25, 3, 93, 0, []), bz, bz, (3, 1, 1, 1, []), (40, 3, 83, 0, []), bz, bz, (21, 3, 37, 0, []), bz, bz, (1, 2, 1, (-4), []), bz, (41, 1, 0, 0, []), (3, 1, 2, 1, []), (40, 3, 87, 0, []), bz, bz, (21, 3, 48, 5, []), bz, bz, (3, 1, 3, 1, []), (23, 3, 49, 0, []), bz, bz, (1, 1, 0, 0, []), (6, 2, 5, 0, []), bz, (3, 1, 2, 1, []), (40, 3, 87, 0, []), bz, bz, (1, 1, 0, 1, []), (22, 3, 64, 5, []), bz, bz, (3, 2, 4, 0, []), bz, (23, 3, 65, 0, []), bz, bz, (1, 1, 0, 0, []), (6, 2, 6, 0, []), bz, (5, 1, 0, 1, []), (25, 3, 93, 0, []), bz, bz, (3, 1, 1, 1, []), (3, 1, 2, 1, []), (3, 2, 5, 0, []), bz, (3, 2, 6, 0, []), bz, (40, 3, 88, 0, []), bz, bz, (21, 3, 86, 0, []), bz, bz, (1, 2, 1, (-2), []), bz, (41, 1, 0, 0, []), (5, 1, 0, 1, []), (40, 3, 84, 0, []), bz, bz, (5, 1, 0, 1, []), (25, 3, 93, 0, []), bz, bz, (25, 3, 27, 0, []), bz, bz, (3, 1, 1, 1, []), (27, 1, 0, 0, []), (6, 2, 7, 0, []), bz, (5, 1, 0, 1, []), (25, 3, 93, 0, []), bz, bz, (3, 1, 1, 1, []), (3, 1, 2, 1, []), (3, 2, 5, 0, []), bz, (3, 2, 6, 0, []), bz, (40, 3, 89, 0, []), bz, bz, (3, 2, 7, 0, []), bz, (41, 1, 0, 0, [])]
def cd_X9_praise : List bh_I := [(5, 1, 0, 1, []), (25, 3, 93, 0, []), bz, bz, (3, 1, 1, 1, []), (40, 3, 82, 0, []), bz, bz, (21, 3, 18, 0, []), bz, bz, (3, 1, 2, 1, []), (40, 3, 90, 0, []), bz, bz, (21, 3, 20, 1, []), bz, bz, (1, 1, 0, (-1), []), (41, 1, 0, 0, []), (5, 1, 0, 1, []), (40, 3, 84, 0, []), bz, bz, (5, 1, 0, 1, []), (25, 3, 98, 0, []), bz, bz, (5, 1, 0, 1, []), (25, 3, 93, 0, []), bz, bz, (3, 1, 1, 1, []), (40, 3, 91, 0, []), bz, bz, (3, 1, 2, 1, []), (6, 1, 3, 1, []), (1, 1, 0, 0, []), (6, 2, 4, 0, []), bz, (3, 2, 4, 0, []), bz, (5, 1, 0, 1, []), (25, 3, 98, 0, []), bz, bz, (25, 3, 67, 0, []), bz, bz, (22, 3, 111, 3, []), bz, bz, (3, 2, 4, 0, []), bz, (5, 1, 0, 1, []), (25, 3, 98, 0, []), bz, bz, (25, 3, 67, 0, []), bz, bz, (1, 1, 0, 1, []), (10, 1, 1, 0, []), (22, 3, 71, 1, []), bz, bz, (1, 1, 0, 0, []), (23, 3, 75, 0, []), bz, bz, (3, 1, 3, 1, []), (1, 2, 1, 10, []), bz, (11, 1, 0, 0, []), (6, 2, 5, 0, []), bz, (5, 1, 0, 1, []), (25, 3, 93, 0, []), bz, bz, (25, 3, 41, 0, []), bz, bz, (5, 1, 0, 1, []), (25, 3, 98, 0, []), bz, bz, (25, 3, 63, 0, []), bz, bz, (3, 2, 4, 0, []), bz, (27, 1, 0, 0, []), (20, 1, 0, 0, []), (27, 1, 0, 0, []), (3, 1, 3, 1, []), (3, 2, 5, 0, []), bz, (10, 1, 1, 0, []), (10, 1, 0, 0, []), (28, 1, 0, 0, []), (3, 2, 5, 0, []), bz, (6, 1, 3, 1, []), (9, 3, 4, 1, []), bz, bz, (23, 3, 41, 0, []), bz, bz, (5, 1, 0, 1, []), (25, 3, 98, 0, []), bz, bz, (25, 3, 67, 0, []), bz, bz, (1, 1, 0, 1, []), (22, 3, 126, 1, []), bz, bz, (3, 1, 2, 1, []), (23, 3, 132, 0, []), bz, bz, (3, 1, 2, 1, []), (3, 1, 2, 1, []), (1, 2, 1, 10, []), bz, (11, 1, 0, 0, []), (10, 1, 1, 0, []), (41, 1, 0, 0, [])]
def cd_X9_blame : List bh_I := [(5, 1, 0, 1, []), (25, 3, 93, 0, []), bz, bz, (3, 1, 1, 1, []), (40, 3, 82, 0, []), bz, bz, (21, 3, 18, 0, []), bz, bz, (3, 1, 2, 1, []), (40, 3, 90, 0, []), bz, bz, (21, 3, 20, 1, []), bz, bz, (1, 1, 0, (-1), []), (41, 1, 0, 0, []), (5, 1, 0, 1, []), (40, 3, 84, 0, []), bz, bz, (5, 1, 0, 1, []), (25, 3, 93, 0, []), bz, bz, (25, 3, 41, 0, []), bz, bz, (3, 1, 1, 1, []), (20, 1, 0, 0, []), (27, 1, 0, 0, []), (3, 1, 2, 1, []), (10, 1, 1, 0, []), (28, 1, 0, 0, []), (5, 1, 0, 1, []), (25, 3, 93, 0, []), bz, bz, (25, 3, 41, 0, []), bz, bz, (3, 1, 1, 1, []), (27, 1, 0, 0, []), (41, 1, 0, 0, [])]
def cd_X9_order : List bh_I := [(5, 1, 0, 1, []), (25, 3, 93, 0, []), bz, bz, (3, 1, 1, 1, []), (40, 3, 82, 0, []), bz, bz, (21, 3, 18, 0, []), bz, bz, (3, 1, 2, 1, []), (40, 3, 90, 0, []), bz, bz, (21, 3, 20, 1, []), bz, bz, (1, 1, 0, (-1), []), (41, 1, 0, 0, []), (5, 1, 0, 1, []), (40, 3, 84, 0, []), bz, bz, (5, 1, 0, 1, []), (25, 3, 98, 0, []), bz, bz, (5, 1, 0, 1, []), (25, 3, 93, 0, []), bz, bz, (3, 1, 1, 1, []), (40, 3, 91, 0, []), bz, bz, (3, 1, 2, 1, []), (6, 1, 3, 1, []), (3, 1, 2, 1, []), (6, 2, 4, 0, []), bz, (1, 1, 0, 0, []), (6, 2, 5, 0, []), bz, (3, 2, 5, 0, []), bz, (5, 1, 0, 1, []), (25, 3, 98, 0, []), bz, bz, (25, 3, 67, 0, []), bz, bz, (22, 3, 116, 3, []), bz, bz, (3, 2, 5, 0, []), bz, (5, 1, 0, 1, []), (25, 3, 98, 0, []), bz, bz, (25, 3, 67, 0, []), bz, bz, (1, 1, 0, 1, []), (10, 1, 1, 0, []), (22, 3, 74, 1, []), bz, bz, (1, 1, 0, 0, []), (23, 3, 77, 0, []), bz, bz, (3, 1, 3, 1, []), (1, 1, 0, 2, []), (11, 1, 0, 0, []), (6, 2, 6, 0, []), bz, (5, 1, 0, 1, []), (25, 3, 93, 0, []), bz, bz, (25, 3, 43, 0, []), bz, bz, (5, 1, 0, 1, []), (25, 3, 98, 0, []), bz, bz, (25, 3, 63, 0, []), bz, bz, (3, 2, 5, 0, []), bz, (27, 1, 0, 0, []), (20, 1, 0, 0, []), (27, 1, 0, 0, []), (3, 1, 3, 1, []), (3, 2, 6, 0, []), bz, (10, 1, 1, 0, []), (10, 1, 0, 0, []), (28, 1, 0, 0, []), (3, 1, 3, 1, []), (6, 2, 4, 0, []), bz, (3, 2, 6, 0, []), bz, (6, 1, 3, 1, []), (9, 3, 5, 1, []), bz, bz, (23, 3, 44, 0, []), bz, bz, (3, 2, 4, 0, []), bz, (41, 1, 0, 0, [])]
def cd_X9_day : List bh_I := [(5, 1, 0, 1, []), (40, 3, 84, 0, []), bz, bz, (3, 1, 1, 1, []), (6, 1, 2, 1, []), (1, 1, 0, 0, []), (6, 1, 3, 1, []), (1, 1, 0, 0, []), (6, 2, 4, 0, []), bz, (3, 2, 4, 0, []), bz, (5, 1, 0, 1, []), (25, 3, 93, 0, []), bz, bz, (25, 3, 5, 0, []), bz, bz, (22, 3, 98, 3, []), bz, bz, (5, 1, 0, 1, []), (25, 3, 93, 0, []), bz, bz, (25, 3, 38, 0, []), bz, bz, (3, 2, 4, 0, []), bz, (27, 1, 0, 0, []), (6, 2, 5, 0, []), bz, (3, 2, 5, 0, []), bz, (1, 1, 0, (-1), []), (22, 3, 69, 1, []), bz, bz, (1, 2, 3, 1103515245, [167, 665]), bz, (3, 1, 2, 1, []), (10, 1, 2, 0, []), (1, 3, 2, 12345, []), bz, bz, (10, 1, 0, 0, []), (6, 1, 2, 1, []), (3, 1, 2, 1, []), (1, 2, 1, 16, []), bz, (10, 1, 8, 0, []), (1, 1, 0, 3, []), (12, 1, 0, 0, []), (21, 3, 63, 1, []), bz, bz, (1, 1, 0, 1, []), (23, 3, 64, 0, []), bz, bz, (1, 1, 0, 0, []), (6, 2, 6, 0, []), bz, (23, 3, 80, 0, []), bz, bz, (5, 1, 0, 1, []), (25, 3, 93, 0, []), bz, bz, (3, 2, 5, 0, []), bz, (40, 3, 92, 0, []), bz, bz, (6, 2, 6, 0, []), bz, (3, 2, 6, 0, []), bz, (21, 3, 92, 0, []), bz, bz, (3, 1, 3, 1, []), (1, 1, 0, 1, []), (3, 2, 4, 0, []), bz, (10, 1, 6, 0, []), (10, 1, 4, 0, []), (6, 1, 3, 1, []), (9, 3, 4, 1, []), bz, bz, (23, 3, 11, 0, []), bz, bz, (5, 1, 0, 1, []), (25, 3, 93, 0, []), bz, bz, (3, 1, 3, 1, []), (26, 3, 16, 0, []), bz, bz, (5, 1, 0, 1, []), (25, 3, 93, 0, []), bz, bz, (18, 1, 0, 0, []), (25, 3, 14, 0, []), bz, bz, (1, 1, 0, 1, []), (10, 1, 0, 0, []), (26, 3, 14, 0, []), bz, bz, (3, 1, 3, 1, []), (41, 1, 0, 0, [])]
def cd_X9_store : List bh_I := [(5, 1, 0, 1, []), (25, 3, 93, 0, []), bz, bz, (3, 1, 1, 1, []), (40, 3, 82, 0, []), bz, bz, (21, 3, 22, 0, []), bz, bz, (5, 1, 0, 1, []), (25, 3, 93, 0, []), bz, bz, (3, 1, 2, 1, []), (40, 3, 93, 0, []), bz, bz, (21, 3, 24, 1, []), bz, bz, (1, 1, 0, (-1), []), (41, 1, 0, 0, []), (5, 1, 0, 1, []), (25, 3, 93, 0, []), bz, bz, (3, 1, 1, 1, []), (40, 3, 83, 0, []), bz, bz, (21, 3, 38, 0, []), bz, bz, (1, 2, 1, (-4), []), bz, (41, 1, 0, 0, []), (5, 1, 0, 1, []), (3, 1, 1, 1, []), (3, 1, 2, 1, []), (1, 1, 0, 0, []), (40, 3, 94, 0, []), bz, bz, (1, 2, 1, (-2), []), bz, (22, 3, 53, 1, []), bz, bz, (1, 2, 1, (-2), []), bz, (41, 1, 0, 0, []), (5, 1, 0, 1, []), (40, 3, 84, 0, []), bz, bz, (5, 1, 0, 1, []), (25, 3, 93, 0, []), bz, bz, (25, 3, 48, 0, []), bz, bz, (3, 1, 2, 1, []), (27, 1, 0, 0, []), (6, 1, 3, 1, []), (1, 1, 0, 0, []), (6, 2, 4, 0, []), bz, (3, 2, 4, 0, []), bz, (3, 1, 3, 1, []), (22, 3, 101, 3, []), bz, bz, (5, 1, 0, 1, []), (25, 3, 93, 0, []), bz, bz, (3, 1, 1, 1, []), (3, 1, 2, 1, []), (3, 2, 4, 0, []), bz, (5, 1, 0, 1, []), (3, 1, 1, 1, []), (3, 1, 2, 1, []), (3, 2, 4, 0, []), bz, (40, 3, 94, 0, []), bz, bz, (40, 3, 95, 0, []), bz, bz, (9, 3, 4, 1, []), bz, bz, (23, 3, 70, 0, []), bz, bz, (3, 1, 3, 1, []), (41, 1, 0, 0, [])]
def cd_X9_die : List bh_I := [(5, 1, 0, 1, []), (25, 3, 93, 0, []), bz, bz, (3, 1, 1, 1, []), (40, 3, 82, 0, []), bz, bz, (21, 3, 13, 1, []), bz, bz, (1, 1, 0, (-1), []), (41, 1, 0, 0, []), (5, 1, 0, 1, []), (25, 3, 93, 0, []), bz, bz, (3, 1, 1, 1, []), (40, 3, 83, 0, []), bz, bz, (21, 3, 27, 0, []), bz, bz, (1, 2, 1, (-4), []), bz, (41, 1, 0, 0, []), (5, 1, 0, 1, []), (40, 3, 84, 0, []), bz, bz, (5, 1, 0, 1, []), (25, 3, 93, 0, []), bz, bz, (18, 1, 0, 0, []), (25, 3, 19, 0, []), bz, bz, (1, 1, 0, 1, []), (3, 1, 1, 1, []), (10, 1, 6, 0, []), (10, 1, 4, 0, []), (26, 3, 19, 0, []), bz, bz, (1, 1, 0, 0, []), (6, 1, 2, 1, []), (1, 1, 0, 0, []), (6, 1, 3, 1, []), (3, 1, 3, 1, []), (5, 1, 0, 1, []), (25, 3, 93, 0, []), bz, bz, (25, 3, 5, 0, []), bz, bz, (22, 3, 78, 3, []), bz, bz, (5, 1, 0, 1, []), (3, 1, 3, 1, []), (40, 3, 96, 0, []), bz, bz, (21, 3, 72, 0, []), bz, bz, (9, 3, 2, 1, []), bz, bz, (9, 3, 3, 1, []), bz, bz, (23, 3, 50, 0, []), bz, bz, (3, 1, 2, 1, []), (41, 1, 0, 0, [])]
def cd_X9_see : List bh_I := [(3, 1, 1, 1, []), (40, 3, 97, 0, []), bz, bz, (21, 3, 9, 1, []), bz, bz, (1, 1, 0, (-1), []), (41, 1, 0, 0, []), (5, 1, 0, 1, []), (25, 3, 93, 0, []), bz, bz, (25, 3, 12, 0, []), bz, bz, (1, 2, 1, 16, []), bz, (22, 3, 24, 2, []), bz, bz, (1, 2, 1, (-3), []), bz, (41, 1, 0, 0, []), (5, 1, 0, 1, []), (40, 3, 84, 0, []), bz, bz, (5, 1, 0, 1, []), (25, 3, 93, 0, []), bz, bz, (25, 3, 53, 0, []), bz, bz, (5, 1, 0, 1, []), (25, 3, 93, 0, []), bz, bz, (25, 3, 12, 0, []), bz, bz, (3, 1, 1, 1, []), (28, 1, 0, 0, []), (5, 1, 0, 1, []), (25, 3, 93, 0, []), bz, bz, (18, 1, 0, 0, []), (25, 3, 12, 0, []), bz, bz, (1, 1, 0, 1, []), (10, 1, 0, 0, []), (26, 3, 12, 0, []), bz, bz, (5, 1, 0, 1, []), (25, 3, 93, 0, []), bz, bz, (25, 3, 12, 0, []), bz, bz, (41, 1, 0, 0, [])]
def cd_X9_forget : List bh_I := [(5, 1, 0, 1, []), (25, 3, 93, 0, []), bz, bz, (25, 3, 12, 0, []), bz, bz, (6, 1, 1, 1, []), (3, 1, 1, 1, []), (21, 3, 14, 1, []), bz, bz, (1, 1, 0, (-1), []), (41, 1, 0, 0, []), (5, 1, 0, 1, []), (40, 3, 84, 0, []), bz, bz, (5, 1, 0, 1, []), (25, 3, 93, 0, []), bz, bz, (1, 1, 0, 0, []), (26, 3, 12, 0, []), bz, bz, (3, 1, 1, 1, []), (41, 1, 0, 0, [])]
def cd_X9_undo : List bh_I := [(5, 1, 0, 1, []), (25, 3, 107, 0, []), bz, bz, (21, 3, 9, 1, []), bz, bz, (1, 1, 0, (-1), []), (41, 1, 0, 0, []), (5, 1, 0, 1, []), (18, 1, 0, 0, []), (25, 3, 107, 0, []), bz, bz, (1, 1, 0, 1, []), (10, 1, 1, 0, []), (26, 3, 107, 0, []), bz, bz, (5, 1, 0, 1, []), (5, 1, 0, 1, []), (25, 3, 106, 0, []), bz, bz, (1, 2, 1, 10, []), bz, (10, 1, 0, 0, []), (1, 1, 0, 1, []), (10, 1, 1, 0, []), (1, 2, 1, 10, []), bz, (12, 1, 0, 0, []), (26, 3, 106, 0, []), bz, bz, (5, 1, 0, 1, []), (25, 3, 93, 0, []), bz, bz, (5, 1, 0, 1, []), (25, 3, 96, 0, []), bz, bz, (5, 1, 0, 1, []), (25, 3, 106, 0, []), bz, bz, (33, 1, 0, 0, []), (40, 3, 81, 0, []), bz, bz, (5, 1, 0, 1, []), (25, 3, 107, 0, []), bz, bz, (41, 1, 0, 0, [])]
def cd_X9_keep : List bh_I := [(3, 1, 1, 1, []), (40, 3, 98, 0, []), bz, bz, (21, 3, 9, 1, []), bz, bz, (1, 1, 0, (-1), []), (41, 1, 0, 0, []), (5, 1, 0, 1, []), (25, 3, 97, 0, []), bz, bz, (3, 1, 1, 1, []), (33, 1, 0, 0, []), (5, 1, 0, 1, []), (25, 3, 93, 0, []), bz, bz, (40, 3, 81, 0, []), bz, bz, (5, 1, 0, 1, []), (18, 1, 0, 0, []), (25, 3, 108, 0, []), bz, bz, (1, 1, 0, 1, []), (3, 1, 1, 1, []), (10, 1, 6, 0, []), (10, 1, 4, 0, []), (26, 3, 108, 0, []), bz, bz, (5, 1, 0, 1, []), (25, 3, 93, 0, []), bz, bz, (25, 3, 5, 0, []), bz, bz, (41, 1, 0, 0, [])]
def cd_X9_back : List bh_I := [(3, 1, 1, 1, []), (40, 3, 98, 0, []), bz, bz, (21, 3, 9, 1, []), bz, bz, (1, 1, 0, (-1), []), (41, 1, 0, 0, []), (5, 1, 0, 1, []), (25, 3, 108, 0, []), bz, bz, (3, 1, 1, 1, []), (10, 1, 7, 0, []), (1, 1, 0, 1, []), (10, 1, 3, 0, []), (21, 3, 23, 1, []), bz, bz, (1, 2, 1, (-2), []), bz, (41, 1, 0, 0, []), (5, 1, 0, 1, []), (25, 3, 93, 0, []), bz, bz, (5, 1, 0, 1, []), (25, 3, 97, 0, []), bz, bz, (3, 1, 1, 1, []), (33, 1, 0, 0, []), (40, 3, 81, 0, []), bz, bz, (5, 1, 0, 1, []), (1, 1, 0, 0, []), (26, 3, 107, 0, []), bz, bz, (5, 1, 0, 1, []), (25, 3, 93, 0, []), bz, bz, (25, 3, 5, 0, []), bz, bz, (41, 1, 0, 0, [])]
def cd_X9_writer : List bh_I := [(5, 1, 0, 1, []), (25, 3, 93, 0, []), bz, bz, (3, 1, 1, 1, []), (40, 3, 82, 0, []), bz, bz, (21, 3, 14, 1, []), bz, bz, (1, 2, 3, (-2147483648), [216, 750]), bz, (41, 1, 0, 0, []), (3, 1, 2, 1, []), (24, 65, 239, 0, [80, 90, 100, 122, 144, 154, 160, 166, 176, 186, 203, 220, 230]), bz, bz, bz, bz, bz, bz, bz, bz, bz, bz, bz, bz, bz, bz, bz, bz, bz, bz, bz, bz, bz, bz, bz, bz, bz, bz, bz, bz, bz, bz, bz, bz, bz, bz, bz, bz, bz, bz, bz, bz, bz, bz, bz, bz, bz, bz, bz, bz, bz, bz, bz, bz, bz, bz, bz, bz, bz, bz, bz, bz, bz, bz, bz, bz, (5, 1, 0, 1, []), (25, 3, 93, 0, []), bz, bz, (25, 3, 22, 0, []), bz, bz, (3, 1, 1, 1, []), (27, 1, 0, 0, []), (41, 1, 0, 0, []), (5, 1, 0, 1, []), (25, 3, 93, 0, []), bz, bz, (25, 3, 27, 0, []), bz, bz, (3, 1, 1, 1, []), (27, 1, 0, 0, []), (41, 1, 0, 0, []), (5, 1, 0, 1, []), (25, 3, 93, 0, []), bz, bz, (25, 3, 27, 0, []), bz, bz, (3, 1, 1, 1, []), (27, 1, 0, 0, []), (5, 1, 0, 1, []), (25, 3, 93, 0, []), bz, bz, (25, 3, 31, 0, []), bz, bz, (3, 1, 1, 1, []), (27, 1, 0, 0, []), (40, 3, 99, 0, []), bz, bz, (41, 1, 0, 0, []), (5, 1, 0, 1, []), (25, 3, 93, 0, []), bz, bz, (25, 3, 27, 0, []), bz, bz, (3, 1, 1, 1, []), (27, 1, 0, 0, []), (5, 1, 0, 1, []), (25, 3, 93, 0, []), bz, bz, (25, 3, 35, 0, []), bz, bz, (3, 1, 1, 1, []), (27, 1, 0, 0, []), (40, 3, 100, 0, []), bz, bz, (41, 1, 0, 0, []), (5, 1, 0, 1, []), (25, 3, 93, 0, []), bz, bz, (25, 3, 38, 0, []), bz, bz, (3, 1, 1, 1, []), (27, 1, 0, 0, []), (41, 1, 0, 0, []), (5, 1, 0, 1, []), (3, 1, 1, 1, []), (40, 3, 85, 0, []), bz, bz, (41, 1, 0, 0, []), (5, 1, 0, 1, []), (3, 1, 1, 1, []), (40, 3, 101, 0, []), bz, bz, (41, 1, 0, 0, []), (5, 1, 0, 1, []), (25, 3, 93, 0, []), bz, bz, (25, 3, 41, 0, []), bz, bz, (3, 1, 1, 1, []), (27, 1, 0, 0, []), (41, 1, 0, 0, []), (5, 1, 0, 1, []), (25, 3, 93, 0, []), bz, bz, (25, 3, 43, 0, []), bz, bz, (3, 1, 1, 1, []), (27, 1, 0, 0, []), (41, 1, 0, 0, []), (5, 1, 0, 1, []), (25, 3, 93, 0, []), bz, bz, (3, 1, 1, 1, []), (40, 3, 92, 0, []), bz, bz, (21, 3, 201, 0, []), bz, bz, (1, 1, 0, 1, []), (23, 3, 202, 0, []), bz, bz, (1, 1, 0, 0, []), (41, 1, 0, 0, []), (5, 1, 0, 1, []), (25, 3, 93, 0, []), bz, bz, (3, 1, 1, 1, []), (40, 3, 83, 0, []), bz, bz, (21, 3, 218, 0, []), bz, bz, (1, 1, 0, 1, []), (23, 3, 219, 0, []), bz, bz, (1, 1, 0, 0, []), (41, 1, 0, 0, []), (5, 1, 0, 1, []), (25, 3, 93, 0, []), bz, bz, (25, 3, 45, 0, []), bz, bz, (3, 1, 1, 1, []), (27, 1, 0, 0, []), (41, 1, 0, 0, []), (5, 1, 0, 1, []), (25, 3, 93, 0, []), bz, bz, (3, 1, 1, 1, []), (40, 3, 102, 0, []), bz, bz, (41, 1, 0, 0, []), (1, 2, 3, (-2147483648), [216, 750]), bz, (41, 1, 0, 0, [])]
def cd_X9_page : List bh_I := [(5, 1, 0, 1, []), (25, 3, 93, 0, []), bz, bz, (3, 1, 1, 1, []), (3, 1, 2, 1, []), (40, 3, 103, 0, []), bz, bz, (21, 3, 24, 0, []), bz, bz, (5, 1, 0, 1, []), (25, 3, 93, 0, []), bz, bz, (3, 1, 1, 1, []), (3, 1, 2, 1, []), (40, 3, 104, 0, []), bz, bz, (23, 3, 25, 0, []), bz, bz, (1, 1, 0, (-1), []), (41, 1, 0, 0, [])]
def cd_X9_line : List bh_I := [(5, 1, 0, 1, []), (25, 3, 93, 0, []), bz, bz, (3, 1, 1, 1, []), (40, 3, 82, 0, []), bz, bz, (21, 3, 23, 0, []), bz, bz, (5, 1, 0, 1, []), (25, 3, 93, 0, []), bz, bz, (3, 1, 2, 1, []), (3, 1, 3, 1, []), (40, 3, 103, 0, []), bz, bz, (21, 3, 25, 1, []), bz, bz, (1, 1, 0, (-1), []), (41, 1, 0, 0, []), (5, 1, 0, 1, []), (3, 1, 1, 1, []), (3, 1, 2, 1, []), (3, 1, 3, 1, []), (40, 3, 94, 0, []), bz, bz, (41, 1, 0, 0, [])]
def cd_X9_trace : List bh_I := [(5, 1, 0, 1, []), (25, 3, 93, 0, []), bz, bz, (3, 1, 1, 1, []), (40, 3, 82, 0, []), bz, bz, (21, 3, 23, 0, []), bz, bz, (5, 1, 0, 1, []), (25, 3, 93, 0, []), bz, bz, (3, 1, 2, 1, []), (3, 1, 3, 1, []), (40, 3, 103, 0, []), bz, bz, (21, 3, 26, 1, []), bz, bz, (1, 2, 1, (-3), []), bz, (41, 1, 0, 0, []), (3, 2, 4, 0, []), bz, (40, 3, 105, 0, []), bz, bz, (21, 3, 45, 0, []), bz, bz, (3, 2, 5, 0, []), bz, (21, 3, 45, 2, []), bz, bz, (3, 2, 5, 0, []), bz, (1, 1, 0, 1, []), (22, 3, 48, 5, []), bz, bz, (1, 2, 1, (-3), []), bz, (41, 1, 0, 0, []), (5, 1, 0, 1, []), (3, 1, 1, 1, []), (3, 1, 2, 1, []), (3, 1, 3, 1, []), (40, 3, 106, 0, []), bz, bz, (21, 3, 61, 1, []), bz, bz, (1, 2, 1, (-2), []), bz, (41, 1, 0, 0, []), (3, 2, 5, 0, []), bz, (21, 3, 79, 1, []), bz, bz, (5, 1, 0, 1, []), (25, 3, 99, 0, []), bz, bz, (25, 3, 69, 0, []), bz, bz, (3, 2, 4, 0, []), bz, (27, 1, 0, 0, []), (23, 3, 89, 0, []), bz, bz, (5, 1, 0, 1, []), (25, 3, 99, 0, []), bz, bz, (25, 3, 71, 0, []), bz, bz, (3, 2, 4, 0, []), bz, (27, 1, 0, 0, []), (41, 1, 0, 0, [])]
def cd_X9_own : List bh_I := [(5, 1, 0, 1, []), (25, 3, 93, 0, []), bz, bz, (3, 1, 1, 1, []), (40, 3, 82, 0, []), bz, bz, (21, 3, 23, 0, []), bz, bz, (5, 1, 0, 1, []), (25, 3, 93, 0, []), bz, bz, (3, 1, 2, 1, []), (3, 1, 3, 1, []), (40, 3, 103, 0, []), bz, bz, (21, 3, 25, 1, []), bz, bz, (1, 1, 0, (-1), []), (41, 1, 0, 0, []), (5, 1, 0, 1, []), (3, 1, 1, 1, []), (3, 1, 2, 1, []), (3, 1, 3, 1, []), (40, 3, 106, 0, []), bz, bz, (21, 3, 38, 1, []), bz, bz, (1, 2, 1, (-2), []), bz, (41, 1, 0, 0, []), (5, 1, 0, 1, []), (25, 3, 99, 0, []), bz, bz, (3, 1, 1, 1, []), (40, 3, 107, 0, []), bz, bz, (41, 1, 0, 0, [])]
def cd_X9_pay : List bh_I := [(5, 1, 0, 1, []), (25, 3, 93, 0, []), bz, bz, (3, 1, 1, 1, []), (40, 3, 82, 0, []), bz, bz, (21, 3, 23, 0, []), bz, bz, (5, 1, 0, 1, []), (25, 3, 93, 0, []), bz, bz, (3, 1, 2, 1, []), (3, 1, 3, 1, []), (40, 3, 103, 0, []), bz, bz, (21, 3, 25, 1, []), bz, bz, (1, 1, 0, (-1), []), (41, 1, 0, 0, []), (5, 1, 0, 1, []), (3, 1, 1, 1, []), (3, 1, 2, 1, []), (3, 1, 3, 1, []), (40, 3, 106, 0, []), bz, bz, (21, 3, 38, 1, []), bz, bz, (1, 2, 1, (-2), []), bz, (41, 1, 0, 0, []), (1, 1, 0, 0, []), (6, 2, 4, 0, []), bz, (1, 1, 0, 0, []), (6, 2, 5, 0, []), bz, (3, 2, 5, 0, []), bz, (5, 1, 0, 1, []), (25, 3, 98, 0, []), bz, bz, (25, 3, 67, 0, []), bz, bz, (22, 3, 97, 3, []), bz, bz, (3, 2, 4, 0, []), bz, (5, 1, 0, 1, []), (25, 3, 99, 0, []), bz, bz, (5, 1, 0, 1, []), (25, 3, 98, 0, []), bz, bz, (25, 3, 63, 0, []), bz, bz, (3, 2, 5, 0, []), bz, (27, 1, 0, 0, []), (40, 3, 107, 0, []), bz, bz, (40, 3, 108, 0, []), bz, bz, (10, 1, 0, 0, []), (6, 2, 4, 0, []), bz, (3, 2, 4, 0, []), bz, (1, 2, 1, 8, []), bz, (22, 3, 91, 2, []), bz, bz, (3, 2, 5, 0, []), bz, (41, 1, 0, 0, []), (9, 3, 5, 1, []), bz, bz, (23, 3, 44, 0, []), bz, bz, (1, 2, 1, (-2), []), bz, (41, 1, 0, 0, [])]
def cd_X9_alike : List bh_I := [(5, 1, 0, 1, []), (25, 3, 93, 0, []), bz, bz, (3, 1, 1, 1, []), (40, 3, 82, 0, []), bz, bz, (21, 3, 22, 0, []), bz, bz, (5, 1, 0, 1, []), (25, 3, 93, 0, []), bz, bz, (3, 1, 2, 1, []), (40, 3, 82, 0, []), bz, bz, (21, 3, 24, 1, []), bz, bz, (1, 1, 0, (-1), []), (41, 1, 0, 0, []), (5, 1, 0, 1, []), (3, 1, 1, 1, []), (1, 1, 0, 0, []), (40, 3, 109, 0, []), bz, bz, (5, 1, 0, 1, []), (3, 1, 2, 1, []), (1, 1, 0, 0, []), (40, 3, 109, 0, []), bz, bz, (22, 3, 41, 0, []), bz, bz, (1, 1, 0, 0, []), (41, 1, 0, 0, []), (1, 1, 0, 0, []), (6, 1, 3, 1, []), (3, 1, 3, 1, []), (1, 2, 1, 16, []), bz, (22, 3, 76, 3, []), bz, bz, (5, 1, 0, 1, []), (3, 1, 1, 1, []), (1, 1, 0, 1, []), (3, 1, 3, 1, []), (10, 1, 6, 0, []), (40, 3, 109, 0, []), bz, bz, (5, 1, 0, 1, []), (3, 1, 2, 1, []), (1, 1, 0, 1, []), (3, 1, 3, 1, []), (10, 1, 6, 0, []), (40, 3, 109, 0, []), bz, bz, (22, 3, 70, 0, []), bz, bz, (1, 1, 0, 0, []), (41, 1, 0, 0, []), (9, 3, 3, 1, []), bz, bz, (23, 3, 43, 0, []), bz, bz, (1, 1, 0, 1, []), (41, 1, 0, 0, [])]
def cd_X9_fits : List bh_I := [(3, 1, 1, 1, []), (40, 3, 97, 0, []), bz, bz, (21, 3, 12, 0, []), bz, bz, (3, 1, 2, 1, []), (1, 1, 0, (-1), []), (22, 3, 14, 3, []), bz, bz, (1, 1, 0, (-1), []), (41, 1, 0, 0, []), (1, 1, 0, 0, []), (6, 1, 3, 1, []), (1, 1, 0, 0, []), (6, 2, 4, 0, []), bz, (3, 2, 4, 0, []), bz, (1, 3, 2, 384, []), bz, bz, (22, 3, 54, 3, []), bz, bz, (5, 1, 0, 1, []), (3, 2, 4, 0, []), bz, (40, 3, 110, 0, []), bz, bz, (3, 1, 1, 1, []), (22, 3, 48, 1, []), bz, bz, (3, 1, 3, 1, []), (3, 1, 2, 1, []), (22, 3, 45, 1, []), bz, bz, (3, 2, 4, 0, []), bz, (41, 1, 0, 0, []), (9, 3, 3, 1, []), bz, bz, (9, 3, 4, 1, []), bz, bz, (23, 3, 19, 0, []), bz, bz, (3, 1, 2, 1, []), (1, 1, 0, (-1), []), (22, 3, 63, 1, []), bz, bz, (3, 1, 3, 1, []), (23, 3, 65, 0, []), bz, bz, (1, 2, 1, (-2), []), bz, (41, 1, 0, 0, [])]
def cd_X9_likeliest : List bh_I := [(3, 1, 1, 1, []), (40, 3, 97, 0, []), bz, bz, (21, 3, 16, 0, []), bz, bz, (3, 1, 2, 1, []), (21, 3, 16, 2, []), bz, bz, (3, 1, 2, 1, []), (1, 1, 0, 1, []), (22, 3, 18, 5, []), bz, bz, (1, 1, 0, (-1), []), (41, 1, 0, 0, []), (1, 2, 1, (-2), []), bz, (6, 1, 3, 1, []), (1, 2, 1, 17, []), bz, (6, 2, 4, 0, []), bz, (1, 1, 0, 0, []), (6, 2, 5, 0, []), bz, (3, 2, 5, 0, []), bz, (1, 3, 2, 384, []), bz, bz, (22, 3, 79, 3, []), bz, bz, (5, 1, 0, 1, []), (3, 2, 5, 0, []), bz, (40, 3, 110, 0, []), bz, bz, (6, 2, 6, 0, []), bz, (3, 2, 6, 0, []), bz, (21, 3, 73, 2, []), bz, bz, (3, 2, 6, 0, []), bz, (3, 1, 1, 1, []), (10, 1, 5, 0, []), (40, 3, 108, 0, []), bz, bz, (3, 2, 4, 0, []), bz, (22, 3, 73, 3, []), bz, bz, (3, 2, 5, 0, []), bz, (6, 1, 3, 1, []), (3, 2, 6, 0, []), bz, (3, 1, 1, 1, []), (10, 1, 5, 0, []), (40, 3, 108, 0, []), bz, bz, (6, 2, 4, 0, []), bz, (9, 3, 5, 1, []), bz, bz, (23, 3, 28, 0, []), bz, bz, (3, 1, 3, 1, []), (1, 2, 1, (-2), []), bz, (22, 3, 89, 0, []), bz, bz, (3, 1, 2, 1, []), (21, 3, 93, 1, []), bz, bz, (3, 1, 3, 1, []), (23, 3, 95, 0, []), bz, bz, (3, 2, 4, 0, []), bz, (41, 1, 0, 0, [])]
def cd_X9_matches : List bh_I := [(5, 1, 0, 1, []), (25, 3, 93, 0, []), bz, bz, (3, 1, 1, 1, []), (40, 3, 82, 0, []), bz, bz, (21, 3, 18, 0, []), bz, bz, (3, 1, 2, 1, []), (40, 3, 97, 0, []), bz, bz, (21, 3, 22, 1, []), bz, bz, (2, 3, 1, (-1), [270, 872]), bz, bz, (42, 1, 0, 0, []), (2, 1, 0, 0, []), (7, 1, 3, 1, []), (1, 1, 0, 0, []), (6, 2, 5, 0, []), bz, (3, 2, 5, 0, []), bz, (1, 2, 1, 32, []), bz, (22, 3, 62, 3, []), bz, bz, (5, 1, 0, 1, []), (1, 2, 1, 32, []), bz, (3, 1, 1, 1, []), (10, 1, 2, 0, []), (3, 2, 5, 0, []), bz, (10, 1, 0, 0, []), (40, 3, 110, 0, []), bz, bz, (3, 1, 2, 1, []), (22, 3, 56, 1, []), bz, bz, (4, 1, 3, 1, []), (2, 1, 0, 1, []), (3, 2, 5, 0, []), bz, (14, 1, 0, 0, []), (13, 1, 2, 0, []), (7, 1, 3, 1, []), (9, 3, 5, 1, []), bz, bz, (23, 3, 27, 0, []), bz, bz, (4, 1, 3, 1, []), (42, 1, 0, 0, [])]
def cd_X9_trees : List bh_I := [(5, 1, 0, 1, []), (25, 3, 93, 0, []), bz, bz, (3, 1, 1, 1, []), (3, 1, 2, 1, []), (40, 3, 103, 0, []), bz, bz, (21, 3, 19, 0, []), bz, bz, (5, 1, 0, 1, []), (40, 3, 111, 0, []), bz, bz, (21, 3, 23, 1, []), bz, bz, (2, 3, 1, (-1), [270, 872]), bz, bz, (42, 1, 0, 0, []), (2, 1, 0, 1, []), (7, 1, 3, 1, []), (1, 1, 0, 0, []), (6, 2, 5, 0, []), bz, (3, 2, 5, 0, []), bz, (5, 1, 0, 1, []), (25, 3, 93, 0, []), bz, bz, (25, 3, 12, 0, []), bz, bz, (22, 3, 68, 3, []), bz, bz, (4, 1, 3, 1, []), (5, 1, 0, 1, []), (3, 2, 5, 0, []), bz, (5, 1, 0, 1, []), (25, 3, 93, 0, []), bz, bz, (3, 1, 1, 1, []), (3, 1, 2, 1, []), (40, 3, 104, 0, []), bz, bz, (40, 3, 112, 0, []), bz, bz, (40, 3, 108, 0, []), bz, bz, (15, 1, 0, 0, []), (13, 1, 1, 0, []), (7, 1, 3, 1, []), (9, 3, 5, 1, []), bz, bz, (23, 3, 28, 0, []), bz, bz, (4, 1, 3, 1, []), (42, 1, 0, 0, [])]
def cd_X9_under : List bh_I := [(5, 1, 0, 1, []), (25, 3, 93, 0, []), bz, bz, (3, 1, 1, 1, []), (3, 1, 2, 1, []), (40, 3, 103, 0, []), bz, bz, (21, 3, 19, 0, []), bz, bz, (5, 1, 0, 1, []), (40, 3, 111, 0, []), bz, bz, (21, 3, 21, 1, []), bz, bz, (1, 1, 0, (-1), []), (41, 1, 0, 0, []), (3, 1, 3, 1, []), (21, 3, 36, 2, []), bz, bz, (3, 1, 3, 1, []), (5, 1, 0, 1, []), (25, 3, 93, 0, []), bz, bz, (25, 3, 12, 0, []), bz, bz, (22, 3, 38, 2, []), bz, bz, (1, 1, 0, (-1), []), (41, 1, 0, 0, []), (5, 1, 0, 1, []), (3, 1, 3, 1, []), (5, 1, 0, 1, []), (25, 3, 93, 0, []), bz, bz, (3, 1, 1, 1, []), (3, 1, 2, 1, []), (40, 3, 104, 0, []), bz, bz, (40, 3, 112, 0, []), bz, bz, (41, 1, 0, 0, [])]
def cd_X9_breaks : List bh_I := [(5, 1, 0, 1, []), (25, 3, 93, 0, []), bz, bz, (3, 1, 1, 1, []), (40, 3, 82, 0, []), bz, bz, (21, 3, 22, 0, []), bz, bz, (5, 1, 0, 1, []), (25, 3, 93, 0, []), bz, bz, (3, 1, 2, 1, []), (40, 3, 93, 0, []), bz, bz, (21, 3, 25, 1, []), bz, bz, (1, 2, 1, (-3), []), bz, (41, 1, 0, 0, []), (3, 1, 3, 1, []), (21, 3, 44, 2, []), bz, bz, (3, 1, 3, 1, []), (1, 1, 0, 1, []), (22, 3, 44, 4, []), bz, bz, (5, 1, 0, 1, []), (25, 3, 93, 0, []), bz, bz, (25, 3, 12, 0, []), bz, bz, (21, 3, 47, 1, []), bz, bz, (1, 2, 1, (-3), []), bz, (41, 1, 0, 0, []), (5, 1, 0, 1, []), (25, 3, 101, 0, []), bz, bz, (5, 1, 0, 1, []), (25, 3, 93, 0, []), bz, bz, (5, 1, 0, 1, []), (25, 3, 98, 0, []), bz, bz, (3, 1, 1, 1, []), (3, 1, 2, 1, []), (40, 3, 113, 0, []), bz, bz, (5, 1, 0, 1, []), (25, 3, 101, 0, []), bz, bz, (25, 3, 86, 0, []), bz, bz, (21, 3, 77, 1, []), bz, bz, (1, 2, 1, (-2), []), bz, (41, 1, 0, 0, []), (3, 1, 3, 1, []), (21, 3, 91, 1, []), bz, bz, (5, 1, 0, 1, []), (25, 3, 101, 0, []), bz, bz, (25, 3, 86, 0, []), bz, bz, (1, 1, 0, 1, []), (10, 1, 1, 0, []), (41, 1, 0, 0, []), (5, 1, 0, 1, []), (25, 3, 101, 0, []), bz, bz, (25, 3, 86, 0, []), bz, bz, (1, 1, 0, 1, []), (22, 3, 114, 5, []), bz, bz, (5, 1, 0, 1, []), (25, 3, 101, 0, []), bz, bz, (25, 3, 82, 0, []), bz, bz, (1, 1, 0, 1, []), (27, 1, 0, 0, []), (23, 3, 115, 0, []), bz, bz, (1, 1, 0, (-1), []), (41, 1, 0, 0, [])]
def cd_X9_untangle : List bh_I := [(5, 1, 0, 1, []), (25, 3, 93, 0, []), bz, bz, (3, 1, 1, 1, []), (40, 3, 82, 0, []), bz, bz, (21, 3, 27, 0, []), bz, bz, (5, 1, 0, 1, []), (25, 3, 93, 0, []), bz, bz, (3, 1, 2, 1, []), (40, 3, 82, 0, []), bz, bz, (21, 3, 27, 0, []), bz, bz, (3, 1, 1, 1, []), (3, 1, 2, 1, []), (22, 3, 31, 1, []), bz, bz, (2, 3, 1, (-1), [270, 872]), bz, bz, (42, 1, 0, 0, []), (5, 1, 0, 1, []), (25, 3, 93, 0, []), bz, bz, (3, 1, 3, 1, []), (40, 3, 93, 0, []), bz, bz, (21, 3, 46, 1, []), bz, bz, (2, 3, 1, (-1), [270, 872]), bz, bz, (42, 1, 0, 0, []), (3, 2, 4, 0, []), bz, (21, 3, 63, 2, []), bz, bz, (3, 2, 4, 0, []), bz, (5, 1, 0, 1, []), (25, 3, 93, 0, []), bz, bz, (25, 3, 12, 0, []), bz, bz, (22, 3, 65, 5, []), bz, bz, (2, 1, 0, 0, []), (42, 1, 0, 0, []), (5, 1, 0, 1, []), (3, 1, 1, 1, []), (3, 1, 2, 1, []), (3, 1, 3, 1, []), (40, 3, 114, 0, []), bz, bz, (5, 1, 0, 1, []), (25, 3, 105, 0, []), bz, bz, (3, 2, 4, 0, []), bz, (31, 1, 0, 0, []), (42, 1, 0, 0, [])]
def cd_X9_tells : List bh_I := [(5, 1, 0, 1, []), (25, 3, 93, 0, []), bz, bz, (3, 1, 1, 1, []), (40, 3, 93, 0, []), bz, bz, (21, 3, 19, 0, []), bz, bz, (5, 1, 0, 1, []), (3, 1, 2, 1, []), (40, 3, 115, 0, []), bz, bz, (21, 3, 21, 1, []), bz, bz, (1, 1, 0, (-1), []), (41, 1, 0, 0, []), (3, 1, 3, 1, []), (21, 3, 38, 2, []), bz, bz, (3, 1, 3, 1, []), (1, 1, 0, 1, []), (22, 3, 38, 4, []), bz, bz, (3, 1, 2, 1, []), (40, 3, 108, 0, []), bz, bz, (1, 1, 0, 2, []), (22, 3, 40, 3, []), bz, bz, (1, 1, 0, (-1), []), (41, 1, 0, 0, []), (5, 1, 0, 1, []), (25, 3, 102, 0, []), bz, bz, (5, 1, 0, 1, []), (25, 3, 93, 0, []), bz, bz, (5, 1, 0, 1, []), (25, 3, 98, 0, []), bz, bz, (3, 1, 1, 1, []), (3, 1, 2, 1, []), (40, 3, 116, 0, []), bz, bz, (6, 2, 4, 0, []), bz, (3, 2, 4, 0, []), bz, (21, 3, 67, 1, []), bz, bz, (1, 2, 1, (-2), []), bz, (41, 1, 0, 0, []), (3, 1, 3, 1, []), (21, 3, 79, 1, []), bz, bz, (3, 2, 4, 0, []), bz, (40, 3, 108, 0, []), bz, bz, (23, 3, 81, 0, []), bz, bz, (3, 2, 4, 0, []), bz, (41, 1, 0, 0, [])]
def cd_X9_slips : List bh_I := [(5, 1, 0, 1, []), (25, 3, 93, 0, []), bz, bz, (3, 1, 1, 1, []), (40, 3, 82, 0, []), bz, bz, (21, 3, 23, 0, []), bz, bz, (5, 1, 0, 1, []), (25, 3, 93, 0, []), bz, bz, (3, 1, 2, 1, []), (3, 1, 3, 1, []), (40, 3, 103, 0, []), bz, bz, (21, 3, 26, 1, []), bz, bz, (1, 2, 1, (-3), []), bz, (41, 1, 0, 0, []), (3, 2, 4, 0, []), bz, (40, 3, 97, 0, []), bz, bz, (21, 3, 45, 0, []), bz, bz, (3, 2, 5, 0, []), bz, (21, 3, 45, 2, []), bz, bz, (3, 2, 5, 0, []), bz, (1, 1, 0, 4, []), (22, 3, 48, 5, []), bz, bz, (1, 2, 1, (-3), []), bz, (41, 1, 0, 0, []), (5, 1, 0, 1, []), (25, 3, 98, 0, []), bz, bz, (5, 1, 0, 1, []), (25, 3, 93, 0, []), bz, bz, (3, 1, 1, 1, []), (40, 3, 91, 0, []), bz, bz, (5, 1, 0, 1, []), (25, 3, 98, 0, []), bz, bz, (5, 1, 0, 1, []), (25, 3, 93, 0, []), bz, bz, (40, 3, 117, 0, []), bz, bz, (21, 3, 77, 0, []), bz, bz, (1, 2, 1, (-2), []), bz, (41, 1, 0, 0, []), (5, 1, 0, 1, []), (25, 3, 100, 0, []), bz, bz, (5, 1, 0, 1, []), (25, 3, 93, 0, []), bz, bz, (5, 1, 0, 1, []), (25, 3, 98, 0, []), bz, bz, (5, 1, 0, 1, []), (25, 3, 93, 0, []), bz, bz, (3, 1, 2, 1, []), (3, 1, 3, 1, []), (40, 3, 104, 0, []), bz, bz, (3, 2, 4, 0, []), bz, (40, 3, 118, 0, []), bz, bz, (3, 2, 5, 0, []), bz, (21, 3, 116, 1, []), bz, bz, (5, 1, 0, 1, []), (25, 3, 100, 0, []), bz, bz, (25, 3, 74, 0, []), bz, bz, (41, 1, 0, 0, []), (5, 1, 0, 1, []), (25, 3, 100, 0, []), bz, bz, (25, 3, 74, 0, []), bz, bz, (21, 3, 131, 1, []), bz, bz, (1, 2, 1, (-2), []), bz, (23, 3, 140, 0, []), bz, bz, (5, 1, 0, 1, []), (25, 3, 100, 0, []), bz, bz, (3, 2, 5, 0, []), bz, (40, 3, 119, 0, []), bz, bz, (41, 1, 0, 0, [])]
def cd_X9_errors : List bh_I := [(5, 1, 0, 1, []), (25, 3, 93, 0, []), bz, bz, (3, 1, 1, 1, []), (3, 1, 2, 1, []), (40, 3, 103, 0, []), bz, bz, (21, 3, 19, 0, []), bz, bz, (3, 1, 3, 1, []), (40, 3, 105, 0, []), bz, bz, (21, 3, 21, 1, []), bz, bz, (1, 1, 0, (-1), []), (41, 1, 0, 0, []), (5, 1, 0, 1, []), (25, 3, 103, 0, []), bz, bz, (5, 1, 0, 1, []), (25, 3, 93, 0, []), bz, bz, (5, 1, 0, 1, []), (25, 3, 98, 0, []), bz, bz, (3, 1, 1, 1, []), (3, 1, 2, 1, []), (40, 3, 120, 0, []), bz, bz, (5, 1, 0, 1, []), (25, 3, 103, 0, []), bz, bz, (25, 3, 91, 0, []), bz, bz, (3, 1, 3, 1, []), (27, 1, 0, 0, []), (41, 1, 0, 0, [])]
def cd_X9_nested : List bh_I := [(5, 1, 0, 1, []), (25, 3, 93, 0, []), bz, bz, (3, 1, 1, 1, []), (3, 1, 2, 1, []), (40, 3, 103, 0, []), bz, bz, (21, 3, 21, 0, []), bz, bz, (3, 1, 3, 1, []), (21, 3, 21, 2, []), bz, bz, (3, 1, 3, 1, []), (1, 1, 0, 3, []), (22, 3, 23, 5, []), bz, bz, (1, 1, 0, (-1), []), (41, 1, 0, 0, []), (5, 1, 0, 1, []), (25, 3, 103, 0, []), bz, bz, (5, 1, 0, 1, []), (25, 3, 93, 0, []), bz, bz, (5, 1, 0, 1, []), (25, 3, 98, 0, []), bz, bz, (3, 1, 1, 1, []), (3, 1, 2, 1, []), (40, 3, 120, 0, []), bz, bz, (3, 1, 3, 1, []), (24, 27, 100, 0, [68, 84, 92]), bz, bz, bz, bz, bz, bz, bz, bz, bz, bz, bz, bz, bz, bz, bz, bz, bz, bz, bz, bz, bz, bz, bz, bz, bz, bz, (5, 1, 0, 1, []), (25, 3, 103, 0, []), bz, bz, (40, 3, 121, 0, []), bz, bz, (21, 3, 82, 1, []), bz, bz, (1, 1, 0, 1, []), (23, 3, 83, 0, []), bz, bz, (1, 1, 0, 0, []), (41, 1, 0, 0, []), (5, 1, 0, 1, []), (25, 3, 103, 0, []), bz, bz, (40, 3, 121, 0, []), bz, bz, (41, 1, 0, 0, []), (5, 1, 0, 1, []), (25, 3, 103, 0, []), bz, bz, (40, 3, 122, 0, []), bz, bz, (41, 1, 0, 0, []), (5, 1, 0, 1, []), (25, 3, 103, 0, []), bz, bz, (40, 3, 123, 0, []), bz, bz, (41, 1, 0, 0, [])]
def cd_X9_shared : List bh_I := [(5, 1, 0, 1, []), (25, 3, 93, 0, []), bz, bz, (3, 1, 1, 1, []), (40, 3, 82, 0, []), bz, bz, (21, 3, 22, 0, []), bz, bz, (5, 1, 0, 1, []), (25, 3, 93, 0, []), bz, bz, (3, 1, 2, 1, []), (40, 3, 82, 0, []), bz, bz, (21, 3, 24, 1, []), bz, bz, (1, 1, 0, (-1), []), (41, 1, 0, 0, []), (5, 1, 0, 1, []), (25, 3, 98, 0, []), bz, bz, (5, 1, 0, 1, []), (25, 3, 93, 0, []), bz, bz, (3, 1, 2, 1, []), (40, 3, 91, 0, []), bz, bz, (5, 1, 0, 1, []), (25, 3, 98, 0, []), bz, bz, (40, 3, 124, 0, []), bz, bz, (6, 1, 3, 1, []), (5, 1, 0, 1, []), (25, 3, 98, 0, []), bz, bz, (5, 1, 0, 1, []), (25, 3, 93, 0, []), bz, bz, (3, 1, 1, 1, []), (40, 3, 91, 0, []), bz, bz, (1, 1, 0, 0, []), (6, 2, 4, 0, []), bz, (3, 2, 4, 0, []), bz, (5, 1, 0, 1, []), (25, 3, 98, 0, []), bz, bz, (25, 3, 67, 0, []), bz, bz, (22, 3, 106, 3, []), bz, bz, (3, 1, 3, 1, []), (5, 1, 0, 1, []), (25, 3, 98, 0, []), bz, bz, (25, 3, 63, 0, []), bz, bz, (3, 2, 4, 0, []), bz, (27, 1, 0, 0, []), (10, 1, 7, 0, []), (1, 1, 0, 1, []), (10, 1, 3, 0, []), (1, 1, 0, 1, []), (22, 3, 100, 1, []), bz, bz, (5, 1, 0, 1, []), (25, 3, 98, 0, []), bz, bz, (25, 3, 63, 0, []), bz, bz, (3, 2, 4, 0, []), bz, (27, 1, 0, 0, []), (41, 1, 0, 0, []), (9, 3, 4, 1, []), bz, bz, (23, 3, 59, 0, []), bz, bz, (1, 2, 1, (-2), []), bz, (41, 1, 0, 0, [])]
def cd_X9_quarrel : List bh_I := [(5, 1, 0, 1, []), (25, 3, 93, 0, []), bz, bz, (3, 1, 1, 1, []), (40, 3, 82, 0, []), bz, bz, (21, 3, 35, 0, []), bz, bz, (5, 1, 0, 1, []), (25, 3, 93, 0, []), bz, bz, (3, 1, 2, 1, []), (40, 3, 82, 0, []), bz, bz, (21, 3, 35, 0, []), bz, bz, (5, 1, 0, 1, []), (25, 3, 93, 0, []), bz, bz, (3, 1, 3, 1, []), (3, 2, 4, 0, []), bz, (40, 3, 103, 0, []), bz, bz, (21, 3, 37, 1, []), bz, bz, (1, 1, 0, (-1), []), (41, 1, 0, 0, []), (5, 1, 0, 1, []), (3, 1, 1, 1, []), (3, 1, 3, 1, []), (3, 2, 4, 0, []), bz, (40, 3, 94, 0, []), bz, bz, (6, 2, 5, 0, []), bz, (5, 1, 0, 1, []), (3, 1, 2, 1, []), (3, 1, 3, 1, []), (3, 2, 4, 0, []), bz, (40, 3, 94, 0, []), bz, bz, (6, 2, 6, 0, []), bz, (3, 2, 5, 0, []), bz, (1, 2, 1, (-2), []), bz, (22, 3, 71, 0, []), bz, bz, (3, 2, 6, 0, []), bz, (1, 2, 1, (-2), []), bz, (22, 3, 76, 1, []), bz, bz, (1, 2, 1, (-2), []), bz, (23, 3, 81, 0, []), bz, bz, (3, 2, 5, 0, []), bz, (3, 2, 6, 0, []), bz, (10, 1, 5, 0, []), (41, 1, 0, 0, [])]
def cd_X9_served : List bh_I := [(5, 1, 0, 1, []), (3, 1, 1, 1, []), (40, 3, 115, 0, []), bz, bz, (21, 3, 18, 0, []), bz, bz, (3, 1, 2, 1, []), (21, 3, 18, 2, []), bz, bz, (3, 1, 2, 1, []), (1, 2, 1, 99, []), bz, (22, 3, 20, 5, []), bz, bz, (1, 1, 0, (-1), []), (41, 1, 0, 0, []), (1, 1, 0, 0, []), (6, 1, 3, 1, []), (3, 1, 3, 1, []), (1, 2, 1, 12, []), bz, (22, 3, 47, 3, []), bz, bz, (5, 1, 0, 1, []), (25, 3, 104, 0, []), bz, bz, (3, 1, 3, 1, []), (3, 1, 1, 1, []), (3, 1, 3, 1, []), (10, 1, 7, 0, []), (1, 1, 0, 1, []), (10, 1, 3, 0, []), (3, 1, 2, 1, []), (10, 1, 2, 0, []), (28, 1, 0, 0, []), (9, 3, 3, 1, []), bz, bz, (23, 3, 22, 0, []), bz, bz, (1, 1, 0, 0, []), (6, 1, 3, 1, []), (1, 2, 1, 99, []), bz, (6, 2, 4, 0, []), bz, (3, 2, 4, 0, []), bz, (21, 3, 109, 2, []), bz, bz, (1, 1, 0, 0, []), (6, 2, 5, 0, []), bz, (3, 2, 5, 0, []), bz, (5, 1, 0, 1, []), (25, 3, 93, 0, []), bz, bz, (25, 3, 5, 0, []), bz, bz, (22, 3, 103, 3, []), bz, bz, (5, 1, 0, 1, []), (25, 3, 93, 0, []), bz, bz, (25, 3, 22, 0, []), bz, bz, (3, 2, 5, 0, []), bz, (27, 1, 0, 0, []), (3, 2, 4, 0, []), bz, (22, 3, 97, 1, []), bz, bz, (3, 1, 3, 1, []), (5, 1, 0, 1, []), (3, 2, 5, 0, []), bz, (40, 3, 125, 0, []), bz, bz, (10, 1, 0, 0, []), (6, 1, 3, 1, []), (9, 3, 5, 1, []), bz, bz, (23, 3, 61, 0, []), bz, bz, (9, 3, 4, (-1), []), bz, bz, (23, 3, 53, 0, []), bz, bz, (3, 1, 3, 1, []), (41, 1, 0, 0, [])]
def cd_X9_between : List bh_I := [(5, 1, 0, 1, []), (25, 3, 93, 0, []), bz, bz, (3, 1, 1, 1, []), (40, 3, 82, 0, []), bz, bz, (21, 3, 22, 0, []), bz, bz, (5, 1, 0, 1, []), (25, 3, 93, 0, []), bz, bz, (3, 1, 2, 1, []), (40, 3, 93, 0, []), bz, bz, (21, 3, 24, 1, []), bz, bz, (1, 1, 0, (-1), []), (41, 1, 0, 0, []), (3, 1, 3, 1, []), (21, 3, 38, 2, []), bz, bz, (5, 1, 0, 1, []), (25, 3, 93, 0, []), bz, bz, (25, 3, 12, 0, []), bz, bz, (21, 3, 40, 1, []), bz, bz, (1, 1, 0, (-1), []), (41, 1, 0, 0, []), (5, 1, 0, 1, []), (25, 3, 101, 0, []), bz, bz, (5, 1, 0, 1, []), (25, 3, 93, 0, []), bz, bz, (5, 1, 0, 1, []), (25, 3, 98, 0, []), bz, bz, (3, 1, 1, 1, []), (3, 1, 2, 1, []), (40, 3, 113, 0, []), bz, bz, (3, 1, 3, 1, []), (5, 1, 0, 1, []), (25, 3, 101, 0, []), bz, bz, (25, 3, 86, 0, []), bz, bz, (22, 3, 80, 3, []), bz, bz, (5, 1, 0, 1, []), (25, 3, 101, 0, []), bz, bz, (25, 3, 84, 0, []), bz, bz, (3, 1, 3, 1, []), (27, 1, 0, 0, []), (23, 3, 82, 0, []), bz, bz, (1, 2, 1, (-2), []), bz, (41, 1, 0, 0, [])]
def cd_X9_count : List bh_I := [(3, 1, 1, 1, []), (24, 71, 190, 0, [72, 80, 88, 96, 105, 110, 125, 140, 148, 156, 164, 169, 177, 182]), bz, bz, bz, bz, bz, bz, bz, bz, bz, bz, bz, bz, bz, bz, bz, bz, bz, bz, bz, bz, bz, bz, bz, bz, bz, bz, bz, bz, bz, bz, bz, bz, bz, bz, bz, bz, bz, bz, bz, bz, bz, bz, bz, bz, bz, bz, bz, bz, bz, bz, bz, bz, bz, bz, bz, bz, bz, bz, bz, bz, bz, bz, bz, bz, bz, bz, bz, bz, bz, bz, (5, 1, 0, 1, []), (25, 3, 93, 0, []), bz, bz, (25, 3, 5, 0, []), bz, bz, (41, 1, 0, 0, []), (5, 1, 0, 1, []), (25, 3, 93, 0, []), bz, bz, (25, 3, 9, 0, []), bz, bz, (41, 1, 0, 0, []), (5, 1, 0, 1, []), (25, 3, 93, 0, []), bz, bz, (40, 3, 126, 0, []), bz, bz, (41, 1, 0, 0, []), (5, 1, 0, 1, []), (25, 3, 93, 0, []), bz, bz, (1, 1, 0, (-1), []), (40, 3, 102, 0, []), bz, bz, (41, 1, 0, 0, []), (5, 1, 0, 1, []), (40, 3, 127, 0, []), bz, bz, (41, 1, 0, 0, []), (5, 1, 0, 1, []), (25, 3, 93, 0, []), bz, bz, (5, 1, 0, 1, []), (25, 3, 93, 0, []), bz, bz, (25, 3, 41, 0, []), bz, bz, (40, 3, 128, 0, []), bz, bz, (41, 1, 0, 0, []), (5, 1, 0, 1, []), (25, 3, 93, 0, []), bz, bz, (5, 1, 0, 1, []), (25, 3, 93, 0, []), bz, bz, (25, 3, 43, 0, []), bz, bz, (40, 3, 128, 0, []), bz, bz, (41, 1, 0, 0, []), (5, 1, 0, 1, []), (25, 3, 93, 0, []), bz, bz, (25, 3, 16, 0, []), bz, bz, (41, 1, 0, 0, []), (5, 1, 0, 1, []), (25, 3, 93, 0, []), bz, bz, (25, 3, 19, 0, []), bz, bz, (41, 1, 0, 0, []), (5, 1, 0, 1, []), (25, 3, 93, 0, []), bz, bz, (25, 3, 12, 0, []), bz, bz, (41, 1, 0, 0, []), (5, 1, 0, 1, []), (25, 3, 107, 0, []), bz, bz, (41, 1, 0, 0, []), (5, 1, 0, 1, []), (25, 3, 95, 0, []), bz, bz, (25, 3, 56, 0, []), bz, bz, (41, 1, 0, 0, []), (5, 1, 0, 1, []), (25, 3, 108, 0, []), bz, bz, (41, 1, 0, 0, []), (5, 1, 0, 1, []), (25, 3, 93, 0, []), bz, bz, (25, 3, 14, 0, []), bz, bz, (41, 1, 0, 0, []), (1, 1, 0, (-1), []), (41, 1, 0, 0, [])]
def cd_X9_isSign : List bh_I := [(3, 1, 0, 1, []), (21, 3, 14, 2, []), bz, bz, (3, 1, 0, 1, []), (1, 2, 1, 16, []), bz, (22, 3, 14, 3, []), bz, bz, (1, 1, 0, 1, []), (23, 3, 15, 0, []), bz, bz, (1, 1, 0, 0, []), (41, 1, 0, 0, [])]
def cd_X9_isRow : List bh_I := [(3, 1, 0, 1, []), (21, 3, 15, 2, []), bz, bz, (3, 1, 0, 1, []), (1, 3, 4, 65535, [347, 726]), bz, bz, (22, 3, 15, 4, []), bz, bz, (1, 1, 0, 1, []), (23, 3, 16, 0, []), bz, bz, (1, 1, 0, 0, []), (41, 1, 0, 0, [])]
def cd_X9_isGift : List bh_I := [(3, 1, 0, 1, []), (1, 1, 0, 1, []), (22, 3, 16, 2, []), bz, bz, (3, 1, 0, 1, []), (1, 3, 2, 9999, []), bz, bz, (22, 3, 16, 4, []), bz, bz, (1, 1, 0, 1, []), (23, 3, 17, 0, []), bz, bz, (1, 1, 0, 0, []), (41, 1, 0, 0, [])]
def cd_X9_isShelf : List bh_I := [(3, 1, 0, 1, []), (21, 3, 13, 2, []), bz, bz, (3, 1, 0, 1, []), (1, 1, 0, 2, []), (22, 3, 13, 3, []), bz, bz, (1, 1, 0, 1, []), (23, 3, 14, 0, []), bz, bz, (1, 1, 0, 0, []), (41, 1, 0, 0, [])]
def cd_X9_isSetOfWriters : List bh_I := [(3, 1, 1, 1, []), (21, 3, 20, 2, []), bz, bz, (3, 1, 1, 1, []), (5, 1, 0, 1, []), (25, 3, 93, 0, []), bz, bz, (25, 3, 5, 0, []), bz, bz, (10, 1, 7, 0, []), (21, 3, 20, 1, []), bz, bz, (1, 1, 0, 1, []), (23, 3, 21, 0, []), bz, bz, (1, 1, 0, 0, []), (41, 1, 0, 0, [])]
def cd_X9_remember : List bh_I := [(5, 1, 0, 1, []), (25, 3, 96, 0, []), bz, bz, (5, 1, 0, 1, []), (25, 3, 106, 0, []), bz, bz, (33, 1, 0, 0, []), (5, 1, 0, 1, []), (25, 3, 93, 0, []), bz, bz, (40, 3, 81, 0, []), bz, bz, (5, 1, 0, 1, []), (5, 1, 0, 1, []), (25, 3, 106, 0, []), bz, bz, (1, 1, 0, 1, []), (10, 1, 0, 0, []), (1, 2, 1, 10, []), bz, (12, 1, 0, 0, []), (26, 3, 106, 0, []), bz, bz, (5, 1, 0, 1, []), (5, 1, 0, 1, []), (25, 3, 107, 0, []), bz, bz, (1, 1, 0, 1, []), (10, 1, 0, 0, []), (1, 2, 1, 10, []), bz, (50, 3, 0, 348, [612]), bz, bz, (26, 3, 107, 0, []), bz, bz, (44, 1, 0, 0, [])]
def cd_X9_handsOf : List bh_I := [(5, 1, 0, 1, []), (25, 3, 98, 0, []), bz, bz, (5, 1, 0, 1, []), (25, 3, 93, 0, []), bz, bz, (3, 1, 1, 1, []), (40, 3, 91, 0, []), bz, bz, (5, 1, 0, 1, []), (25, 3, 98, 0, []), bz, bz, (25, 3, 67, 0, []), bz, bz, (41, 1, 0, 0, [])]
def cd_X9_lowestOf : List bh_I := [(5, 1, 0, 1, []), (25, 3, 98, 0, []), bz, bz, (5, 1, 0, 1, []), (25, 3, 93, 0, []), bz, bz, (3, 1, 1, 1, []), (40, 3, 91, 0, []), bz, bz, (5, 1, 0, 1, []), (25, 3, 98, 0, []), bz, bz, (40, 3, 129, 0, []), bz, bz, (41, 1, 0, 0, [])]
def cd_X9_mostHands : List bh_I := [(1, 1, 0, 0, []), (6, 1, 1, 1, []), (1, 1, 0, 0, []), (6, 1, 2, 1, []), (3, 1, 2, 1, []), (5, 1, 0, 1, []), (25, 3, 93, 0, []), bz, bz, (25, 3, 5, 0, []), bz, bz, (22, 3, 31, 3, []), bz, bz, (3, 1, 1, 1, []), (5, 1, 0, 1, []), (3, 1, 2, 1, []), (40, 3, 85, 0, []), bz, bz, (49, 3, 0, 356, [1053]), bz, bz, (6, 1, 1, 1, []), (9, 3, 2, 1, []), bz, bz, (23, 3, 4, 0, []), bz, bz, (3, 1, 1, 1, []), (41, 1, 0, 0, [])]
def cd_X9_lineOf : List bh_I := [(5, 1, 0, 1, []), (25, 3, 98, 0, []), bz, bz, (5, 1, 0, 1, []), (25, 3, 93, 0, []), bz, bz, (3, 1, 1, 1, []), (3, 1, 2, 1, []), (3, 1, 3, 1, []), (40, 3, 130, 0, []), bz, bz, (41, 1, 0, 0, [])]
def cd_X9_lineAt : List bh_I := [(3, 1, 1, 1, []), (1, 2, 1, 32, []), bz, (11, 1, 0, 0, []), (6, 1, 2, 1, []), (3, 1, 1, 1, []), (1, 2, 1, 8, []), bz, (11, 1, 0, 0, []), (1, 1, 0, 4, []), (12, 1, 0, 0, []), (6, 1, 3, 1, []), (3, 1, 1, 1, []), (1, 2, 1, 8, []), bz, (12, 1, 0, 0, []), (6, 2, 4, 0, []), bz, (5, 1, 0, 1, []), (25, 3, 93, 0, []), bz, bz, (3, 1, 2, 1, []), (40, 3, 82, 0, []), bz, bz, (21, 3, 42, 0, []), bz, bz, (5, 1, 0, 1, []), (25, 3, 93, 0, []), bz, bz, (3, 1, 3, 1, []), (3, 2, 4, 0, []), bz, (40, 3, 103, 0, []), bz, bz, (21, 3, 45, 1, []), bz, bz, (1, 2, 1, (-2), []), bz, (41, 1, 0, 0, []), (5, 1, 0, 1, []), (3, 1, 2, 1, []), (3, 1, 3, 1, []), (3, 2, 4, 0, []), bz, (40, 3, 94, 0, []), bz, bz, (41, 1, 0, 0, [])]
def cd_X9_lacksLines : List bh_I := [(1, 1, 0, 0, []), (6, 1, 2, 1, []), (3, 1, 2, 1, []), (5, 1, 0, 1, []), (25, 3, 93, 0, []), bz, bz, (25, 3, 9, 0, []), bz, bz, (22, 3, 33, 3, []), bz, bz, (5, 1, 0, 1, []), (3, 1, 1, 1, []), (3, 1, 2, 1, []), (1, 1, 0, 0, []), (40, 3, 94, 0, []), bz, bz, (1, 2, 1, (-2), []), bz, (22, 3, 27, 1, []), bz, bz, (1, 1, 0, 1, []), (41, 1, 0, 0, []), (9, 3, 2, 1, []), bz, bz, (23, 3, 2, 0, []), bz, bz, (1, 1, 0, 0, []), (41, 1, 0, 0, [])]
def cd_X9_followTrail : List bh_I := [(5, 1, 0, 1, []), (25, 3, 98, 0, []), bz, bz, (5, 1, 0, 1, []), (25, 3, 93, 0, []), bz, bz, (3, 1, 1, 1, []), (40, 3, 91, 0, []), bz, bz, (5, 1, 0, 1, []), (25, 3, 98, 0, []), bz, bz, (5, 1, 0, 1, []), (25, 3, 93, 0, []), bz, bz, (40, 3, 117, 0, []), bz, bz, (21, 3, 28, 0, []), bz, bz, (1, 1, 0, 0, []), (41, 1, 0, 0, []), (5, 1, 0, 1, []), (25, 3, 99, 0, []), bz, bz, (5, 1, 0, 1, []), (25, 3, 93, 0, []), bz, bz, (5, 1, 0, 1, []), (25, 3, 98, 0, []), bz, bz, (5, 1, 0, 1, []), (25, 3, 93, 0, []), bz, bz, (3, 1, 2, 1, []), (3, 1, 3, 1, []), (40, 3, 104, 0, []), bz, bz, (40, 3, 131, 0, []), bz, bz, (1, 1, 0, 1, []), (41, 1, 0, 0, [])]
def cd_X9_passedUp : List bh_I := [(5, 1, 0, 1, []), (25, 3, 98, 0, []), bz, bz, (5, 1, 0, 1, []), (25, 3, 93, 0, []), bz, bz, (3, 1, 1, 1, []), (40, 3, 91, 0, []), bz, bz, (5, 1, 0, 1, []), (25, 3, 98, 0, []), bz, bz, (5, 1, 0, 1, []), (25, 3, 93, 0, []), bz, bz, (1, 1, 0, 0, []), (5, 1, 0, 1, []), (25, 3, 98, 0, []), bz, bz, (25, 3, 67, 0, []), bz, bz, (3, 1, 2, 1, []), (40, 3, 132, 0, []), bz, bz, (41, 1, 0, 0, [])]
def cd_X9_seenFitsWriters : List bh_I := [(5, 1, 0, 1, []), (25, 3, 93, 0, []), bz, bz, (25, 3, 12, 0, []), bz, bz, (21, 3, 31, 5, []), bz, bz, (5, 1, 0, 1, []), (25, 3, 93, 0, []), bz, bz, (25, 3, 12, 0, []), bz, bz, (5, 1, 0, 1, []), (25, 3, 93, 0, []), bz, bz, (25, 3, 5, 0, []), bz, bz, (22, 3, 31, 4, []), bz, bz, (1, 1, 0, 1, []), (23, 3, 32, 0, []), bz, bz, (1, 1, 0, 0, []), (41, 1, 0, 0, [])]
def cd_X9_choicesBySeen : List bh_I := [(5, 1, 0, 1, []), (25, 3, 93, 0, []), bz, bz, (25, 3, 53, 0, []), bz, bz, (3, 1, 1, 1, []), (27, 1, 0, 0, []), (6, 1, 3, 1, []), (5, 1, 0, 1, []), (25, 3, 93, 0, []), bz, bz, (3, 1, 1, 1, []), (3, 1, 2, 1, []), (40, 3, 133, 0, []), bz, bz, (3, 1, 3, 1, []), (22, 3, 29, 1, []), bz, bz, (1, 3, 2, 4096, []), bz, bz, (23, 3, 30, 0, []), bz, bz, (1, 1, 0, 0, []), (6, 2, 4, 0, []), bz, (1, 1, 0, 0, []), (6, 2, 5, 0, []), bz, (3, 2, 5, 0, []), bz, (5, 1, 0, 1, []), (25, 3, 93, 0, []), bz, bz, (25, 3, 12, 0, []), bz, bz, (22, 3, 118, 3, []), bz, bz, (5, 1, 0, 1, []), (25, 3, 93, 0, []), bz, bz, (25, 3, 22, 0, []), bz, bz, (3, 2, 5, 0, []), bz, (27, 1, 0, 0, []), (5, 1, 0, 1, []), (25, 3, 93, 0, []), bz, bz, (25, 3, 22, 0, []), bz, bz, (3, 1, 1, 1, []), (27, 1, 0, 0, []), (22, 3, 73, 3, []), bz, bz, (1, 1, 0, 1, []), (23, 3, 74, 0, []), bz, bz, (1, 1, 0, 0, []), (6, 2, 6, 0, []), bz, (3, 2, 6, 0, []), bz, (21, 3, 112, 0, []), bz, bz, (5, 1, 0, 1, []), (25, 3, 93, 0, []), bz, bz, (3, 1, 1, 1, []), (5, 1, 0, 1, []), (25, 3, 93, 0, []), bz, bz, (25, 3, 53, 0, []), bz, bz, (3, 2, 5, 0, []), bz, (27, 1, 0, 0, []), (40, 3, 133, 0, []), bz, bz, (3, 1, 3, 1, []), (22, 3, 112, 1, []), bz, bz, (3, 2, 4, 0, []), bz, (1, 1, 0, 1, []), (3, 2, 5, 0, []), bz, (10, 1, 6, 0, []), (10, 1, 4, 0, []), (6, 2, 4, 0, []), bz, (9, 3, 5, 1, []), bz, bz, (23, 3, 35, 0, []), bz, bz, (3, 2, 4, 0, []), bz, (41, 1, 0, 0, [])]
def cd_X9_countWays : List bh_I := [(1, 1, 0, 0, []), (6, 2, 4, 0, []), bz, (3, 2, 4, 0, []), bz, (1, 2, 1, 16, []), bz, (22, 3, 24, 4, []), bz, bz, (5, 1, 0, 1, []), (25, 3, 105, 0, []), bz, bz, (3, 2, 4, 0, []), bz, (2, 1, 0, 0, []), (32, 1, 0, 0, []), (9, 3, 4, 1, []), bz, bz, (23, 3, 3, 0, []), bz, bz, (5, 1, 0, 1, []), (25, 3, 105, 0, []), bz, bz, (1, 1, 0, 0, []), (2, 1, 0, 1, []), (32, 1, 0, 0, []), (1, 1, 0, 0, []), (6, 2, 4, 0, []), bz, (3, 2, 4, 0, []), bz, (5, 1, 0, 1, []), (25, 3, 93, 0, []), bz, bz, (25, 3, 12, 0, []), bz, bz, (22, 3, 192, 3, []), bz, bz, (5, 1, 0, 1, []), (25, 3, 93, 0, []), bz, bz, (3, 1, 3, 1, []), (3, 2, 4, 0, []), bz, (40, 3, 134, 0, []), bz, bz, (6, 2, 5, 0, []), bz, (5, 1, 0, 1, []), (3, 1, 1, 1, []), (3, 1, 3, 1, []), (3, 2, 5, 0, []), bz, (40, 3, 94, 0, []), bz, bz, (5, 1, 0, 1, []), (25, 3, 93, 0, []), bz, bz, (25, 3, 53, 0, []), bz, bz, (3, 2, 4, 0, []), bz, (27, 1, 0, 0, []), (22, 3, 83, 1, []), bz, bz, (1, 1, 0, 1, []), (23, 3, 84, 0, []), bz, bz, (1, 1, 0, 0, []), (6, 2, 6, 0, []), bz, (5, 1, 0, 1, []), (3, 1, 2, 1, []), (3, 1, 3, 1, []), (3, 2, 5, 0, []), bz, (40, 3, 94, 0, []), bz, bz, (5, 1, 0, 1, []), (25, 3, 93, 0, []), bz, bz, (25, 3, 53, 0, []), bz, bz, (3, 2, 4, 0, []), bz, (27, 1, 0, 0, []), (22, 3, 111, 1, []), bz, bz, (1, 1, 0, 1, []), (23, 3, 112, 0, []), bz, bz, (1, 1, 0, 0, []), (6, 2, 7, 0, []), bz, (3, 2, 4, 0, []), bz, (1, 1, 0, 1, []), (10, 1, 0, 0, []), (6, 2, 8, 0, []), bz, (3, 2, 8, 0, []), bz, (21, 3, 186, 2, []), bz, bz, (3, 2, 7, 0, []), bz, (21, 3, 140, 0, []), bz, bz, (5, 1, 0, 1, []), (25, 3, 105, 0, []), bz, bz, (3, 2, 8, 0, []), bz, (31, 1, 0, 0, []), (23, 3, 141, 0, []), bz, bz, (2, 1, 0, 0, []), (7, 2, 9, 0, []), bz, (3, 2, 6, 0, []), bz, (21, 3, 165, 0, []), bz, bz, (3, 2, 8, 0, []), bz, (21, 3, 165, 5, []), bz, bz, (5, 1, 0, 1, []), (25, 3, 105, 0, []), bz, bz, (3, 2, 8, 0, []), bz, (1, 1, 0, 1, []), (10, 1, 1, 0, []), (31, 1, 0, 0, []), (23, 3, 166, 0, []), bz, bz, (2, 1, 0, 0, []), (7, 2, 11, 0, []), bz, (5, 1, 0, 1, []), (25, 3, 105, 0, []), bz, bz, (3, 2, 8, 0, []), bz, (4, 2, 11, 0, []), bz, (4, 2, 9, 0, []), bz, (13, 1, 0, 0, []), (32, 1, 0, 0, []), (9, 3, 8, (-1), []), bz, bz, (23, 3, 120, 0, []), bz, bz, (9, 3, 4, 1, []), bz, bz, (23, 3, 34, 0, []), bz, bz, (44, 1, 0, 0, [])]
def cd_X9_sendDown : List bh_I := [(5, 1, 0, 1, []), (25, 3, 93, 0, []), bz, bz, (3, 1, 1, 1, []), (40, 3, 83, 0, []), bz, bz, (21, 3, 15, 0, []), bz, bz, (1, 1, 0, 0, []), (23, 3, 24, 0, []), bz, bz, (5, 1, 0, 1, []), (25, 3, 93, 0, []), bz, bz, (25, 3, 22, 0, []), bz, bz, (3, 1, 1, 1, []), (27, 1, 0, 0, []), (6, 1, 2, 1, []), (3, 1, 2, 1, []), (5, 1, 0, 1, []), (25, 3, 104, 0, []), bz, bz, (3, 1, 1, 1, []), (27, 1, 0, 0, []), (50, 3, 0, 348, [612]), bz, bz, (6, 1, 3, 1, []), (5, 1, 0, 1, []), (25, 3, 93, 0, []), bz, bz, (25, 3, 38, 0, []), bz, bz, (3, 1, 1, 1, []), (27, 1, 0, 0, []), (6, 2, 4, 0, []), bz, (3, 2, 4, 0, []), bz, (1, 1, 0, (-1), []), (22, 3, 55, 1, []), bz, bz, (3, 1, 3, 1, []), (41, 1, 0, 0, []), (5, 1, 0, 1, []), (25, 3, 104, 0, []), bz, bz, (3, 2, 4, 0, []), bz, (20, 1, 0, 0, []), (27, 1, 0, 0, []), (3, 1, 3, 1, []), (10, 1, 0, 0, []), (28, 1, 0, 0, []), (1, 1, 0, 0, []), (41, 1, 0, 0, [])]
def cd_X10_init : List bh_I := [(5, 1, 0, 1, []), (39, 3, 0, 1, [1063]), bz, bz, (5, 1, 0, 1, []), (1, 3, 2, 560, []), bz, bz, (37, 2, 20, 0, []), bz, (26, 3, 109, 0, []), bz, bz, (5, 1, 0, 1, []), (1, 3, 2, 560, []), bz, bz, (37, 2, 20, 0, []), bz, (26, 3, 110, 0, []), bz, bz, (5, 1, 0, 1, []), (1, 3, 2, 5600, []), bz, bz, (37, 2, 20, 0, []), bz, (26, 3, 111, 0, []), bz, bz, (5, 1, 0, 1, []), (1, 3, 2, 1120, []), bz, bz, (37, 2, 20, 0, []), bz, (26, 3, 112, 0, []), bz, bz, (5, 1, 0, 1, []), (1, 1, 0, 2, []), (37, 2, 23, 0, []), bz, (26, 3, 113, 0, []), bz, bz, (5, 1, 0, 1, []), (1, 3, 2, 400, []), bz, bz, (37, 2, 22, 0, []), bz, (26, 3, 115, 0, []), bz, bz, (5, 1, 0, 1, []), (1, 2, 1, 12, []), bz, (37, 2, 20, 0, []), bz, (26, 3, 120, 0, []), bz, bz, (5, 1, 0, 1, []), (1, 2, 1, 12, []), bz, (37, 2, 20, 0, []), bz, (26, 3, 122, 0, []), bz, bz, (5, 1, 0, 1, []), (1, 2, 1, 16, []), bz, (37, 2, 20, 0, []), bz, (26, 3, 123, 0, []), bz, bz, (5, 1, 0, 1, []), (1, 2, 1, 16, []), bz, (37, 2, 20, 0, []), bz, (26, 3, 124, 0, []), bz, bz, (5, 1, 0, 1, []), (1, 2, 1, 16, []), bz, (37, 2, 20, 0, []), bz, (26, 3, 125, 0, []), bz, bz, (5, 1, 0, 1, []), (1, 2, 1, 16, []), bz, (37, 2, 20, 0, []), bz, (26, 3, 126, 0, []), bz, bz, (5, 1, 0, 1, []), (1, 2, 1, 16, []), bz, (37, 2, 20, 0, []), bz, (26, 3, 127, 0, []), bz, bz, (5, 1, 0, 1, []), (1, 2, 1, 16, []), bz, (37, 2, 20, 0, []), bz, (26, 3, 128, 0, []), bz, bz, (5, 1, 0, 1, []), (1, 2, 1, 16, []), bz, (37, 2, 20, 0, []), bz, (26, 3, 129, 0, []), bz, bz, (5, 1, 0, 1, []), (1, 2, 1, 16, []), bz, (37, 2, 20, 0, []), bz, (26, 3, 130, 0, []), bz, bz, (5, 1, 0, 1, []), (1, 2, 1, 16, []), bz, (37, 2, 20, 0, []), bz, (26, 3, 131, 0, []), bz, bz, (5, 1, 0, 1, []), (1, 2, 1, 17, []), bz, (37, 2, 21, 0, []), bz, (26, 3, 132, 0, []), bz, bz, (5, 1, 0, 1, []), (1, 3, 2, 144, []), bz, bz, (37, 2, 20, 0, []), bz, (26, 3, 133, 0, []), bz, bz, (5, 1, 0, 1, []), (1, 2, 1, 16, []), bz, (37, 2, 20, 0, []), bz, (26, 3, 139, 0, []), bz, bz, (5, 1, 0, 1, []), (1, 2, 1, 16, []), bz, (37, 2, 20, 0, []), bz, (26, 3, 140, 0, []), bz, bz, (5, 1, 0, 1, []), (1, 2, 1, 16, []), bz, (37, 2, 20, 0, []), bz, (26, 3, 141, 0, []), bz, bz, (44, 1, 0, 0, [])]
def cd_X10_in : List bh_I := [(4, 1, 0, 1, []), (4, 1, 2, 1, []), (17, 1, 0, 0, []), (21, 3, 17, 2, []), bz, bz, (4, 1, 0, 1, []), (4, 2, 4, 0, []), bz, (17, 1, 0, 0, []), (21, 3, 17, 4, []), bz, bz, (1, 1, 0, 1, []), (23, 3, 18, 0, []), bz, bz, (1, 1, 0, 0, []), (41, 1, 0, 0, [])]
def cd_X10_truth : List bh_I := [(3, 1, 0, 1, []), (21, 3, 8, 0, []), bz, bz, (1, 1, 0, 1, []), (23, 3, 9, 0, []), bz, bz, (1, 1, 0, 0, []), (41, 1, 0, 0, [])]
def cd_X10_has : List bh_I := [(3, 1, 0, 1, []), (3, 1, 1, 1, []), (10, 1, 7, 0, []), (1, 1, 0, 1, []), (10, 1, 3, 0, []), (1, 1, 0, 1, []), (22, 3, 13, 1, []), bz, bz, (1, 1, 0, 1, []), (23, 3, 14, 0, []), bz, bz, (1, 1, 0, 0, []), (41, 1, 0, 0, [])]
def cd_X10_moves : List bh_I := [(1, 1, 0, 0, []), (6, 2, 4, 0, []), bz, (3, 2, 4, 0, []), bz, (1, 3, 2, 560, []), bz, bz, (22, 3, 29, 3, []), bz, bz, (5, 1, 2, 1, []), (3, 1, 3, 1, []), (3, 2, 4, 0, []), bz, (10, 1, 0, 0, []), (5, 1, 0, 1, []), (3, 1, 1, 1, []), (3, 2, 4, 0, []), bz, (10, 1, 0, 0, []), (27, 1, 0, 0, []), (28, 1, 0, 0, []), (9, 3, 4, 1, []), bz, bz, (23, 3, 3, 0, []), bz, bz, (44, 1, 0, 0, [])]
def cd_X10_feed : List bh_I := [(5, 1, 0, 1, []), (25, 3, 116, 0, []), bz, bz, (1, 2, 1, 20, []), bz, (10, 1, 0, 0, []), (1, 3, 2, 400, []), bz, bz, (22, 3, 15, 5, []), bz, bz, (1, 1, 0, (-1), []), (41, 1, 0, 0, []), (5, 1, 0, 1, []), (3, 1, 1, 1, []), (40, 3, 135, 0, []), bz, bz, (5, 1, 0, 1, []), (3, 1, 2, 1, []), (40, 3, 135, 0, []), bz, bz, (5, 1, 0, 1, []), (3, 1, 3, 1, []), (40, 3, 135, 0, []), bz, bz, (5, 1, 0, 1, []), (3, 2, 4, 0, []), bz, (40, 3, 135, 0, []), bz, bz, (5, 1, 0, 1, []), (3, 2, 5, 0, []), bz, (40, 3, 135, 0, []), bz, bz, (5, 1, 0, 1, []), (25, 3, 116, 0, []), bz, bz, (41, 1, 0, 0, [])]
def cd_X10_puts : List bh_I := [(1, 2, 1, 24, []), bz, (6, 1, 2, 1, []), (3, 1, 2, 1, []), (21, 3, 36, 2, []), bz, bz, (5, 1, 0, 1, []), (25, 3, 115, 0, []), bz, bz, (5, 1, 0, 1, []), (25, 3, 116, 0, []), bz, bz, (3, 1, 1, 1, []), (3, 1, 2, 1, []), (10, 1, 7, 0, []), (16, 1, 0, 0, []), (30, 1, 0, 0, []), (5, 1, 0, 1, []), (18, 1, 0, 0, []), (25, 3, 116, 0, []), bz, bz, (1, 1, 0, 1, []), (10, 1, 0, 0, []), (26, 3, 116, 0, []), bz, bz, (9, 3, 2, (-8), []), bz, bz, (23, 3, 3, 0, []), bz, bz, (44, 1, 0, 0, [])]
def cd_X10_end : List bh_I := [(3, 1, 1, 1, []), (21, 3, 12, 2, []), bz, bz, (3, 1, 1, 1, []), (5, 1, 0, 1, []), (25, 3, 116, 0, []), bz, bz, (22, 3, 14, 5, []), bz, bz, (1, 1, 0, (-1), []), (41, 1, 0, 0, []), (5, 1, 0, 1, []), (3, 1, 1, 1, []), (26, 3, 116, 0, []), bz, bz, (3, 1, 1, 1, []), (41, 1, 0, 0, [])]
def cd_X10_sign : List bh_I := [(5, 1, 0, 1, []), (25, 3, 117, 0, []), bz, bz, (5, 1, 0, 1, []), (25, 3, 116, 0, []), bz, bz, (22, 3, 27, 3, []), bz, bz, (5, 1, 0, 1, []), (25, 3, 115, 0, []), bz, bz, (5, 1, 0, 1, []), (25, 3, 117, 0, []), bz, bz, (29, 1, 0, 0, []), (1, 3, 2, 255, []), bz, bz, (10, 1, 3, 0, []), (23, 3, 28, 0, []), bz, bz, (1, 1, 0, (-1), []), (41, 1, 0, 0, [])]
def cd_X10_next : List bh_I := [(5, 1, 0, 1, []), (40, 3, 136, 0, []), bz, bz, (1, 2, 1, 32, []), bz, (22, 3, 22, 1, []), bz, bz, (5, 1, 0, 1, []), (18, 1, 0, 0, []), (25, 3, 117, 0, []), bz, bz, (1, 1, 0, 1, []), (10, 1, 0, 0, []), (26, 3, 117, 0, []), bz, bz, (23, 3, 0, 0, []), bz, bz, (5, 1, 0, 1, []), (40, 3, 136, 0, []), bz, bz, (41, 1, 0, 0, [])]
def cd_X10_isRight : List bh_I := [(5, 1, 0, 1, []), (25, 3, 118, 0, []), bz, bz, (1, 1, 0, (-1), []), (22, 3, 12, 1, []), bz, bz, (1, 1, 0, 1, []), (23, 3, 13, 0, []), bz, bz, (1, 1, 0, 0, []), (41, 1, 0, 0, [])]
def cd_X10_fails : List bh_I := [(5, 1, 0, 1, []), (40, 3, 137, 0, []), bz, bz, (21, 3, 17, 0, []), bz, bz, (5, 1, 0, 1, []), (1, 2, 1, 8, []), bz, (3, 1, 2, 1, []), (10, 1, 2, 0, []), (3, 1, 1, 1, []), (10, 1, 0, 0, []), (26, 3, 118, 0, []), bz, bz, (44, 1, 0, 0, [])]
def cd_X10_isDigit : List bh_I := [(5, 1, 0, 1, []), (40, 3, 136, 0, []), bz, bz, (15, 1, 0, 0, []), (2, 3, 1, 48, [101, 1229]), bz, bz, (2, 3, 1, 57, [103, 1230]), bz, bz, (40, 3, 138, 0, []), bz, bz, (41, 1, 0, 0, [])]
def cd_X10_number : List bh_I := [(5, 1, 0, 1, []), (40, 3, 139, 0, []), bz, bz, (19, 1, 0, 0, []), (5, 1, 0, 1, []), (5, 1, 0, 1, []), (25, 3, 117, 0, []), bz, bz, (26, 3, 119, 0, []), bz, bz, (5, 1, 0, 1, []), (40, 3, 137, 0, []), bz, bz, (21, 3, 27, 0, []), bz, bz, (5, 1, 0, 1, []), (40, 3, 140, 0, []), bz, bz, (21, 3, 38, 1, []), bz, bz, (5, 1, 0, 1, []), (1, 1, 0, 1, []), (5, 1, 0, 1, []), (25, 3, 117, 0, []), bz, bz, (40, 3, 141, 0, []), bz, bz, (3, 1, 1, 1, []), (41, 1, 0, 0, []), (1, 1, 0, 0, []), (6, 1, 3, 1, []), (5, 1, 0, 1, []), (40, 3, 140, 0, []), bz, bz, (21, 3, 78, 0, []), bz, bz, (1, 2, 3, 999999, [122, 1231]), bz, (1, 2, 1, 10, []), bz, (3, 1, 3, 1, []), (10, 1, 2, 0, []), (5, 1, 0, 1, []), (40, 3, 136, 0, []), bz, bz, (10, 1, 0, 0, []), (1, 2, 1, 48, []), bz, (10, 1, 1, 0, []), (50, 3, 0, 123, [1232]), bz, bz, (6, 1, 3, 1, []), (5, 1, 0, 1, []), (18, 1, 0, 0, []), (25, 3, 117, 0, []), bz, bz, (1, 1, 0, 1, []), (10, 1, 0, 0, []), (26, 3, 117, 0, []), bz, bz, (23, 3, 40, 0, []), bz, bz, (3, 1, 3, 1, []), (15, 1, 0, 0, []), (3, 1, 1, 1, []), (15, 1, 0, 0, []), (3, 1, 2, 1, []), (15, 1, 0, 0, []), (40, 3, 138, 0, []), bz, bz, (21, 3, 101, 1, []), bz, bz, (5, 1, 0, 1, []), (1, 1, 0, 2, []), (5, 1, 0, 1, []), (25, 3, 119, 0, []), bz, bz, (40, 3, 141, 0, []), bz, bz, (3, 1, 1, 1, []), (41, 1, 0, 0, []), (3, 1, 3, 1, []), (41, 1, 0, 0, [])]
def cd_X10_isWord : List bh_I := [(1, 1, 0, 0, []), (6, 1, 2, 1, []), (5, 1, 0, 1, []), (25, 3, 117, 0, []), bz, bz, (3, 1, 2, 1, []), (10, 1, 0, 0, []), (5, 1, 0, 1, []), (25, 3, 116, 0, []), bz, bz, (22, 3, 45, 3, []), bz, bz, (5, 1, 0, 1, []), (25, 3, 115, 0, []), bz, bz, (5, 1, 0, 1, []), (25, 3, 117, 0, []), bz, bz, (3, 1, 2, 1, []), (10, 1, 0, 0, []), (29, 1, 0, 0, []), (15, 1, 0, 0, []), (2, 3, 1, 97, [129, 1206]), bz, bz, (2, 3, 1, 122, [131, 1207]), bz, bz, (40, 3, 138, 0, []), bz, bz, (21, 3, 45, 0, []), bz, bz, (9, 3, 2, 1, []), bz, bz, (23, 3, 2, 0, []), bz, bz, (3, 1, 2, 1, []), (5, 1, 1, 1, []), (46, 3, 0, 133, [1211]), bz, bz, (22, 3, 57, 1, []), bz, bz, (1, 1, 0, 1, []), (23, 3, 58, 0, []), bz, bz, (1, 1, 0, 0, []), (6, 1, 3, 1, []), (1, 1, 0, 0, []), (6, 2, 4, 0, []), bz, (3, 2, 4, 0, []), bz, (3, 1, 2, 1, []), (22, 3, 105, 3, []), bz, bz, (3, 1, 3, 1, []), (21, 3, 105, 0, []), bz, bz, (5, 1, 0, 1, []), (25, 3, 115, 0, []), bz, bz, (5, 1, 0, 1, []), (25, 3, 117, 0, []), bz, bz, (3, 2, 4, 0, []), bz, (10, 1, 0, 0, []), (29, 1, 0, 0, []), (5, 1, 1, 1, []), (3, 2, 4, 0, []), bz, (47, 3, 0, 138, [1212]), bz, bz, (22, 3, 97, 1, []), bz, bz, (1, 1, 0, 1, []), (23, 3, 98, 0, []), bz, bz, (1, 1, 0, 0, []), (6, 1, 3, 1, []), (9, 3, 4, 1, []), bz, bz, (23, 3, 62, 0, []), bz, bz, (3, 1, 3, 1, []), (41, 1, 0, 0, [])]
def cd_X10_takes : List bh_I := [(5, 1, 0, 1, []), (40, 3, 139, 0, []), bz, bz, (19, 1, 0, 0, []), (5, 1, 0, 1, []), (40, 3, 137, 0, []), bz, bz, (21, 3, 20, 0, []), bz, bz, (5, 1, 0, 1, []), (5, 1, 1, 1, []), (40, 3, 142, 0, []), bz, bz, (21, 3, 22, 1, []), bz, bz, (1, 1, 0, 0, []), (41, 1, 0, 0, []), (5, 1, 0, 1, []), (18, 1, 0, 0, []), (25, 3, 117, 0, []), bz, bz, (5, 1, 1, 1, []), (46, 3, 0, 133, [1211]), bz, bz, (10, 1, 0, 0, []), (26, 3, 117, 0, []), bz, bz, (1, 1, 0, 1, []), (41, 1, 0, 0, [])]
def cd_X10_kindTold : List bh_I := [(5, 1, 0, 1, []), (45, 2, 11, 146, []), bz, (40, 3, 143, 0, []), bz, bz, (21, 3, 13, 0, []), bz, bz, (1, 1, 0, 0, []), (23, 3, 66, 0, []), bz, bz, (5, 1, 0, 1, []), (45, 2, 12, 151, []), bz, (40, 3, 143, 0, []), bz, bz, (21, 3, 26, 0, []), bz, bz, (1, 1, 0, 1, []), (23, 3, 66, 0, []), bz, bz, (5, 1, 0, 1, []), (45, 2, 13, 153, []), bz, (40, 3, 143, 0, []), bz, bz, (21, 3, 39, 0, []), bz, bz, (1, 1, 0, 2, []), (23, 3, 66, 0, []), bz, bz, (5, 1, 0, 1, []), (45, 2, 14, 155, []), bz, (40, 3, 143, 0, []), bz, bz, (21, 3, 52, 0, []), bz, bz, (1, 1, 0, 3, []), (23, 3, 66, 0, []), bz, bz, (5, 1, 0, 1, []), (45, 2, 15, 157, []), bz, (40, 3, 143, 0, []), bz, bz, (21, 3, 65, 0, []), bz, bz, (1, 1, 0, 4, []), (23, 3, 66, 0, []), bz, bz, (1, 1, 0, (-1), []), (6, 1, 1, 1, []), (3, 1, 1, 1, []), (1, 1, 0, (-1), []), (22, 3, 74, 0, []), bz, bz, (3, 1, 1, 1, []), (41, 1, 0, 0, []), (5, 1, 0, 1, []), (45, 2, 16, 159, []), bz, (40, 3, 143, 0, []), bz, bz, (21, 3, 87, 0, []), bz, bz, (1, 1, 0, 5, []), (23, 3, 102, 0, []), bz, bz, (5, 1, 0, 1, []), (45, 2, 17, 161, []), bz, (40, 3, 143, 0, []), bz, bz, (21, 3, 101, 0, []), bz, bz, (1, 2, 1, 6, []), bz, (23, 3, 102, 0, []), bz, bz, (1, 1, 0, (-1), []), (6, 1, 1, 1, []), (3, 1, 1, 1, []), (1, 1, 0, (-1), []), (22, 3, 117, 1, []), bz, bz, (5, 1, 0, 1, []), (1, 1, 0, 1, []), (5, 1, 0, 1, []), (25, 3, 117, 0, []), bz, bz, (40, 3, 141, 0, []), bz, bz, (3, 1, 1, 1, []), (41, 1, 0, 0, [])]
def cd_X10_needs : List bh_I := [(3, 1, 0, 1, []), (21, 3, 8, 1, []), bz, bz, (1, 1, 0, 0, []), (23, 3, 18, 0, []), bz, bz, (3, 1, 0, 1, []), (1, 1, 0, 5, []), (22, 3, 17, 3, []), bz, bz, (1, 1, 0, 1, []), (23, 3, 18, 0, []), bz, bz, (1, 1, 0, 2, []), (41, 1, 0, 0, [])]
def cd_X10_readsHabit : List bh_I := [(5, 1, 0, 1, []), (40, 3, 144, 0, []), bz, bz, (6, 1, 2, 1, []), (1, 1, 0, (-1), []), (6, 1, 3, 1, []), (1, 1, 0, (-1), []), (6, 2, 4, 0, []), bz, (5, 1, 0, 1, []), (40, 3, 137, 0, []), bz, bz, (21, 3, 41, 0, []), bz, bz, (3, 1, 2, 1, []), (40, 3, 145, 0, []), bz, bz, (21, 3, 41, 5, []), bz, bz, (5, 1, 0, 1, []), (3, 1, 2, 1, []), (1, 1, 0, 4, []), (22, 3, 34, 1, []), bz, bz, (1, 1, 0, 1, []), (23, 3, 35, 0, []), bz, bz, (1, 1, 0, 0, []), (1, 2, 1, 15, []), bz, (40, 3, 146, 0, []), bz, bz, (6, 1, 3, 1, []), (5, 1, 0, 1, []), (40, 3, 137, 0, []), bz, bz, (21, 3, 87, 0, []), bz, bz, (3, 1, 2, 1, []), (40, 3, 145, 0, []), bz, bz, (1, 1, 0, 1, []), (22, 3, 87, 5, []), bz, bz, (5, 1, 0, 1, []), (1, 1, 0, 0, []), (1, 2, 1, 15, []), bz, (40, 3, 146, 0, []), bz, bz, (6, 2, 4, 0, []), bz, (5, 1, 0, 1, []), (40, 3, 137, 0, []), bz, bz, (21, 3, 87, 0, []), bz, bz, (3, 1, 3, 1, []), (3, 2, 4, 0, []), bz, (22, 3, 87, 1, []), bz, bz, (5, 1, 0, 1, []), (1, 1, 0, 2, []), (5, 1, 0, 1, []), (25, 3, 119, 0, []), bz, bz, (40, 3, 141, 0, []), bz, bz, (5, 1, 0, 1, []), (25, 3, 110, 0, []), bz, bz, (3, 1, 1, 1, []), (1, 1, 0, 1, []), (10, 1, 0, 0, []), (3, 1, 2, 1, []), (28, 1, 0, 0, []), (5, 1, 0, 1, []), (25, 3, 110, 0, []), bz, bz, (3, 1, 1, 1, []), (1, 1, 0, 2, []), (10, 1, 0, 0, []), (3, 1, 3, 1, []), (28, 1, 0, 0, []), (5, 1, 0, 1, []), (25, 3, 110, 0, []), bz, bz, (3, 1, 1, 1, []), (1, 1, 0, 3, []), (10, 1, 0, 0, []), (3, 2, 4, 0, []), bz, (28, 1, 0, 0, []), (44, 1, 0, 0, [])]
def cd_X10_readsWriter : List bh_I := [(5, 1, 0, 1, []), (25, 3, 110, 0, []), bz, bz, (1, 1, 0, 0, []), (27, 1, 0, 0, []), (1, 2, 1, 12, []), bz, (22, 3, 18, 1, []), bz, bz, (5, 1, 0, 1, []), (1, 1, 0, 3, []), (3, 1, 1, 1, []), (40, 3, 141, 0, []), bz, bz, (44, 1, 0, 0, []), (1, 1, 0, 4, []), (1, 2, 1, 10, []), bz, (5, 1, 0, 1, []), (25, 3, 110, 0, []), bz, bz, (1, 1, 0, 0, []), (27, 1, 0, 0, []), (10, 1, 2, 0, []), (10, 1, 0, 0, []), (6, 1, 2, 1, []), (5, 1, 0, 1, []), (25, 3, 110, 0, []), bz, bz, (3, 1, 2, 1, []), (1, 1, 0, 0, []), (10, 1, 0, 0, []), (5, 1, 0, 1, []), (1, 1, 0, 0, []), (1, 2, 1, 99, []), bz, (40, 3, 146, 0, []), bz, bz, (28, 1, 0, 0, []), (5, 1, 0, 1, []), (40, 3, 137, 0, []), bz, bz, (21, 3, 57, 0, []), bz, bz, (5, 1, 0, 1, []), (3, 1, 2, 1, []), (40, 3, 147, 0, []), bz, bz, (5, 1, 0, 1, []), (25, 3, 110, 0, []), bz, bz, (3, 1, 2, 1, []), (1, 1, 0, 4, []), (10, 1, 0, 0, []), (1, 1, 0, (-1), []), (28, 1, 0, 0, []), (5, 1, 0, 1, []), (45, 2, 18, 176, []), bz, (40, 3, 143, 0, []), bz, bz, (21, 3, 138, 0, []), bz, bz, (5, 1, 0, 1, []), (1, 1, 0, 0, []), (5, 1, 0, 1, []), (25, 3, 110, 0, []), bz, bz, (1, 1, 0, 0, []), (27, 1, 0, 0, []), (1, 1, 0, 1, []), (10, 1, 1, 0, []), (40, 3, 146, 0, []), bz, bz, (6, 1, 3, 1, []), (5, 1, 0, 1, []), (40, 3, 137, 0, []), bz, bz, (21, 3, 129, 0, []), bz, bz, (5, 1, 0, 1, []), (25, 3, 110, 0, []), bz, bz, (1, 1, 0, 4, []), (1, 2, 1, 10, []), bz, (3, 1, 3, 1, []), (10, 1, 2, 0, []), (10, 1, 0, 0, []), (1, 1, 0, 0, []), (10, 1, 0, 0, []), (27, 1, 0, 0, []), (5, 1, 0, 1, []), (25, 3, 110, 0, []), bz, bz, (3, 1, 2, 1, []), (1, 1, 0, 0, []), (10, 1, 0, 0, []), (27, 1, 0, 0, []), (22, 3, 129, 2, []), bz, bz, (5, 1, 0, 1, []), (1, 1, 0, 4, []), (5, 1, 0, 1, []), (25, 3, 119, 0, []), bz, bz, (40, 3, 141, 0, []), bz, bz, (5, 1, 0, 1, []), (25, 3, 110, 0, []), bz, bz, (3, 1, 2, 1, []), (1, 1, 0, 4, []), (10, 1, 0, 0, []), (3, 1, 3, 1, []), (28, 1, 0, 0, []), (5, 1, 0, 1, []), (25, 3, 110, 0, []), bz, bz, (1, 1, 0, 0, []), (20, 1, 0, 0, []), (27, 1, 0, 0, []), (1, 1, 0, 1, []), (10, 1, 0, 0, []), (28, 1, 0, 0, []), (44, 1, 0, 0, [])]
def cd_X10_readsBook : List bh_I := [(5, 1, 0, 1, []), (25, 3, 110, 0, []), bz, bz, (1, 1, 0, 1, []), (27, 1, 0, 0, []), (1, 1, 0, 4, []), (22, 3, 17, 1, []), bz, bz, (5, 1, 0, 1, []), (1, 1, 0, 3, []), (3, 1, 1, 1, []), (40, 3, 141, 0, []), bz, bz, (44, 1, 0, 0, []), (1, 3, 2, 508, []), bz, bz, (1, 2, 1, 9, []), bz, (5, 1, 0, 1, []), (25, 3, 110, 0, []), bz, bz, (1, 1, 0, 1, []), (27, 1, 0, 0, []), (10, 1, 2, 0, []), (10, 1, 0, 0, []), (6, 1, 2, 1, []), (1, 1, 0, 1, []), (6, 1, 3, 1, []), (3, 1, 3, 1, []), (21, 3, 138, 0, []), bz, bz, (5, 1, 0, 1, []), (1, 1, 0, 0, []), (1, 2, 3, 65535, [178, 1257]), bz, (40, 3, 146, 0, []), bz, bz, (6, 2, 4, 0, []), bz, (5, 1, 0, 1, []), (40, 3, 137, 0, []), bz, bz, (21, 3, 73, 0, []), bz, bz, (5, 1, 0, 1, []), (25, 3, 110, 0, []), bz, bz, (3, 1, 2, 1, []), (27, 1, 0, 0, []), (1, 2, 1, 8, []), bz, (22, 3, 73, 1, []), bz, bz, (5, 1, 0, 1, []), (1, 1, 0, 3, []), (5, 1, 0, 1, []), (25, 3, 119, 0, []), bz, bz, (40, 3, 141, 0, []), bz, bz, (5, 1, 0, 1, []), (40, 3, 137, 0, []), bz, bz, (21, 3, 105, 0, []), bz, bz, (5, 1, 0, 1, []), (25, 3, 110, 0, []), bz, bz, (3, 1, 2, 1, []), (20, 1, 0, 0, []), (27, 1, 0, 0, []), (1, 1, 0, 1, []), (10, 1, 0, 0, []), (28, 1, 0, 0, []), (5, 1, 0, 1, []), (25, 3, 110, 0, []), bz, bz, (3, 1, 2, 1, []), (5, 1, 0, 1, []), (25, 3, 110, 0, []), bz, bz, (3, 1, 2, 1, []), (27, 1, 0, 0, []), (10, 1, 0, 0, []), (3, 2, 4, 0, []), bz, (28, 1, 0, 0, []), (5, 1, 0, 1, []), (40, 3, 137, 0, []), bz, bz, (21, 3, 133, 0, []), bz, bz, (5, 1, 0, 1, []), (40, 3, 139, 0, []), bz, bz, (15, 1, 0, 0, []), (2, 3, 1, 48, [101, 1229]), bz, bz, (2, 3, 1, 57, [103, 1230]), bz, bz, (40, 3, 138, 0, []), bz, bz, (21, 3, 133, 0, []), bz, bz, (1, 1, 0, 1, []), (23, 3, 134, 0, []), bz, bz, (1, 1, 0, 0, []), (6, 1, 3, 1, []), (23, 3, 33, 0, []), bz, bz, (5, 1, 0, 1, []), (25, 3, 110, 0, []), bz, bz, (1, 1, 0, 1, []), (20, 1, 0, 0, []), (27, 1, 0, 0, []), (1, 1, 0, 1, []), (10, 1, 0, 0, []), (28, 1, 0, 0, []), (44, 1, 0, 0, [])]
def cd_X10_readsPart : List bh_I := [(5, 1, 0, 1, []), (40, 3, 139, 0, []), bz, bz, (19, 1, 0, 0, []), (5, 1, 0, 1, []), (25, 3, 117, 0, []), bz, bz, (6, 1, 1, 1, []), (5, 1, 0, 1, []), (45, 2, 10, 179, []), bz, (40, 3, 143, 0, []), bz, bz, (21, 3, 27, 0, []), bz, bz, (5, 1, 0, 1, []), (3, 1, 1, 1, []), (40, 3, 148, 0, []), bz, bz, (23, 3, 50, 0, []), bz, bz, (5, 1, 0, 1, []), (45, 2, 19, 184, []), bz, (40, 3, 143, 0, []), bz, bz, (21, 3, 44, 0, []), bz, bz, (5, 1, 0, 1, []), (3, 1, 1, 1, []), (40, 3, 149, 0, []), bz, bz, (23, 3, 50, 0, []), bz, bz, (5, 1, 0, 1, []), (1, 1, 0, 1, []), (3, 1, 1, 1, []), (40, 3, 141, 0, []), bz, bz, (44, 1, 0, 0, [])]
def cd_X10_tell : List bh_I := [(5, 1, 0, 1, []), (1, 1, 0, 0, []), (26, 3, 117, 0, []), bz, bz, (5, 1, 0, 1, []), (1, 1, 0, (-1), []), (26, 3, 118, 0, []), bz, bz, (1, 1, 0, 0, []), (6, 1, 1, 1, []), (3, 1, 1, 1, []), (1, 3, 2, 560, []), bz, bz, (22, 3, 32, 3, []), bz, bz, (5, 1, 0, 1, []), (25, 3, 110, 0, []), bz, bz, (3, 1, 1, 1, []), (1, 1, 0, 0, []), (28, 1, 0, 0, []), (9, 3, 1, 1, []), bz, bz, (23, 3, 12, 0, []), bz, bz, (5, 1, 0, 1, []), (40, 3, 139, 0, []), bz, bz, (1, 1, 0, (-1), []), (22, 3, 44, 0, []), bz, bz, (1, 1, 0, 1, []), (23, 3, 45, 0, []), bz, bz, (1, 1, 0, 0, []), (6, 1, 1, 1, []), (3, 1, 1, 1, []), (21, 3, 92, 0, []), bz, bz, (5, 1, 0, 1, []), (40, 3, 150, 0, []), bz, bz, (5, 1, 0, 1, []), (40, 3, 137, 0, []), bz, bz, (21, 3, 74, 0, []), bz, bz, (5, 1, 0, 1, []), (40, 3, 139, 0, []), bz, bz, (1, 2, 1, 59, []), bz, (22, 3, 74, 1, []), bz, bz, (1, 1, 0, 1, []), (23, 3, 75, 0, []), bz, bz, (1, 1, 0, 0, []), (6, 1, 1, 1, []), (5, 1, 0, 1, []), (18, 1, 0, 0, []), (25, 3, 117, 0, []), bz, bz, (3, 1, 1, 1, []), (40, 3, 151, 0, []), bz, bz, (10, 1, 0, 0, []), (26, 3, 117, 0, []), bz, bz, (23, 3, 46, 0, []), bz, bz, (5, 1, 0, 1, []), (40, 3, 137, 0, []), bz, bz, (21, 3, 116, 0, []), bz, bz, (5, 1, 0, 1, []), (40, 3, 136, 0, []), bz, bz, (1, 1, 0, (-1), []), (22, 3, 116, 0, []), bz, bz, (5, 1, 0, 1, []), (1, 1, 0, 1, []), (5, 1, 0, 1, []), (25, 3, 117, 0, []), bz, bz, (40, 3, 141, 0, []), bz, bz, (5, 1, 0, 1, []), (1, 1, 0, 0, []), (26, 3, 116, 0, []), bz, bz, (5, 1, 0, 1, []), (40, 3, 137, 0, []), bz, bz, (21, 3, 136, 1, []), bz, bz, (1, 2, 1, (-2), []), bz, (5, 1, 0, 1, []), (25, 3, 118, 0, []), bz, bz, (10, 1, 1, 0, []), (41, 1, 0, 0, []), (5, 1, 0, 1, []), (25, 3, 110, 0, []), bz, bz, (1, 1, 0, 0, []), (5, 1, 0, 1, []), (25, 3, 109, 0, []), bz, bz, (1, 1, 0, 0, []), (40, 3, 152, 0, []), bz, bz, (5, 1, 0, 1, []), (1, 1, 0, 0, []), (26, 3, 114, 0, []), bz, bz, (5, 1, 0, 1, []), (25, 3, 109, 0, []), bz, bz, (1, 1, 0, 0, []), (27, 1, 0, 0, []), (41, 1, 0, 0, [])]
def cd_X10_isWriter : List bh_I := [(3, 1, 1, 1, []), (15, 1, 0, 0, []), (2, 1, 0, 0, []), (5, 1, 0, 1, []), (25, 3, 109, 0, []), bz, bz, (1, 1, 0, 0, []), (27, 1, 0, 0, []), (1, 1, 0, 1, []), (10, 1, 1, 0, []), (15, 1, 0, 0, []), (40, 3, 138, 0, []), bz, bz, (41, 1, 0, 0, [])]
def cd_X10_of : List bh_I := [(5, 1, 0, 1, []), (25, 3, 109, 0, []), bz, bz, (1, 1, 0, 4, []), (1, 2, 1, 10, []), bz, (3, 1, 1, 1, []), (10, 1, 2, 0, []), (10, 1, 0, 0, []), (3, 1, 2, 1, []), (10, 1, 0, 0, []), (27, 1, 0, 0, []), (41, 1, 0, 0, [])]
def cd_X10_puts_ : List bh_I := [(5, 1, 0, 1, []), (25, 3, 109, 0, []), bz, bz, (1, 1, 0, 4, []), (1, 2, 1, 10, []), bz, (3, 1, 1, 1, []), (10, 1, 2, 0, []), (10, 1, 0, 0, []), (3, 1, 2, 1, []), (10, 1, 0, 0, []), (3, 1, 3, 1, []), (28, 1, 0, 0, []), (44, 1, 0, 0, [])]
def cd_X10_under : List bh_I := [(5, 1, 0, 1, []), (3, 1, 1, 1, []), (1, 1, 0, 4, []), (40, 3, 153, 0, []), bz, bz, (41, 1, 0, 0, [])]
def cd_X10_isDead : List bh_I := [(5, 1, 0, 1, []), (3, 1, 1, 1, []), (1, 2, 1, 8, []), bz, (40, 3, 153, 0, []), bz, bz, (1, 1, 0, 1, []), (22, 3, 15, 1, []), bz, bz, (1, 1, 0, 1, []), (23, 3, 16, 0, []), bz, bz, (1, 1, 0, 0, []), (41, 1, 0, 0, [])]
def cd_X10_isBook : List bh_I := [(3, 1, 1, 1, []), (15, 1, 0, 0, []), (2, 1, 0, 0, []), (5, 1, 0, 1, []), (25, 3, 109, 0, []), bz, bz, (1, 1, 0, 1, []), (27, 1, 0, 0, []), (1, 1, 0, 1, []), (10, 1, 1, 0, []), (15, 1, 0, 0, []), (40, 3, 138, 0, []), bz, bz, (41, 1, 0, 0, [])]
def cd_X10_pagesOf : List bh_I := [(5, 1, 0, 1, []), (25, 3, 109, 0, []), bz, bz, (1, 3, 2, 508, []), bz, bz, (1, 2, 1, 9, []), bz, (3, 1, 1, 1, []), (10, 1, 2, 0, []), (10, 1, 0, 0, []), (27, 1, 0, 0, []), (41, 1, 0, 0, [])]
def cd_X10_isPage : List bh_I := [(5, 1, 0, 1, []), (3, 1, 1, 1, []), (40, 3, 154, 0, []), bz, bz, (21, 3, 29, 0, []), bz, bz, (3, 1, 2, 1, []), (15, 1, 0, 0, []), (2, 1, 0, 0, []), (5, 1, 0, 1, []), (3, 1, 1, 1, []), (40, 3, 155, 0, []), bz, bz, (1, 1, 0, 1, []), (10, 1, 1, 0, []), (15, 1, 0, 0, []), (40, 3, 138, 0, []), bz, bz, (21, 3, 29, 0, []), bz, bz, (1, 1, 0, 1, []), (23, 3, 30, 0, []), bz, bz, (1, 1, 0, 0, []), (41, 1, 0, 0, [])]
def cd_X10_pageOf : List bh_I := [(5, 1, 0, 1, []), (25, 3, 109, 0, []), bz, bz, (1, 3, 2, 508, []), bz, bz, (1, 2, 1, 9, []), bz, (3, 1, 1, 1, []), (10, 1, 2, 0, []), (10, 1, 0, 0, []), (1, 1, 0, 1, []), (10, 1, 0, 0, []), (3, 1, 2, 1, []), (10, 1, 0, 0, []), (27, 1, 0, 0, []), (41, 1, 0, 0, [])]
def cd_X10_hasStock : List bh_I := [(5, 1, 0, 1, []), (3, 1, 1, 1, []), (1, 2, 1, 9, []), bz, (40, 3, 153, 0, []), bz, bz, (3, 1, 2, 1, []), (40, 3, 156, 0, []), bz, bz, (41, 1, 0, 0, [])]
def cd_X10_stockAt : List bh_I := [(1, 2, 1, 124, []), bz, (1, 2, 1, 8, []), bz, (1, 1, 0, 4, []), (3, 1, 0, 1, []), (10, 1, 2, 0, []), (3, 1, 1, 1, []), (10, 1, 0, 0, []), (10, 1, 2, 0, []), (10, 1, 0, 0, []), (3, 1, 2, 1, []), (10, 1, 0, 0, []), (41, 1, 0, 0, [])]
def cd_X10_hands : List bh_I := [(1, 1, 0, 0, []), (6, 1, 2, 1, []), (3, 1, 1, 1, []), (6, 1, 3, 1, []), (3, 1, 3, 1, []), (1, 1, 0, (-1), []), (22, 3, 28, 0, []), bz, bz, (5, 1, 0, 1, []), (25, 3, 120, 0, []), bz, bz, (3, 1, 2, 1, []), (3, 1, 3, 1, []), (28, 1, 0, 0, []), (9, 3, 2, 1, []), bz, bz, (5, 1, 0, 1, []), (3, 1, 3, 1, []), (40, 3, 157, 0, []), bz, bz, (6, 1, 3, 1, []), (23, 3, 4, 0, []), bz, bz, (3, 1, 2, 1, []), (41, 1, 0, 0, [])]
def cd_X10_handsSet : List bh_I := [(1, 1, 0, 0, []), (6, 1, 2, 1, []), (3, 1, 1, 1, []), (6, 1, 3, 1, []), (3, 1, 3, 1, []), (1, 1, 0, (-1), []), (22, 3, 24, 0, []), bz, bz, (3, 1, 2, 1, []), (1, 1, 0, 1, []), (3, 1, 3, 1, []), (10, 1, 6, 0, []), (10, 1, 4, 0, []), (6, 1, 2, 1, []), (5, 1, 0, 1, []), (3, 1, 3, 1, []), (40, 3, 157, 0, []), bz, bz, (6, 1, 3, 1, []), (23, 3, 4, 0, []), bz, bz, (3, 1, 2, 1, []), (41, 1, 0, 0, [])]
def cd_X10_done : List bh_I := [(3, 1, 0, 1, []), (24, 39, 105, 1, [40, 46, 52, 60, 74, 94]), bz, bz, bz, bz, bz, bz, bz, bz, bz, bz, bz, bz, bz, bz, bz, bz, bz, bz, bz, bz, bz, bz, bz, bz, bz, bz, bz, bz, bz, bz, bz, bz, bz, bz, bz, bz, bz, bz, (3, 1, 3, 1, []), (1, 1, 0, 1, []), (3, 1, 1, 1, []), (10, 1, 6, 0, []), (10, 1, 5, 0, []), (41, 1, 0, 0, []), (3, 1, 3, 1, []), (1, 1, 0, 1, []), (3, 1, 1, 1, []), (10, 1, 6, 0, []), (10, 1, 4, 0, []), (41, 1, 0, 0, []), (3, 1, 3, 1, []), (1, 1, 0, 1, []), (3, 1, 1, 1, []), (10, 1, 6, 0, []), (1, 1, 0, (-1), []), (10, 1, 5, 0, []), (10, 1, 3, 0, []), (41, 1, 0, 0, []), (3, 1, 3, 1, []), (3, 1, 1, 1, []), (10, 1, 6, 0, []), (3, 1, 3, 1, []), (1, 2, 1, 16, []), bz, (3, 1, 1, 1, []), (10, 1, 1, 0, []), (10, 1, 7, 0, []), (10, 1, 4, 0, []), (1, 2, 3, 65535, [178, 1257]), bz, (10, 1, 3, 0, []), (41, 1, 0, 0, []), (3, 1, 3, 1, []), (3, 1, 1, 1, []), (3, 1, 3, 1, []), (3, 1, 2, 1, []), (10, 1, 7, 0, []), (1, 1, 0, 1, []), (10, 1, 3, 0, []), (40, 3, 158, 0, []), bz, bz, (3, 1, 2, 1, []), (3, 1, 3, 1, []), (3, 1, 1, 1, []), (10, 1, 7, 0, []), (1, 1, 0, 1, []), (10, 1, 3, 0, []), (40, 3, 158, 0, []), bz, bz, (41, 1, 0, 0, []), (3, 1, 3, 1, []), (3, 1, 2, 1, []), (3, 1, 3, 1, []), (3, 1, 1, 1, []), (10, 1, 7, 0, []), (1, 1, 0, 1, []), (10, 1, 3, 0, []), (40, 3, 158, 0, []), bz, bz, (41, 1, 0, 0, []), (3, 1, 3, 1, []), (41, 1, 0, 0, [])]
def cd_X10_with : List bh_I := [(3, 1, 0, 1, []), (1, 1, 0, 1, []), (3, 1, 1, 1, []), (10, 1, 6, 0, []), (1, 1, 0, (-1), []), (10, 1, 5, 0, []), (10, 1, 3, 0, []), (3, 1, 2, 1, []), (3, 1, 1, 1, []), (10, 1, 6, 0, []), (10, 1, 4, 0, []), (41, 1, 0, 0, [])]
def cd_X10_habit : List bh_I := [(5, 1, 0, 1, []), (3, 1, 1, 1, []), (1, 1, 0, 1, []), (40, 3, 153, 0, []), bz, bz, (5, 1, 0, 1, []), (3, 1, 1, 1, []), (1, 1, 0, 2, []), (40, 3, 153, 0, []), bz, bz, (5, 1, 0, 1, []), (3, 1, 1, 1, []), (1, 1, 0, 3, []), (40, 3, 153, 0, []), bz, bz, (3, 1, 2, 1, []), (40, 3, 159, 0, []), bz, bz, (41, 1, 0, 0, [])]
def cd_X10_passes : List bh_I := [(5, 1, 0, 1, []), (3, 1, 1, 1, []), (1, 2, 1, 7, []), bz, (40, 3, 153, 0, []), bz, bz, (1, 1, 0, 1, []), (22, 3, 15, 1, []), bz, bz, (3, 1, 2, 1, []), (23, 3, 21, 0, []), bz, bz, (5, 1, 0, 1, []), (3, 1, 1, 1, []), (3, 1, 2, 1, []), (40, 3, 160, 0, []), bz, bz, (41, 1, 0, 0, [])]
def cd_X10_lineOf : List bh_I := [(5, 1, 0, 1, []), (3, 1, 1, 1, []), (40, 3, 161, 0, []), bz, bz, (6, 2, 4, 0, []), bz, (3, 2, 4, 0, []), bz, (1, 1, 0, 1, []), (10, 1, 1, 0, []), (6, 2, 5, 0, []), bz, (5, 1, 0, 1, []), (3, 1, 2, 1, []), (3, 1, 3, 1, []), (40, 3, 162, 0, []), bz, bz, (6, 2, 6, 0, []), bz, (3, 2, 4, 0, []), bz, (1, 1, 0, 1, []), (10, 1, 1, 0, []), (6, 2, 7, 0, []), bz, (3, 2, 7, 0, []), bz, (21, 3, 97, 2, []), bz, bz, (5, 1, 0, 1, []), (5, 1, 0, 1, []), (25, 3, 120, 0, []), bz, bz, (3, 2, 7, 0, []), bz, (27, 1, 0, 0, []), (40, 3, 163, 0, []), bz, bz, (21, 3, 91, 0, []), bz, bz, (3, 2, 7, 0, []), bz, (1, 1, 0, 1, []), (10, 1, 1, 0, []), (6, 2, 5, 0, []), bz, (5, 1, 0, 1, []), (5, 1, 0, 1, []), (25, 3, 120, 0, []), bz, bz, (3, 2, 7, 0, []), bz, (27, 1, 0, 0, []), (3, 1, 2, 1, []), (40, 3, 164, 0, []), bz, bz, (21, 3, 87, 0, []), bz, bz, (5, 1, 0, 1, []), (25, 3, 109, 0, []), bz, bz, (5, 1, 0, 1, []), (25, 3, 120, 0, []), bz, bz, (3, 2, 7, 0, []), bz, (27, 1, 0, 0, []), (3, 1, 2, 1, []), (3, 1, 3, 1, []), (40, 3, 165, 0, []), bz, bz, (27, 1, 0, 0, []), (23, 3, 89, 0, []), bz, bz, (1, 2, 1, (-2), []), bz, (6, 2, 6, 0, []), bz, (9, 3, 7, (-1), []), bz, bz, (23, 3, 27, 0, []), bz, bz, (3, 2, 5, 0, []), bz, (6, 2, 7, 0, []), bz, (3, 2, 7, 0, []), bz, (21, 3, 134, 2, []), bz, bz, (3, 2, 6, 0, []), bz, (1, 2, 1, (-2), []), bz, (22, 3, 134, 0, []), bz, bz, (5, 1, 0, 1, []), (5, 1, 0, 1, []), (25, 3, 120, 0, []), bz, bz, (3, 2, 7, 0, []), bz, (27, 1, 0, 0, []), (3, 2, 6, 0, []), bz, (40, 3, 166, 0, []), bz, bz, (6, 2, 6, 0, []), bz, (9, 3, 7, (-1), []), bz, bz, (23, 3, 101, 0, []), bz, bz, (3, 2, 6, 0, []), bz, (41, 1, 0, 0, [])]
def cd_X10_isAnyDead : List bh_I := [(3, 1, 1, 1, []), (6, 1, 2, 1, []), (3, 1, 2, 1, []), (1, 1, 0, (-1), []), (22, 3, 26, 0, []), bz, bz, (5, 1, 0, 1, []), (3, 1, 2, 1, []), (40, 3, 163, 0, []), bz, bz, (21, 3, 17, 0, []), bz, bz, (1, 1, 0, 1, []), (41, 1, 0, 0, []), (5, 1, 0, 1, []), (3, 1, 2, 1, []), (40, 3, 157, 0, []), bz, bz, (6, 1, 2, 1, []), (23, 3, 2, 0, []), bz, bz, (1, 1, 0, 0, []), (41, 1, 0, 0, [])]
def cd_X10_keepsPast : List bh_I := [(5, 1, 0, 1, []), (25, 3, 114, 0, []), bz, bz, (1, 2, 1, 10, []), bz, (22, 3, 52, 1, []), bz, bz, (1, 3, 2, 560, []), bz, bz, (6, 1, 1, 1, []), (3, 1, 1, 1, []), (1, 3, 2, 5600, []), bz, bz, (22, 3, 42, 3, []), bz, bz, (5, 1, 0, 1, []), (25, 3, 111, 0, []), bz, bz, (3, 1, 1, 1, []), (1, 3, 2, 560, []), bz, bz, (10, 1, 1, 0, []), (5, 1, 0, 1, []), (25, 3, 111, 0, []), bz, bz, (3, 1, 1, 1, []), (27, 1, 0, 0, []), (28, 1, 0, 0, []), (9, 3, 1, 1, []), bz, bz, (23, 3, 13, 0, []), bz, bz, (5, 1, 0, 1, []), (18, 1, 0, 0, []), (25, 3, 114, 0, []), bz, bz, (1, 1, 0, 1, []), (10, 1, 1, 0, []), (26, 3, 114, 0, []), bz, bz, (5, 1, 0, 1, []), (25, 3, 109, 0, []), bz, bz, (1, 1, 0, 0, []), (5, 1, 0, 1, []), (25, 3, 111, 0, []), bz, bz, (1, 3, 2, 560, []), bz, bz, (5, 1, 0, 1, []), (25, 3, 114, 0, []), bz, bz, (10, 1, 2, 0, []), (40, 3, 152, 0, []), bz, bz, (5, 1, 0, 1, []), (18, 1, 0, 0, []), (25, 3, 114, 0, []), bz, bz, (1, 1, 0, 1, []), (10, 1, 0, 0, []), (26, 3, 114, 0, []), bz, bz, (44, 1, 0, 0, [])]
def cd_X10_undo : List bh_I := [(5, 1, 0, 1, []), (25, 3, 114, 0, []), bz, bz, (21, 3, 9, 1, []), bz, bz, (1, 1, 0, (-1), []), (41, 1, 0, 0, []), (5, 1, 0, 1, []), (18, 1, 0, 0, []), (25, 3, 114, 0, []), bz, bz, (1, 1, 0, 1, []), (10, 1, 1, 0, []), (26, 3, 114, 0, []), bz, bz, (5, 1, 0, 1, []), (25, 3, 111, 0, []), bz, bz, (1, 3, 2, 560, []), bz, bz, (5, 1, 0, 1, []), (25, 3, 114, 0, []), bz, bz, (10, 1, 2, 0, []), (5, 1, 0, 1, []), (25, 3, 109, 0, []), bz, bz, (1, 1, 0, 0, []), (40, 3, 152, 0, []), bz, bz, (5, 1, 0, 1, []), (25, 3, 114, 0, []), bz, bz, (41, 1, 0, 0, [])]
def cd_X10_keep : List bh_I := [(3, 1, 1, 1, []), (15, 1, 0, 0, []), (2, 1, 0, 0, []), (2, 1, 0, 1, []), (40, 3, 138, 0, []), bz, bz, (21, 3, 12, 1, []), bz, bz, (1, 1, 0, (-1), []), (41, 1, 0, 0, []), (5, 1, 0, 1, []), (25, 3, 109, 0, []), bz, bz, (1, 1, 0, 0, []), (5, 1, 0, 1, []), (25, 3, 112, 0, []), bz, bz, (1, 3, 2, 560, []), bz, bz, (3, 1, 1, 1, []), (10, 1, 2, 0, []), (40, 3, 152, 0, []), bz, bz, (5, 1, 0, 1, []), (25, 3, 113, 0, []), bz, bz, (3, 1, 1, 1, []), (1, 1, 0, 1, []), (30, 1, 0, 0, []), (5, 1, 0, 1, []), (25, 3, 109, 0, []), bz, bz, (1, 1, 0, 0, []), (27, 1, 0, 0, []), (41, 1, 0, 0, [])]
def cd_X10_back : List bh_I := [(3, 1, 1, 1, []), (15, 1, 0, 0, []), (2, 1, 0, 0, []), (2, 1, 0, 1, []), (40, 3, 138, 0, []), bz, bz, (21, 3, 12, 1, []), bz, bz, (1, 1, 0, (-1), []), (41, 1, 0, 0, []), (5, 1, 0, 1, []), (25, 3, 113, 0, []), bz, bz, (3, 1, 1, 1, []), (29, 1, 0, 0, []), (21, 3, 24, 1, []), bz, bz, (1, 2, 1, (-2), []), bz, (41, 1, 0, 0, []), (5, 1, 0, 1, []), (25, 3, 112, 0, []), bz, bz, (1, 3, 2, 560, []), bz, bz, (3, 1, 1, 1, []), (10, 1, 2, 0, []), (5, 1, 0, 1, []), (25, 3, 109, 0, []), bz, bz, (1, 1, 0, 0, []), (40, 3, 152, 0, []), bz, bz, (5, 1, 0, 1, []), (1, 1, 0, 0, []), (26, 3, 114, 0, []), bz, bz, (5, 1, 0, 1, []), (25, 3, 109, 0, []), bz, bz, (1, 1, 0, 0, []), (27, 1, 0, 0, []), (41, 1, 0, 0, [])]
def cd_X10_hire : List bh_I := [(5, 1, 0, 1, []), (3, 1, 1, 1, []), (40, 3, 167, 0, []), bz, bz, (21, 3, 16, 0, []), bz, bz, (5, 1, 0, 1, []), (3, 1, 2, 1, []), (40, 3, 167, 0, []), bz, bz, (21, 3, 18, 1, []), bz, bz, (1, 1, 0, (-1), []), (41, 1, 0, 0, []), (5, 1, 0, 1, []), (3, 1, 1, 1, []), (40, 3, 163, 0, []), bz, bz, (21, 3, 34, 1, []), bz, bz, (5, 1, 0, 1, []), (3, 1, 2, 1, []), (40, 3, 163, 0, []), bz, bz, (21, 3, 37, 0, []), bz, bz, (1, 2, 1, (-4), []), bz, (41, 1, 0, 0, []), (5, 1, 0, 1, []), (3, 1, 1, 1, []), (40, 3, 157, 0, []), bz, bz, (3, 1, 2, 1, []), (22, 3, 49, 1, []), bz, bz, (1, 2, 1, (-2), []), bz, (41, 1, 0, 0, []), (5, 1, 0, 1, []), (3, 1, 2, 1, []), (1, 1, 0, 0, []), (40, 3, 153, 0, []), bz, bz, (5, 1, 0, 1, []), (3, 1, 1, 1, []), (1, 1, 0, 0, []), (40, 3, 153, 0, []), bz, bz, (22, 3, 67, 2, []), bz, bz, (1, 2, 1, (-3), []), bz, (41, 1, 0, 0, []), (5, 1, 0, 1, []), (40, 3, 168, 0, []), bz, bz, (5, 1, 0, 1, []), (3, 1, 1, 1, []), (1, 1, 0, 4, []), (3, 1, 2, 1, []), (40, 3, 169, 0, []), bz, bz, (5, 1, 0, 1, []), (3, 1, 1, 1, []), (40, 3, 161, 0, []), bz, bz, (41, 1, 0, 0, [])]
def cd_X10_sack : List bh_I := [(5, 1, 0, 1, []), (3, 1, 1, 1, []), (40, 3, 167, 0, []), bz, bz, (21, 3, 10, 1, []), bz, bz, (1, 1, 0, (-1), []), (41, 1, 0, 0, []), (5, 1, 0, 1, []), (3, 1, 1, 1, []), (40, 3, 163, 0, []), bz, bz, (21, 3, 21, 0, []), bz, bz, (1, 2, 1, (-4), []), bz, (41, 1, 0, 0, []), (5, 1, 0, 1, []), (3, 1, 1, 1, []), (40, 3, 157, 0, []), bz, bz, (1, 1, 0, (-1), []), (22, 3, 33, 1, []), bz, bz, (1, 2, 1, (-2), []), bz, (41, 1, 0, 0, []), (5, 1, 0, 1, []), (40, 3, 168, 0, []), bz, bz, (5, 1, 0, 1, []), (3, 1, 1, 1, []), (40, 3, 157, 0, []), bz, bz, (6, 1, 2, 1, []), (5, 1, 0, 1, []), (3, 1, 1, 1, []), (1, 1, 0, 4, []), (1, 1, 0, (-1), []), (40, 3, 169, 0, []), bz, bz, (3, 1, 2, 1, []), (41, 1, 0, 0, [])]
def cd_X10_isHabit : List bh_I := [(3, 1, 0, 1, []), (15, 1, 0, 0, []), (2, 1, 0, 0, []), (2, 3, 1, 6, [257, 1319]), bz, bz, (40, 3, 138, 0, []), bz, bz, (21, 3, 14, 1, []), bz, bz, (1, 1, 0, 0, []), (41, 1, 0, 0, []), (3, 1, 0, 1, []), (40, 3, 145, 0, []), bz, bz, (21, 3, 42, 0, []), bz, bz, (3, 1, 1, 1, []), (15, 1, 0, 0, []), (3, 1, 0, 1, []), (1, 1, 0, 4, []), (22, 3, 32, 1, []), bz, bz, (2, 1, 0, 1, []), (23, 3, 33, 0, []), bz, bz, (2, 1, 0, 0, []), (2, 3, 1, 15, [259, 1320]), bz, bz, (40, 3, 138, 0, []), bz, bz, (21, 3, 46, 0, []), bz, bz, (1, 1, 0, 1, []), (23, 3, 47, 0, []), bz, bz, (1, 1, 0, 0, []), (6, 1, 3, 1, []), (3, 1, 3, 1, []), (21, 3, 81, 0, []), bz, bz, (3, 1, 0, 1, []), (40, 3, 145, 0, []), bz, bz, (1, 1, 0, 2, []), (22, 3, 77, 2, []), bz, bz, (3, 1, 2, 1, []), (15, 1, 0, 0, []), (2, 1, 0, 0, []), (2, 3, 1, 15, [259, 1320]), bz, bz, (40, 3, 138, 0, []), bz, bz, (21, 3, 81, 0, []), bz, bz, (3, 1, 1, 1, []), (3, 1, 2, 1, []), (22, 3, 81, 0, []), bz, bz, (1, 1, 0, 1, []), (23, 3, 82, 0, []), bz, bz, (1, 1, 0, 0, []), (41, 1, 0, 0, [])]
def cd_X10_hasHabit : List bh_I := [(5, 1, 0, 1, []), (3, 1, 1, 1, []), (1, 1, 0, 1, []), (40, 3, 153, 0, []), bz, bz, (3, 1, 2, 1, []), (22, 3, 50, 1, []), bz, bz, (3, 1, 2, 1, []), (40, 3, 145, 0, []), bz, bz, (21, 3, 27, 0, []), bz, bz, (5, 1, 0, 1, []), (3, 1, 1, 1, []), (1, 1, 0, 2, []), (40, 3, 153, 0, []), bz, bz, (3, 1, 3, 1, []), (22, 3, 50, 1, []), bz, bz, (3, 1, 2, 1, []), (40, 3, 145, 0, []), bz, bz, (1, 1, 0, 2, []), (22, 3, 46, 2, []), bz, bz, (5, 1, 0, 1, []), (3, 1, 1, 1, []), (1, 1, 0, 3, []), (40, 3, 153, 0, []), bz, bz, (3, 2, 4, 0, []), bz, (22, 3, 50, 1, []), bz, bz, (1, 1, 0, 1, []), (23, 3, 51, 0, []), bz, bz, (1, 1, 0, 0, []), (41, 1, 0, 0, [])]
def cd_X10_learns : List bh_I := [(5, 1, 0, 1, []), (3, 1, 1, 1, []), (1, 1, 0, 1, []), (3, 1, 2, 1, []), (40, 3, 169, 0, []), bz, bz, (5, 1, 0, 1, []), (3, 1, 1, 1, []), (1, 1, 0, 2, []), (3, 1, 2, 1, []), (40, 3, 145, 0, []), bz, bz, (21, 3, 21, 5, []), bz, bz, (3, 1, 3, 1, []), (23, 3, 22, 0, []), bz, bz, (1, 1, 0, (-1), []), (40, 3, 169, 0, []), bz, bz, (5, 1, 0, 1, []), (3, 1, 1, 1, []), (1, 1, 0, 3, []), (3, 1, 2, 1, []), (40, 3, 145, 0, []), bz, bz, (1, 1, 0, 1, []), (22, 3, 41, 5, []), bz, bz, (3, 2, 4, 0, []), bz, (23, 3, 42, 0, []), bz, bz, (1, 1, 0, (-1), []), (40, 3, 169, 0, []), bz, bz, (44, 1, 0, 0, [])]
def cd_X10_teach : List bh_I := [(5, 1, 0, 1, []), (3, 1, 1, 1, []), (40, 3, 167, 0, []), bz, bz, (21, 3, 18, 0, []), bz, bz, (3, 1, 2, 1, []), (3, 1, 3, 1, []), (3, 2, 4, 0, []), bz, (40, 3, 170, 0, []), bz, bz, (21, 3, 20, 1, []), bz, bz, (1, 1, 0, (-1), []), (41, 1, 0, 0, []), (5, 1, 0, 1, []), (3, 1, 1, 1, []), (40, 3, 163, 0, []), bz, bz, (21, 3, 31, 0, []), bz, bz, (1, 2, 1, (-4), []), bz, (41, 1, 0, 0, []), (5, 1, 0, 1, []), (3, 1, 1, 1, []), (3, 1, 2, 1, []), (3, 1, 3, 1, []), (3, 2, 4, 0, []), bz, (40, 3, 171, 0, []), bz, bz, (21, 3, 46, 0, []), bz, bz, (1, 2, 1, (-2), []), bz, (41, 1, 0, 0, []), (5, 1, 0, 1, []), (40, 3, 168, 0, []), bz, bz, (5, 1, 0, 1, []), (3, 1, 1, 1, []), (1, 1, 0, 1, []), (40, 3, 153, 0, []), bz, bz, (6, 2, 5, 0, []), bz, (5, 1, 0, 1, []), (3, 1, 1, 1, []), (3, 1, 2, 1, []), (3, 1, 3, 1, []), (3, 2, 4, 0, []), bz, (40, 3, 172, 0, []), bz, bz, (3, 2, 5, 0, []), bz, (41, 1, 0, 0, [])]
def cd_X10_goesDown : List bh_I := [(3, 1, 2, 1, []), (6, 2, 5, 0, []), bz, (1, 1, 0, (-1), []), (6, 2, 6, 0, []), bz, (3, 1, 1, 1, []), (6, 2, 7, 0, []), bz, (3, 2, 7, 0, []), bz, (1, 1, 0, (-1), []), (22, 3, 110, 0, []), bz, bz, (5, 1, 0, 1, []), (3, 2, 7, 0, []), bz, (40, 3, 157, 0, []), bz, bz, (1, 1, 0, (-1), []), (22, 3, 29, 1, []), bz, bz, (1, 1, 0, 0, []), (23, 3, 46, 0, []), bz, bz, (3, 2, 4, 0, []), bz, (21, 3, 42, 0, []), bz, bz, (3, 2, 5, 0, []), bz, (1, 2, 1, 10, []), bz, (11, 1, 0, 0, []), (23, 3, 46, 0, []), bz, bz, (3, 2, 5, 0, []), bz, (1, 1, 0, 2, []), (11, 1, 0, 0, []), (6, 2, 8, 0, []), bz, (5, 1, 0, 1, []), (3, 2, 7, 0, []), bz, (3, 1, 3, 1, []), (5, 1, 0, 1, []), (3, 2, 7, 0, []), bz, (3, 1, 3, 1, []), (40, 3, 153, 0, []), bz, bz, (3, 2, 5, 0, []), bz, (10, 1, 0, 0, []), (3, 2, 8, 0, []), bz, (10, 1, 1, 0, []), (40, 3, 169, 0, []), bz, bz, (3, 2, 6, 0, []), bz, (1, 1, 0, (-1), []), (22, 3, 82, 1, []), bz, bz, (3, 2, 5, 0, []), bz, (3, 2, 8, 0, []), bz, (10, 1, 1, 0, []), (23, 3, 84, 0, []), bz, bz, (3, 2, 6, 0, []), bz, (6, 2, 6, 0, []), bz, (5, 1, 0, 1, []), (3, 2, 5, 0, []), bz, (3, 2, 8, 0, []), bz, (10, 1, 1, 0, []), (26, 3, 121, 0, []), bz, bz, (3, 2, 8, 0, []), bz, (6, 2, 5, 0, []), bz, (5, 1, 0, 1, []), (3, 2, 7, 0, []), bz, (40, 3, 157, 0, []), bz, bz, (6, 2, 7, 0, []), bz, (23, 3, 9, 0, []), bz, bz, (3, 2, 6, 0, []), bz, (41, 1, 0, 0, [])]
def cd_X10_praise : List bh_I := [(5, 1, 0, 1, []), (3, 1, 1, 1, []), (40, 3, 167, 0, []), bz, bz, (21, 3, 20, 0, []), bz, bz, (3, 1, 2, 1, []), (15, 1, 0, 0, []), (2, 1, 0, 1, []), (2, 3, 1, 9999, [276, 1333]), bz, bz, (40, 3, 138, 0, []), bz, bz, (21, 3, 22, 1, []), bz, bz, (1, 1, 0, (-1), []), (41, 1, 0, 0, []), (5, 1, 0, 1, []), (40, 3, 168, 0, []), bz, bz, (5, 1, 0, 1, []), (3, 1, 1, 1, []), (3, 1, 2, 1, []), (1, 1, 0, 5, []), (1, 1, 0, 1, []), (40, 3, 173, 0, []), bz, bz, (41, 1, 0, 0, [])]
def cd_X10_blame : List bh_I := [(5, 1, 0, 1, []), (3, 1, 1, 1, []), (40, 3, 167, 0, []), bz, bz, (21, 3, 20, 0, []), bz, bz, (3, 1, 2, 1, []), (15, 1, 0, 0, []), (2, 1, 0, 1, []), (2, 3, 1, 9999, [276, 1333]), bz, bz, (40, 3, 138, 0, []), bz, bz, (21, 3, 22, 1, []), bz, bz, (1, 1, 0, (-1), []), (41, 1, 0, 0, []), (5, 1, 0, 1, []), (40, 3, 168, 0, []), bz, bz, (5, 1, 0, 1, []), (3, 1, 1, 1, []), (1, 1, 0, 5, []), (5, 1, 0, 1, []), (3, 1, 1, 1, []), (1, 1, 0, 5, []), (40, 3, 153, 0, []), bz, bz, (3, 1, 2, 1, []), (10, 1, 1, 0, []), (40, 3, 169, 0, []), bz, bz, (5, 1, 0, 1, []), (3, 1, 1, 1, []), (1, 1, 0, 5, []), (40, 3, 153, 0, []), bz, bz, (41, 1, 0, 0, [])]
def cd_X10_order : List bh_I := [(5, 1, 0, 1, []), (3, 1, 1, 1, []), (40, 3, 167, 0, []), bz, bz, (21, 3, 20, 0, []), bz, bz, (3, 1, 2, 1, []), (15, 1, 0, 0, []), (2, 1, 0, 1, []), (2, 3, 1, 9999, [276, 1333]), bz, bz, (40, 3, 138, 0, []), bz, bz, (21, 3, 22, 1, []), bz, bz, (1, 1, 0, (-1), []), (41, 1, 0, 0, []), (5, 1, 0, 1, []), (40, 3, 168, 0, []), bz, bz, (5, 1, 0, 1, []), (3, 1, 1, 1, []), (3, 1, 2, 1, []), (1, 2, 1, 6, []), bz, (1, 1, 0, 0, []), (40, 3, 173, 0, []), bz, bz, (6, 1, 3, 1, []), (5, 1, 0, 1, []), (25, 3, 121, 0, []), bz, bz, (41, 1, 0, 0, [])]
def cd_X10_day : List bh_I := [(5, 1, 0, 1, []), (40, 3, 168, 0, []), bz, bz, (3, 1, 1, 1, []), (6, 1, 2, 1, []), (1, 1, 0, 0, []), (6, 1, 3, 1, []), (3, 1, 3, 1, []), (5, 1, 0, 1, []), (25, 3, 109, 0, []), bz, bz, (1, 1, 0, 0, []), (27, 1, 0, 0, []), (22, 3, 86, 3, []), bz, bz, (5, 1, 0, 1, []), (3, 1, 3, 1, []), (40, 3, 157, 0, []), bz, bz, (1, 1, 0, (-1), []), (22, 3, 47, 0, []), bz, bz, (5, 1, 0, 1, []), (25, 3, 122, 0, []), bz, bz, (3, 1, 3, 1, []), (5, 1, 0, 1, []), (5, 1, 0, 1, []), (3, 1, 3, 1, []), (40, 3, 157, 0, []), bz, bz, (1, 2, 1, 7, []), bz, (40, 3, 153, 0, []), bz, bz, (28, 1, 0, 0, []), (23, 3, 80, 0, []), bz, bz, (1, 3, 4, 1103515245, [282, 1350]), bz, bz, (3, 1, 2, 1, []), (10, 1, 2, 0, []), (1, 3, 2, 12345, []), bz, bz, (10, 1, 0, 0, []), (6, 1, 2, 1, []), (5, 1, 0, 1, []), (25, 3, 122, 0, []), bz, bz, (3, 1, 3, 1, []), (3, 1, 2, 1, []), (1, 2, 1, 16, []), bz, (10, 1, 8, 0, []), (1, 1, 0, 3, []), (12, 1, 0, 0, []), (21, 3, 75, 1, []), bz, bz, (1, 1, 0, 1, []), (23, 3, 76, 0, []), bz, bz, (1, 1, 0, 0, []), (40, 3, 151, 0, []), bz, bz, (28, 1, 0, 0, []), (9, 3, 3, 1, []), bz, bz, (23, 3, 8, 0, []), bz, bz, (1, 1, 0, 0, []), (6, 1, 3, 1, []), (3, 1, 3, 1, []), (5, 1, 0, 1, []), (25, 3, 109, 0, []), bz, bz, (1, 1, 0, 0, []), (27, 1, 0, 0, []), (22, 3, 117, 3, []), bz, bz, (5, 1, 0, 1, []), (3, 1, 3, 1, []), (1, 2, 1, 7, []), bz, (5, 1, 0, 1, []), (25, 3, 122, 0, []), bz, bz, (3, 1, 3, 1, []), (27, 1, 0, 0, []), (40, 3, 169, 0, []), bz, bz, (9, 3, 3, 1, []), bz, bz, (23, 3, 88, 0, []), bz, bz, (5, 1, 0, 1, []), (25, 3, 109, 0, []), bz, bz, (1, 1, 0, 3, []), (20, 1, 0, 0, []), (27, 1, 0, 0, []), (1, 1, 0, 1, []), (10, 1, 0, 0, []), (28, 1, 0, 0, []), (5, 1, 0, 1, []), (40, 3, 174, 0, []), bz, bz, (41, 1, 0, 0, [])]
def cd_X10_moods : List bh_I := [(1, 1, 0, 0, []), (6, 1, 1, 1, []), (1, 1, 0, 0, []), (6, 1, 2, 1, []), (3, 1, 2, 1, []), (5, 1, 0, 1, []), (25, 3, 109, 0, []), bz, bz, (1, 1, 0, 0, []), (27, 1, 0, 0, []), (22, 3, 32, 3, []), bz, bz, (3, 1, 1, 1, []), (5, 1, 0, 1, []), (3, 1, 2, 1, []), (1, 2, 1, 7, []), bz, (40, 3, 153, 0, []), bz, bz, (3, 1, 2, 1, []), (10, 1, 6, 0, []), (10, 1, 4, 0, []), (6, 1, 1, 1, []), (9, 3, 2, 1, []), bz, bz, (23, 3, 4, 0, []), bz, bz, (3, 1, 1, 1, []), (41, 1, 0, 0, [])]
def cd_X10_hasAll : List bh_I := [(1, 1, 0, 0, []), (6, 1, 3, 1, []), (3, 1, 3, 1, []), (5, 1, 0, 1, []), (3, 1, 2, 1, []), (40, 3, 155, 0, []), bz, bz, (22, 3, 31, 3, []), bz, bz, (5, 1, 0, 1, []), (3, 1, 1, 1, []), (3, 1, 2, 1, []), (3, 1, 3, 1, []), (40, 3, 175, 0, []), bz, bz, (1, 2, 1, (-2), []), bz, (22, 3, 25, 1, []), bz, bz, (1, 1, 0, 0, []), (41, 1, 0, 0, []), (9, 3, 3, 1, []), bz, bz, (23, 3, 2, 0, []), bz, bz, (1, 1, 0, 1, []), (41, 1, 0, 0, [])]
def cd_X10_store : List bh_I := [(5, 1, 0, 1, []), (3, 1, 1, 1, []), (40, 3, 167, 0, []), bz, bz, (21, 3, 16, 0, []), bz, bz, (5, 1, 0, 1, []), (3, 1, 2, 1, []), (40, 3, 154, 0, []), bz, bz, (21, 3, 18, 1, []), bz, bz, (1, 1, 0, (-1), []), (41, 1, 0, 0, []), (5, 1, 0, 1, []), (3, 1, 1, 1, []), (40, 3, 163, 0, []), bz, bz, (21, 3, 29, 0, []), bz, bz, (1, 2, 1, (-4), []), bz, (41, 1, 0, 0, []), (5, 1, 0, 1, []), (3, 1, 1, 1, []), (3, 1, 2, 1, []), (40, 3, 176, 0, []), bz, bz, (21, 3, 41, 1, []), bz, bz, (1, 2, 1, (-2), []), bz, (41, 1, 0, 0, []), (5, 1, 0, 1, []), (40, 3, 168, 0, []), bz, bz, (1, 1, 0, 0, []), (6, 1, 3, 1, []), (3, 1, 3, 1, []), (5, 1, 0, 1, []), (3, 1, 2, 1, []), (40, 3, 155, 0, []), bz, bz, (22, 3, 80, 3, []), bz, bz, (5, 1, 0, 1, []), (25, 3, 109, 0, []), bz, bz, (3, 1, 1, 1, []), (3, 1, 2, 1, []), (3, 1, 3, 1, []), (40, 3, 165, 0, []), bz, bz, (5, 1, 0, 1, []), (3, 1, 1, 1, []), (3, 1, 2, 1, []), (3, 1, 3, 1, []), (40, 3, 175, 0, []), bz, bz, (28, 1, 0, 0, []), (9, 3, 3, 1, []), bz, bz, (23, 3, 47, 0, []), bz, bz, (5, 1, 0, 1, []), (3, 1, 1, 1, []), (1, 2, 1, 9, []), bz, (5, 1, 0, 1, []), (3, 1, 1, 1, []), (1, 2, 1, 9, []), bz, (40, 3, 153, 0, []), bz, bz, (1, 1, 0, 1, []), (3, 1, 2, 1, []), (10, 1, 6, 0, []), (10, 1, 4, 0, []), (40, 3, 169, 0, []), bz, bz, (5, 1, 0, 1, []), (3, 1, 2, 1, []), (40, 3, 155, 0, []), bz, bz, (41, 1, 0, 0, [])]
def cd_X10_die : List bh_I := [(5, 1, 0, 1, []), (3, 1, 1, 1, []), (40, 3, 167, 0, []), bz, bz, (21, 3, 10, 1, []), bz, bz, (1, 1, 0, (-1), []), (41, 1, 0, 0, []), (5, 1, 0, 1, []), (3, 1, 1, 1, []), (40, 3, 163, 0, []), bz, bz, (21, 3, 21, 0, []), bz, bz, (1, 2, 1, (-4), []), bz, (41, 1, 0, 0, []), (5, 1, 0, 1, []), (40, 3, 168, 0, []), bz, bz, (5, 1, 0, 1, []), (3, 1, 1, 1, []), (1, 2, 1, 8, []), bz, (1, 1, 0, 1, []), (40, 3, 169, 0, []), bz, bz, (1, 1, 0, 0, []), (6, 1, 2, 1, []), (1, 1, 0, 0, []), (6, 1, 3, 1, []), (3, 1, 3, 1, []), (5, 1, 0, 1, []), (25, 3, 109, 0, []), bz, bz, (1, 1, 0, 0, []), (27, 1, 0, 0, []), (22, 3, 114, 3, []), bz, bz, (1, 1, 0, 1, []), (6, 2, 4, 0, []), bz, (1, 1, 0, 0, []), (6, 2, 5, 0, []), bz, (3, 2, 5, 0, []), bz, (5, 1, 0, 1, []), (25, 3, 109, 0, []), bz, bz, (1, 1, 0, 1, []), (27, 1, 0, 0, []), (22, 3, 92, 3, []), bz, bz, (3, 2, 4, 0, []), bz, (21, 3, 83, 0, []), bz, bz, (5, 1, 0, 1, []), (3, 1, 3, 1, []), (3, 2, 5, 0, []), bz, (40, 3, 176, 0, []), bz, bz, (21, 3, 83, 0, []), bz, bz, (1, 1, 0, 1, []), (23, 3, 84, 0, []), bz, bz, (1, 1, 0, 0, []), (6, 2, 4, 0, []), bz, (9, 3, 5, 1, []), bz, bz, (23, 3, 53, 0, []), bz, bz, (3, 1, 2, 1, []), (3, 2, 4, 0, []), bz, (21, 3, 102, 1, []), bz, bz, (1, 1, 0, 1, []), (23, 3, 103, 0, []), bz, bz, (1, 1, 0, 0, []), (40, 3, 151, 0, []), bz, bz, (10, 1, 0, 0, []), (6, 1, 2, 1, []), (9, 3, 3, 1, []), bz, bz, (23, 3, 37, 0, []), bz, bz, (3, 1, 2, 1, []), (41, 1, 0, 0, [])]
def cd_X10_see : List bh_I := [(3, 1, 1, 1, []), (15, 1, 0, 0, []), (2, 1, 0, 0, []), (2, 3, 1, 65535, [292, 1411]), bz, bz, (40, 3, 138, 0, []), bz, bz, (21, 3, 14, 1, []), bz, bz, (1, 1, 0, (-1), []), (41, 1, 0, 0, []), (5, 1, 0, 1, []), (25, 3, 109, 0, []), bz, bz, (1, 1, 0, 2, []), (27, 1, 0, 0, []), (1, 2, 1, 16, []), bz, (22, 3, 28, 1, []), bz, bz, (1, 2, 1, (-3), []), bz, (41, 1, 0, 0, []), (5, 1, 0, 1, []), (40, 3, 168, 0, []), bz, bz, (5, 1, 0, 1, []), (25, 3, 109, 0, []), bz, bz, (1, 3, 2, 544, []), bz, bz, (5, 1, 0, 1, []), (25, 3, 109, 0, []), bz, bz, (1, 1, 0, 2, []), (27, 1, 0, 0, []), (10, 1, 0, 0, []), (3, 1, 1, 1, []), (28, 1, 0, 0, []), (5, 1, 0, 1, []), (25, 3, 109, 0, []), bz, bz, (1, 1, 0, 2, []), (20, 1, 0, 0, []), (27, 1, 0, 0, []), (1, 1, 0, 1, []), (10, 1, 0, 0, []), (28, 1, 0, 0, []), (5, 1, 0, 1, []), (25, 3, 109, 0, []), bz, bz, (1, 1, 0, 2, []), (27, 1, 0, 0, []), (41, 1, 0, 0, [])]
def cd_X10_forget : List bh_I := [(5, 1, 0, 1, []), (25, 3, 109, 0, []), bz, bz, (1, 1, 0, 2, []), (27, 1, 0, 0, []), (21, 3, 11, 1, []), bz, bz, (1, 1, 0, (-1), []), (41, 1, 0, 0, []), (5, 1, 0, 1, []), (40, 3, 168, 0, []), bz, bz, (5, 1, 0, 1, []), (25, 3, 109, 0, []), bz, bz, (1, 1, 0, 2, []), (27, 1, 0, 0, []), (6, 1, 1, 1, []), (5, 1, 0, 1, []), (25, 3, 109, 0, []), bz, bz, (1, 1, 0, 2, []), (1, 1, 0, 0, []), (28, 1, 0, 0, []), (3, 1, 1, 1, []), (41, 1, 0, 0, [])]
def cd_X10_overWhom : List bh_I := [(1, 1, 0, 0, []), (6, 1, 2, 1, []), (1, 1, 0, 0, []), (6, 1, 3, 1, []), (3, 1, 3, 1, []), (5, 1, 0, 1, []), (25, 3, 109, 0, []), bz, bz, (1, 1, 0, 0, []), (27, 1, 0, 0, []), (22, 3, 39, 3, []), bz, bz, (3, 1, 2, 1, []), (5, 1, 0, 1, []), (3, 1, 3, 1, []), (40, 3, 157, 0, []), bz, bz, (3, 1, 1, 1, []), (22, 3, 30, 1, []), bz, bz, (1, 1, 0, 1, []), (3, 1, 3, 1, []), (10, 1, 6, 0, []), (23, 3, 31, 0, []), bz, bz, (1, 1, 0, 0, []), (10, 1, 4, 0, []), (6, 1, 2, 1, []), (9, 3, 3, 1, []), bz, bz, (23, 3, 4, 0, []), bz, bz, (3, 1, 2, 1, []), (41, 1, 0, 0, [])]
def cd_X10_writer : List bh_I := [(5, 1, 0, 1, []), (3, 1, 1, 1, []), (40, 3, 167, 0, []), bz, bz, (21, 3, 12, 1, []), bz, bz, (1, 3, 4, (-2147483648), [296, 1420]), bz, bz, (41, 1, 0, 0, []), (3, 1, 2, 1, []), (24, 67, 211, 0, [80, 87, 94, 117, 141, 147, 153, 166, 173, 181, 189, 197, 205]), bz, bz, bz, bz, bz, bz, bz, bz, bz, bz, bz, bz, bz, bz, bz, bz, bz, bz, bz, bz, bz, bz, bz, bz, bz, bz, bz, bz, bz, bz, bz, bz, bz, bz, bz, bz, bz, bz, bz, bz, bz, bz, bz, bz, bz, bz, bz, bz, bz, bz, bz, bz, bz, bz, bz, bz, bz, bz, bz, bz, bz, bz, bz, bz, bz, bz, (5, 1, 0, 1, []), (3, 1, 1, 1, []), (1, 1, 0, 0, []), (40, 3, 153, 0, []), bz, bz, (41, 1, 0, 0, []), (5, 1, 0, 1, []), (3, 1, 1, 1, []), (1, 1, 0, 1, []), (40, 3, 153, 0, []), bz, bz, (41, 1, 0, 0, []), (5, 1, 0, 1, []), (3, 1, 1, 1, []), (1, 1, 0, 1, []), (40, 3, 153, 0, []), bz, bz, (40, 3, 145, 0, []), bz, bz, (21, 3, 115, 5, []), bz, bz, (5, 1, 0, 1, []), (3, 1, 1, 1, []), (1, 1, 0, 2, []), (40, 3, 153, 0, []), bz, bz, (23, 3, 116, 0, []), bz, bz, (1, 1, 0, (-1), []), (41, 1, 0, 0, []), (5, 1, 0, 1, []), (3, 1, 1, 1, []), (1, 1, 0, 1, []), (40, 3, 153, 0, []), bz, bz, (40, 3, 145, 0, []), bz, bz, (1, 1, 0, 1, []), (22, 3, 139, 5, []), bz, bz, (5, 1, 0, 1, []), (3, 1, 1, 1, []), (1, 1, 0, 3, []), (40, 3, 153, 0, []), bz, bz, (23, 3, 140, 0, []), bz, bz, (1, 1, 0, (-1), []), (41, 1, 0, 0, []), (5, 1, 0, 1, []), (3, 1, 1, 1, []), (40, 3, 157, 0, []), bz, bz, (41, 1, 0, 0, []), (5, 1, 0, 1, []), (3, 1, 1, 1, []), (40, 3, 161, 0, []), bz, bz, (41, 1, 0, 0, []), (5, 1, 0, 1, []), (25, 3, 120, 0, []), bz, bz, (5, 1, 0, 1, []), (3, 1, 1, 1, []), (40, 3, 161, 0, []), bz, bz, (1, 1, 0, 1, []), (10, 1, 1, 0, []), (27, 1, 0, 0, []), (41, 1, 0, 0, []), (5, 1, 0, 1, []), (3, 1, 1, 1, []), (1, 1, 0, 5, []), (40, 3, 153, 0, []), bz, bz, (41, 1, 0, 0, []), (5, 1, 0, 1, []), (3, 1, 1, 1, []), (1, 2, 1, 6, []), bz, (40, 3, 153, 0, []), bz, bz, (41, 1, 0, 0, []), (5, 1, 0, 1, []), (3, 1, 1, 1, []), (1, 2, 1, 7, []), bz, (40, 3, 153, 0, []), bz, bz, (41, 1, 0, 0, []), (5, 1, 0, 1, []), (3, 1, 1, 1, []), (1, 2, 1, 8, []), bz, (40, 3, 153, 0, []), bz, bz, (41, 1, 0, 0, []), (5, 1, 0, 1, []), (3, 1, 1, 1, []), (1, 2, 1, 9, []), bz, (40, 3, 153, 0, []), bz, bz, (41, 1, 0, 0, []), (5, 1, 0, 1, []), (3, 1, 1, 1, []), (40, 3, 177, 0, []), bz, bz, (41, 1, 0, 0, []), (1, 3, 4, (-2147483648), [296, 1420]), bz, bz, (41, 1, 0, 0, [])]
def cd_X10_page : List bh_I := [(5, 1, 0, 1, []), (3, 1, 1, 1, []), (3, 1, 2, 1, []), (40, 3, 178, 0, []), bz, bz, (21, 3, 18, 0, []), bz, bz, (5, 1, 0, 1, []), (3, 1, 1, 1, []), (3, 1, 2, 1, []), (40, 3, 162, 0, []), bz, bz, (23, 3, 19, 0, []), bz, bz, (1, 1, 0, (-1), []), (41, 1, 0, 0, [])]
def cd_X10_line : List bh_I := [(5, 1, 0, 1, []), (3, 1, 1, 1, []), (40, 3, 167, 0, []), bz, bz, (21, 3, 27, 0, []), bz, bz, (5, 1, 0, 1, []), (3, 1, 2, 1, []), (3, 1, 3, 1, []), (40, 3, 178, 0, []), bz, bz, (21, 3, 27, 0, []), bz, bz, (5, 1, 0, 1, []), (3, 1, 1, 1, []), (3, 1, 2, 1, []), (3, 1, 3, 1, []), (40, 3, 175, 0, []), bz, bz, (23, 3, 28, 0, []), bz, bz, (1, 1, 0, (-1), []), (41, 1, 0, 0, [])]
def cd_X10_brings : List bh_I := [(5, 1, 0, 1, []), (25, 3, 123, 0, []), bz, bz, (3, 1, 2, 1, []), (5, 1, 0, 1, []), (25, 3, 125, 0, []), bz, bz, (3, 1, 1, 1, []), (27, 1, 0, 0, []), (28, 1, 0, 0, []), (5, 1, 0, 1, []), (25, 3, 124, 0, []), bz, bz, (3, 1, 2, 1, []), (5, 1, 0, 1, []), (25, 3, 126, 0, []), bz, bz, (3, 1, 1, 1, []), (27, 1, 0, 0, []), (28, 1, 0, 0, []), (44, 1, 0, 0, [])]
def cd_X10_traces : List bh_I := [(1, 1, 0, 0, []), (6, 2, 4, 0, []), bz, (3, 2, 4, 0, []), bz, (1, 2, 1, 16, []), bz, (22, 3, 44, 3, []), bz, bz, (5, 1, 0, 1, []), (25, 3, 125, 0, []), bz, bz, (3, 2, 4, 0, []), bz, (5, 1, 0, 1, []), (25, 3, 123, 0, []), bz, bz, (3, 2, 4, 0, []), bz, (27, 1, 0, 0, []), (28, 1, 0, 0, []), (5, 1, 0, 1, []), (25, 3, 126, 0, []), bz, bz, (3, 2, 4, 0, []), bz, (5, 1, 0, 1, []), (25, 3, 124, 0, []), bz, bz, (3, 2, 4, 0, []), bz, (27, 1, 0, 0, []), (28, 1, 0, 0, []), (9, 3, 4, 1, []), bz, bz, (23, 3, 3, 0, []), bz, bz, (5, 1, 0, 1, []), (3, 1, 1, 1, []), (1, 1, 0, 1, []), (40, 3, 153, 0, []), bz, bz, (6, 2, 4, 0, []), bz, (5, 1, 0, 1, []), (3, 1, 1, 1, []), (1, 1, 0, 2, []), (40, 3, 153, 0, []), bz, bz, (6, 2, 5, 0, []), bz, (5, 1, 0, 1, []), (3, 1, 1, 1, []), (1, 1, 0, 3, []), (40, 3, 153, 0, []), bz, bz, (6, 2, 6, 0, []), bz, (3, 2, 4, 0, []), bz, (24, 38, 245, 1, [108, 119, 119, 153, 186, 205]), bz, bz, bz, bz, bz, bz, bz, bz, bz, bz, bz, bz, bz, bz, bz, bz, bz, bz, bz, bz, bz, bz, bz, bz, bz, bz, bz, bz, bz, bz, bz, bz, bz, bz, bz, bz, bz, (5, 1, 0, 1, []), (25, 3, 124, 0, []), bz, bz, (3, 2, 5, 0, []), bz, (3, 1, 1, 1, []), (28, 1, 0, 0, []), (23, 3, 245, 0, []), bz, bz, (5, 1, 0, 1, []), (25, 3, 123, 0, []), bz, bz, (3, 2, 5, 0, []), bz, (1, 1, 0, (-1), []), (28, 1, 0, 0, []), (5, 1, 0, 1, []), (25, 3, 124, 0, []), bz, bz, (3, 2, 5, 0, []), bz, (3, 1, 2, 1, []), (3, 1, 3, 1, []), (22, 3, 142, 0, []), bz, bz, (3, 1, 1, 1, []), (23, 3, 149, 0, []), bz, bz, (5, 1, 0, 1, []), (25, 3, 124, 0, []), bz, bz, (3, 2, 5, 0, []), bz, (27, 1, 0, 0, []), (28, 1, 0, 0, []), (23, 3, 245, 0, []), bz, bz, (1, 1, 0, 0, []), (6, 2, 7, 0, []), bz, (3, 2, 7, 0, []), bz, (1, 2, 1, 16, []), bz, (22, 3, 183, 3, []), bz, bz, (5, 1, 0, 1, []), (3, 2, 7, 0, []), bz, (3, 2, 7, 0, []), bz, (3, 2, 5, 0, []), bz, (10, 1, 0, 0, []), (1, 2, 1, 16, []), bz, (12, 1, 0, 0, []), (40, 3, 179, 0, []), bz, bz, (9, 3, 7, 1, []), bz, bz, (23, 3, 156, 0, []), bz, bz, (23, 3, 245, 0, []), bz, bz, (5, 1, 0, 1, []), (3, 2, 5, 0, []), bz, (3, 2, 6, 0, []), bz, (40, 3, 179, 0, []), bz, bz, (5, 1, 0, 1, []), (3, 2, 6, 0, []), bz, (3, 2, 5, 0, []), bz, (40, 3, 179, 0, []), bz, bz, (23, 3, 245, 0, []), bz, bz, (5, 1, 0, 1, []), (25, 3, 123, 0, []), bz, bz, (3, 2, 6, 0, []), bz, (5, 1, 0, 1, []), (25, 3, 125, 0, []), bz, bz, (3, 2, 5, 0, []), bz, (27, 1, 0, 0, []), (28, 1, 0, 0, []), (5, 1, 0, 1, []), (25, 3, 124, 0, []), bz, bz, (3, 2, 6, 0, []), bz, (3, 1, 2, 1, []), (3, 1, 3, 1, []), (22, 3, 234, 0, []), bz, bz, (3, 1, 1, 1, []), (23, 3, 241, 0, []), bz, bz, (5, 1, 0, 1, []), (25, 3, 124, 0, []), bz, bz, (3, 2, 6, 0, []), bz, (27, 1, 0, 0, []), (28, 1, 0, 0, []), (23, 3, 245, 0, []), bz, bz, (44, 1, 0, 0, [])]
def cd_X10_laysTrace : List bh_I := [(1, 1, 0, 0, []), (6, 2, 4, 0, []), bz, (3, 2, 4, 0, []), bz, (1, 2, 1, 16, []), bz, (22, 3, 33, 3, []), bz, bz, (5, 1, 0, 1, []), (25, 3, 123, 0, []), bz, bz, (3, 2, 4, 0, []), bz, (3, 2, 4, 0, []), bz, (28, 1, 0, 0, []), (5, 1, 0, 1, []), (25, 3, 124, 0, []), bz, bz, (3, 2, 4, 0, []), bz, (1, 1, 0, (-1), []), (28, 1, 0, 0, []), (9, 3, 4, 1, []), bz, bz, (23, 3, 3, 0, []), bz, bz, (5, 1, 0, 1, []), (3, 1, 2, 1, []), (3, 1, 3, 1, []), (40, 3, 162, 0, []), bz, bz, (6, 2, 4, 0, []), bz, (5, 1, 0, 1, []), (3, 1, 1, 1, []), (40, 3, 161, 0, []), bz, bz, (1, 1, 0, 1, []), (10, 1, 1, 0, []), (6, 2, 5, 0, []), bz, (3, 2, 5, 0, []), bz, (21, 3, 115, 2, []), bz, bz, (5, 1, 0, 1, []), (5, 1, 0, 1, []), (25, 3, 120, 0, []), bz, bz, (3, 2, 5, 0, []), bz, (27, 1, 0, 0, []), (1, 2, 1, 7, []), bz, (40, 3, 153, 0, []), bz, bz, (1, 1, 0, 1, []), (22, 3, 75, 1, []), bz, bz, (23, 3, 109, 0, []), bz, bz, (5, 1, 0, 1, []), (5, 1, 0, 1, []), (25, 3, 120, 0, []), bz, bz, (3, 2, 5, 0, []), bz, (27, 1, 0, 0, []), (3, 2, 4, 0, []), bz, (40, 3, 160, 0, []), bz, bz, (6, 2, 6, 0, []), bz, (5, 1, 0, 1, []), (5, 1, 0, 1, []), (25, 3, 120, 0, []), bz, bz, (3, 2, 5, 0, []), bz, (27, 1, 0, 0, []), (3, 2, 4, 0, []), bz, (3, 2, 6, 0, []), bz, (40, 3, 180, 0, []), bz, bz, (3, 2, 6, 0, []), bz, (6, 2, 4, 0, []), bz, (9, 3, 5, (-1), []), bz, bz, (23, 3, 50, 0, []), bz, bz, (44, 1, 0, 0, [])]
def cd_X10_trace : List bh_I := [(5, 1, 0, 1, []), (3, 1, 1, 1, []), (40, 3, 167, 0, []), bz, bz, (21, 3, 41, 0, []), bz, bz, (5, 1, 0, 1, []), (3, 1, 2, 1, []), (3, 1, 3, 1, []), (40, 3, 178, 0, []), bz, bz, (21, 3, 41, 0, []), bz, bz, (3, 2, 4, 0, []), bz, (15, 1, 0, 0, []), (2, 1, 0, 0, []), (2, 3, 1, 15, [259, 1320]), bz, bz, (40, 3, 138, 0, []), bz, bz, (21, 3, 41, 0, []), bz, bz, (3, 2, 5, 0, []), bz, (15, 1, 0, 0, []), (2, 1, 0, 0, []), (2, 1, 0, 1, []), (40, 3, 138, 0, []), bz, bz, (21, 3, 44, 1, []), bz, bz, (1, 2, 1, (-3), []), bz, (41, 1, 0, 0, []), (5, 1, 0, 1, []), (3, 1, 1, 1, []), (40, 3, 181, 0, []), bz, bz, (21, 3, 55, 0, []), bz, bz, (1, 2, 1, (-2), []), bz, (41, 1, 0, 0, []), (5, 1, 0, 1, []), (3, 1, 1, 1, []), (3, 1, 2, 1, []), (3, 1, 3, 1, []), (40, 3, 182, 0, []), bz, bz, (3, 2, 5, 0, []), bz, (21, 3, 77, 1, []), bz, bz, (5, 1, 0, 1, []), (25, 3, 123, 0, []), bz, bz, (3, 2, 4, 0, []), bz, (27, 1, 0, 0, []), (23, 3, 84, 0, []), bz, bz, (5, 1, 0, 1, []), (25, 3, 124, 0, []), bz, bz, (3, 2, 4, 0, []), bz, (27, 1, 0, 0, []), (41, 1, 0, 0, [])]
def cd_X10_own : List bh_I := [(5, 1, 0, 1, []), (3, 1, 1, 1, []), (40, 3, 167, 0, []), bz, bz, (21, 3, 17, 0, []), bz, bz, (5, 1, 0, 1, []), (3, 1, 2, 1, []), (3, 1, 3, 1, []), (40, 3, 178, 0, []), bz, bz, (21, 3, 19, 1, []), bz, bz, (1, 1, 0, (-1), []), (41, 1, 0, 0, []), (5, 1, 0, 1, []), (3, 1, 1, 1, []), (40, 3, 181, 0, []), bz, bz, (21, 3, 30, 0, []), bz, bz, (1, 2, 1, (-2), []), bz, (41, 1, 0, 0, []), (5, 1, 0, 1, []), (3, 1, 1, 1, []), (3, 1, 2, 1, []), (3, 1, 3, 1, []), (40, 3, 182, 0, []), bz, bz, (1, 1, 0, 0, []), (6, 2, 4, 0, []), bz, (1, 1, 0, 0, []), (6, 2, 5, 0, []), bz, (3, 2, 5, 0, []), bz, (1, 2, 1, 16, []), bz, (22, 3, 80, 3, []), bz, bz, (3, 2, 4, 0, []), bz, (5, 1, 0, 1, []), (25, 3, 124, 0, []), bz, bz, (3, 2, 5, 0, []), bz, (27, 1, 0, 0, []), (3, 1, 1, 1, []), (22, 3, 70, 1, []), bz, bz, (1, 1, 0, 1, []), (3, 2, 5, 0, []), bz, (10, 1, 6, 0, []), (23, 3, 71, 0, []), bz, bz, (1, 1, 0, 0, []), (10, 1, 4, 0, []), (6, 2, 4, 0, []), bz, (9, 3, 5, 1, []), bz, bz, (23, 3, 43, 0, []), bz, bz, (3, 2, 4, 0, []), bz, (41, 1, 0, 0, [])]
def cd_X10_pay : List bh_I := [(5, 1, 0, 1, []), (3, 1, 1, 1, []), (40, 3, 167, 0, []), bz, bz, (21, 3, 17, 0, []), bz, bz, (5, 1, 0, 1, []), (3, 1, 2, 1, []), (3, 1, 3, 1, []), (40, 3, 178, 0, []), bz, bz, (21, 3, 19, 1, []), bz, bz, (1, 1, 0, (-1), []), (41, 1, 0, 0, []), (5, 1, 0, 1, []), (3, 1, 1, 1, []), (40, 3, 181, 0, []), bz, bz, (21, 3, 30, 0, []), bz, bz, (1, 2, 1, (-2), []), bz, (41, 1, 0, 0, []), (5, 1, 0, 1, []), (3, 1, 1, 1, []), (3, 1, 2, 1, []), (3, 1, 3, 1, []), (40, 3, 182, 0, []), bz, bz, (5, 1, 0, 1, []), (3, 1, 1, 1, []), (40, 3, 161, 0, []), bz, bz, (6, 2, 4, 0, []), bz, (1, 1, 0, 0, []), (6, 2, 5, 0, []), bz, (1, 1, 0, 0, []), (6, 2, 6, 0, []), bz, (3, 2, 6, 0, []), bz, (3, 2, 4, 0, []), bz, (22, 3, 119, 3, []), bz, bz, (1, 1, 0, 0, []), (6, 2, 7, 0, []), bz, (3, 2, 7, 0, []), bz, (1, 2, 1, 16, []), bz, (22, 3, 103, 3, []), bz, bz, (3, 2, 5, 0, []), bz, (5, 1, 0, 1, []), (25, 3, 124, 0, []), bz, bz, (3, 2, 7, 0, []), bz, (27, 1, 0, 0, []), (5, 1, 0, 1, []), (25, 3, 120, 0, []), bz, bz, (3, 2, 6, 0, []), bz, (27, 1, 0, 0, []), (22, 3, 90, 1, []), bz, bz, (1, 1, 0, 1, []), (23, 3, 91, 0, []), bz, bz, (1, 1, 0, 0, []), (40, 3, 151, 0, []), bz, bz, (10, 1, 0, 0, []), (6, 2, 5, 0, []), bz, (9, 3, 7, 1, []), bz, bz, (23, 3, 60, 0, []), bz, bz, (3, 2, 5, 0, []), bz, (1, 2, 1, 8, []), bz, (22, 3, 113, 2, []), bz, bz, (3, 2, 6, 0, []), bz, (41, 1, 0, 0, []), (9, 3, 6, 1, []), bz, bz, (23, 3, 50, 0, []), bz, bz, (1, 2, 1, (-2), []), bz, (41, 1, 0, 0, [])]
def cd_X10_laysSource : List bh_I := [(1, 1, 0, 0, []), (6, 1, 2, 1, []), (3, 1, 2, 1, []), (1, 2, 1, 16, []), bz, (22, 3, 23, 3, []), bz, bz, (5, 1, 0, 1, []), (25, 3, 127, 0, []), bz, bz, (3, 1, 2, 1, []), (1, 1, 0, 2, []), (3, 1, 2, 1, []), (10, 1, 2, 0, []), (28, 1, 0, 0, []), (9, 3, 2, 1, []), bz, bz, (23, 3, 2, 0, []), bz, bz, (5, 1, 0, 1, []), (3, 1, 1, 1, []), (40, 3, 161, 0, []), bz, bz, (1, 1, 0, 1, []), (10, 1, 1, 0, []), (6, 1, 2, 1, []), (3, 1, 2, 1, []), (21, 3, 93, 2, []), bz, bz, (5, 1, 0, 1, []), (5, 1, 0, 1, []), (25, 3, 120, 0, []), bz, bz, (3, 1, 2, 1, []), (27, 1, 0, 0, []), (1, 2, 1, 7, []), bz, (40, 3, 153, 0, []), bz, bz, (21, 3, 87, 1, []), bz, bz, (5, 1, 0, 1, []), (5, 1, 0, 1, []), (5, 1, 0, 1, []), (25, 3, 120, 0, []), bz, bz, (3, 1, 2, 1, []), (27, 1, 0, 0, []), (1, 1, 0, 1, []), (40, 3, 153, 0, []), bz, bz, (5, 1, 0, 1, []), (5, 1, 0, 1, []), (25, 3, 120, 0, []), bz, bz, (3, 1, 2, 1, []), (27, 1, 0, 0, []), (1, 1, 0, 2, []), (40, 3, 153, 0, []), bz, bz, (5, 1, 0, 1, []), (5, 1, 0, 1, []), (25, 3, 120, 0, []), bz, bz, (3, 1, 2, 1, []), (27, 1, 0, 0, []), (1, 1, 0, 3, []), (40, 3, 153, 0, []), bz, bz, (40, 3, 183, 0, []), bz, bz, (9, 3, 2, (-1), []), bz, bz, (23, 3, 31, 0, []), bz, bz, (44, 1, 0, 0, [])]
def cd_X10_leads : List bh_I := [(1, 1, 0, 0, []), (6, 2, 4, 0, []), bz, (3, 2, 4, 0, []), bz, (1, 2, 1, 16, []), bz, (22, 3, 30, 3, []), bz, bz, (5, 1, 0, 1, []), (25, 3, 128, 0, []), bz, bz, (3, 2, 4, 0, []), bz, (5, 1, 0, 1, []), (25, 3, 127, 0, []), bz, bz, (3, 2, 4, 0, []), bz, (27, 1, 0, 0, []), (28, 1, 0, 0, []), (9, 3, 4, 1, []), bz, bz, (23, 3, 3, 0, []), bz, bz, (3, 1, 1, 1, []), (24, 37, 182, 1, [68, 81, 91, 102, 140, 167]), bz, bz, bz, bz, bz, bz, bz, bz, bz, bz, bz, bz, bz, bz, bz, bz, bz, bz, bz, bz, bz, bz, bz, bz, bz, bz, bz, bz, bz, bz, bz, bz, bz, bz, bz, bz, (5, 1, 0, 1, []), (25, 3, 127, 0, []), bz, bz, (3, 1, 2, 1, []), (20, 1, 0, 0, []), (27, 1, 0, 0, []), (1, 1, 0, 1, []), (10, 1, 5, 0, []), (28, 1, 0, 0, []), (23, 3, 182, 0, []), bz, bz, (5, 1, 0, 1, []), (25, 3, 127, 0, []), bz, bz, (3, 1, 2, 1, []), (1, 1, 0, (-1), []), (28, 1, 0, 0, []), (23, 3, 182, 0, []), bz, bz, (5, 1, 0, 1, []), (25, 3, 127, 0, []), bz, bz, (3, 1, 2, 1, []), (1, 2, 1, (-2), []), bz, (28, 1, 0, 0, []), (23, 3, 182, 0, []), bz, bz, (1, 1, 0, 0, []), (6, 2, 4, 0, []), bz, (3, 2, 4, 0, []), bz, (1, 2, 1, 16, []), bz, (22, 3, 137, 3, []), bz, bz, (5, 1, 0, 1, []), (25, 3, 127, 0, []), bz, bz, (3, 2, 4, 0, []), bz, (3, 1, 2, 1, []), (10, 1, 0, 0, []), (1, 2, 1, 16, []), bz, (12, 1, 0, 0, []), (5, 1, 0, 1, []), (25, 3, 128, 0, []), bz, bz, (3, 2, 4, 0, []), bz, (27, 1, 0, 0, []), (28, 1, 0, 0, []), (9, 3, 4, 1, []), bz, bz, (23, 3, 105, 0, []), bz, bz, (23, 3, 182, 0, []), bz, bz, (5, 1, 0, 1, []), (25, 3, 127, 0, []), bz, bz, (3, 1, 2, 1, []), (5, 1, 0, 1, []), (25, 3, 128, 0, []), bz, bz, (3, 1, 3, 1, []), (27, 1, 0, 0, []), (28, 1, 0, 0, []), (5, 1, 0, 1, []), (25, 3, 127, 0, []), bz, bz, (3, 1, 3, 1, []), (5, 1, 0, 1, []), (25, 3, 128, 0, []), bz, bz, (3, 1, 2, 1, []), (27, 1, 0, 0, []), (28, 1, 0, 0, []), (23, 3, 182, 0, []), bz, bz, (5, 1, 0, 1, []), (25, 3, 127, 0, []), bz, bz, (3, 1, 3, 1, []), (5, 1, 0, 1, []), (25, 3, 128, 0, []), bz, bz, (3, 1, 2, 1, []), (27, 1, 0, 0, []), (28, 1, 0, 0, []), (23, 3, 182, 0, []), bz, bz, (44, 1, 0, 0, [])]
def cd_X10_alike : List bh_I := [(5, 1, 0, 1, []), (3, 1, 1, 1, []), (40, 3, 167, 0, []), bz, bz, (21, 3, 16, 0, []), bz, bz, (5, 1, 0, 1, []), (3, 1, 2, 1, []), (40, 3, 167, 0, []), bz, bz, (21, 3, 18, 1, []), bz, bz, (1, 1, 0, (-1), []), (41, 1, 0, 0, []), (5, 1, 0, 1, []), (3, 1, 1, 1, []), (40, 3, 184, 0, []), bz, bz, (1, 1, 0, 0, []), (6, 1, 3, 1, []), (3, 1, 3, 1, []), (1, 2, 1, 16, []), bz, (22, 3, 49, 3, []), bz, bz, (5, 1, 0, 1, []), (25, 3, 129, 0, []), bz, bz, (3, 1, 3, 1, []), (5, 1, 0, 1, []), (25, 3, 127, 0, []), bz, bz, (3, 1, 3, 1, []), (27, 1, 0, 0, []), (28, 1, 0, 0, []), (9, 3, 3, 1, []), bz, bz, (23, 3, 25, 0, []), bz, bz, (5, 1, 0, 1, []), (3, 1, 2, 1, []), (40, 3, 184, 0, []), bz, bz, (1, 1, 0, 0, []), (6, 1, 3, 1, []), (3, 1, 3, 1, []), (1, 2, 1, 16, []), bz, (22, 3, 85, 3, []), bz, bz, (5, 1, 0, 1, []), (25, 3, 129, 0, []), bz, bz, (3, 1, 3, 1, []), (27, 1, 0, 0, []), (5, 1, 0, 1, []), (25, 3, 127, 0, []), bz, bz, (3, 1, 3, 1, []), (27, 1, 0, 0, []), (22, 3, 79, 0, []), bz, bz, (1, 1, 0, 0, []), (41, 1, 0, 0, []), (9, 3, 3, 1, []), bz, bz, (23, 3, 56, 0, []), bz, bz, (1, 1, 0, 1, []), (41, 1, 0, 0, [])]
def cd_X10_fits : List bh_I := [(3, 1, 1, 1, []), (15, 1, 0, 0, []), (2, 1, 0, 0, []), (2, 3, 1, 65535, [292, 1411]), bz, bz, (40, 3, 138, 0, []), bz, bz, (21, 3, 17, 0, []), bz, bz, (3, 1, 2, 1, []), (1, 1, 0, (-1), []), (22, 3, 19, 3, []), bz, bz, (1, 1, 0, (-1), []), (41, 1, 0, 0, []), (1, 1, 0, 0, []), (6, 1, 3, 1, []), (1, 1, 0, 0, []), (6, 2, 4, 0, []), bz, (3, 2, 4, 0, []), bz, (1, 2, 1, 32, []), bz, (5, 1, 0, 1, []), (25, 3, 109, 0, []), bz, bz, (1, 1, 0, 0, []), (27, 1, 0, 0, []), (10, 1, 2, 0, []), (22, 3, 101, 3, []), bz, bz, (3, 2, 4, 0, []), bz, (1, 2, 1, 8, []), bz, (11, 1, 0, 0, []), (1, 1, 0, 4, []), (12, 1, 0, 0, []), (6, 2, 5, 0, []), bz, (5, 1, 0, 1, []), (3, 2, 5, 0, []), bz, (3, 2, 4, 0, []), bz, (1, 2, 1, 8, []), bz, (12, 1, 0, 0, []), (40, 3, 178, 0, []), bz, bz, (21, 3, 95, 0, []), bz, bz, (5, 1, 0, 1, []), (3, 2, 4, 0, []), bz, (1, 2, 1, 32, []), bz, (11, 1, 0, 0, []), (3, 2, 5, 0, []), bz, (3, 2, 4, 0, []), bz, (1, 2, 1, 8, []), bz, (12, 1, 0, 0, []), (40, 3, 175, 0, []), bz, bz, (3, 1, 1, 1, []), (22, 3, 84, 0, []), bz, bz, (23, 3, 95, 0, []), bz, bz, (3, 1, 3, 1, []), (3, 1, 2, 1, []), (22, 3, 92, 1, []), bz, bz, (3, 2, 4, 0, []), bz, (41, 1, 0, 0, []), (9, 3, 3, 1, []), bz, bz, (9, 3, 4, 1, []), bz, bz, (23, 3, 24, 0, []), bz, bz, (3, 1, 2, 1, []), (1, 1, 0, (-1), []), (22, 3, 110, 1, []), bz, bz, (3, 1, 3, 1, []), (23, 3, 112, 0, []), bz, bz, (1, 2, 1, (-2), []), bz, (41, 1, 0, 0, [])]
def cd_X10_likeliest : List bh_I := [(3, 1, 1, 1, []), (15, 1, 0, 0, []), (2, 1, 0, 0, []), (2, 3, 1, 65535, [292, 1411]), bz, bz, (40, 3, 138, 0, []), bz, bz, (21, 3, 22, 0, []), bz, bz, (3, 1, 2, 1, []), (15, 1, 0, 0, []), (2, 1, 0, 0, []), (2, 1, 0, 1, []), (40, 3, 138, 0, []), bz, bz, (21, 3, 24, 1, []), bz, bz, (1, 1, 0, (-1), []), (41, 1, 0, 0, []), (1, 2, 1, (-2), []), bz, (6, 1, 3, 1, []), (1, 2, 1, (-2), []), bz, (6, 2, 4, 0, []), bz, (1, 1, 0, 0, []), (6, 2, 5, 0, []), bz, (3, 2, 5, 0, []), bz, (1, 2, 1, 32, []), bz, (5, 1, 0, 1, []), (25, 3, 109, 0, []), bz, bz, (1, 1, 0, 0, []), (27, 1, 0, 0, []), (10, 1, 2, 0, []), (22, 3, 139, 3, []), bz, bz, (3, 2, 5, 0, []), bz, (1, 2, 1, 8, []), bz, (11, 1, 0, 0, []), (1, 1, 0, 4, []), (12, 1, 0, 0, []), (6, 2, 6, 0, []), bz, (5, 1, 0, 1, []), (3, 2, 6, 0, []), bz, (3, 2, 5, 0, []), bz, (1, 2, 1, 8, []), bz, (12, 1, 0, 0, []), (40, 3, 178, 0, []), bz, bz, (21, 3, 90, 0, []), bz, bz, (5, 1, 0, 1, []), (3, 2, 5, 0, []), bz, (1, 2, 1, 32, []), bz, (11, 1, 0, 0, []), (3, 2, 6, 0, []), bz, (3, 2, 5, 0, []), bz, (1, 2, 1, 8, []), bz, (12, 1, 0, 0, []), (40, 3, 175, 0, []), bz, bz, (23, 3, 92, 0, []), bz, bz, (1, 2, 1, (-2), []), bz, (6, 2, 7, 0, []), bz, (3, 2, 7, 0, []), bz, (1, 2, 1, (-2), []), bz, (22, 3, 104, 1, []), bz, bz, (23, 3, 133, 0, []), bz, bz, (3, 2, 7, 0, []), bz, (3, 1, 1, 1, []), (10, 1, 5, 0, []), (40, 3, 185, 0, []), bz, bz, (6, 2, 8, 0, []), bz, (3, 1, 3, 1, []), (1, 2, 1, (-2), []), bz, (22, 3, 126, 0, []), bz, bz, (3, 2, 8, 0, []), bz, (3, 2, 4, 0, []), bz, (22, 3, 133, 3, []), bz, bz, (3, 2, 5, 0, []), bz, (6, 1, 3, 1, []), (3, 2, 8, 0, []), bz, (6, 2, 4, 0, []), bz, (9, 3, 5, 1, []), bz, bz, (23, 3, 34, 0, []), bz, bz, (3, 1, 2, 1, []), (21, 3, 147, 1, []), bz, bz, (3, 1, 3, 1, []), (23, 3, 149, 0, []), bz, bz, (3, 2, 4, 0, []), bz, (41, 1, 0, 0, [])]
def cd_X10_matches : List bh_I := [(5, 1, 0, 1, []), (3, 1, 1, 1, []), (40, 3, 167, 0, []), bz, bz, (21, 3, 20, 0, []), bz, bz, (3, 1, 2, 1, []), (15, 1, 0, 0, []), (2, 1, 0, 0, []), (2, 3, 1, 65535, [292, 1411]), bz, bz, (40, 3, 138, 0, []), bz, bz, (21, 3, 24, 1, []), bz, bz, (2, 3, 1, (-1), [324, 1490]), bz, bz, (42, 1, 0, 0, []), (2, 1, 0, 0, []), (7, 1, 3, 1, []), (1, 1, 0, 0, []), (6, 2, 5, 0, []), bz, (3, 2, 5, 0, []), bz, (1, 2, 1, 32, []), bz, (22, 3, 85, 3, []), bz, bz, (5, 1, 0, 1, []), (3, 2, 5, 0, []), bz, (1, 2, 1, 8, []), bz, (11, 1, 0, 0, []), (3, 2, 5, 0, []), bz, (1, 2, 1, 8, []), bz, (12, 1, 0, 0, []), (40, 3, 178, 0, []), bz, bz, (21, 3, 79, 0, []), bz, bz, (5, 1, 0, 1, []), (3, 1, 1, 1, []), (3, 2, 5, 0, []), bz, (1, 2, 1, 8, []), bz, (11, 1, 0, 0, []), (3, 2, 5, 0, []), bz, (1, 2, 1, 8, []), bz, (12, 1, 0, 0, []), (40, 3, 175, 0, []), bz, bz, (3, 1, 2, 1, []), (22, 3, 79, 1, []), bz, bz, (4, 1, 3, 1, []), (2, 1, 0, 1, []), (3, 2, 5, 0, []), bz, (14, 1, 0, 0, []), (13, 1, 2, 0, []), (7, 1, 3, 1, []), (9, 3, 5, 1, []), bz, bz, (23, 3, 29, 0, []), bz, bz, (4, 1, 3, 1, []), (42, 1, 0, 0, [])]
def cd_X10_seen : List bh_I := [(5, 1, 0, 1, []), (25, 3, 109, 0, []), bz, bz, (1, 3, 2, 544, []), bz, bz, (3, 1, 1, 1, []), (10, 1, 0, 0, []), (27, 1, 0, 0, []), (41, 1, 0, 0, [])]
def cd_X10_canTree : List bh_I := [(5, 1, 0, 1, []), (3, 1, 1, 1, []), (3, 1, 2, 1, []), (40, 3, 178, 0, []), bz, bz, (21, 3, 34, 0, []), bz, bz, (5, 1, 0, 1, []), (25, 3, 109, 0, []), bz, bz, (1, 1, 0, 2, []), (27, 1, 0, 0, []), (15, 1, 0, 0, []), (2, 1, 0, 1, []), (5, 1, 0, 1, []), (25, 3, 109, 0, []), bz, bz, (1, 1, 0, 0, []), (27, 1, 0, 0, []), (15, 1, 0, 0, []), (40, 3, 138, 0, []), bz, bz, (21, 3, 34, 0, []), bz, bz, (1, 1, 0, 1, []), (23, 3, 35, 0, []), bz, bz, (1, 1, 0, 0, []), (41, 1, 0, 0, [])]
def cd_X10_choices : List bh_I := [(5, 1, 0, 1, []), (3, 1, 1, 1, []), (5, 1, 0, 1, []), (3, 1, 2, 1, []), (3, 1, 3, 1, []), (40, 3, 162, 0, []), bz, bz, (40, 3, 160, 0, []), bz, bz, (5, 1, 0, 1, []), (3, 1, 1, 1, []), (40, 3, 186, 0, []), bz, bz, (22, 3, 25, 1, []), bz, bz, (1, 3, 2, 4096, []), bz, bz, (23, 3, 26, 0, []), bz, bz, (1, 1, 0, 0, []), (6, 2, 4, 0, []), bz, (1, 1, 0, 0, []), (6, 2, 5, 0, []), bz, (3, 2, 5, 0, []), bz, (5, 1, 0, 1, []), (25, 3, 109, 0, []), bz, bz, (1, 1, 0, 2, []), (27, 1, 0, 0, []), (22, 3, 96, 3, []), bz, bz, (3, 2, 4, 0, []), bz, (5, 1, 0, 1, []), (3, 2, 5, 0, []), bz, (1, 1, 0, 0, []), (40, 3, 153, 0, []), bz, bz, (5, 1, 0, 1, []), (3, 1, 1, 1, []), (1, 1, 0, 0, []), (40, 3, 153, 0, []), bz, bz, (22, 3, 86, 3, []), bz, bz, (5, 1, 0, 1, []), (3, 1, 1, 1, []), (5, 1, 0, 1, []), (3, 2, 5, 0, []), bz, (40, 3, 186, 0, []), bz, bz, (40, 3, 160, 0, []), bz, bz, (5, 1, 0, 1, []), (3, 1, 1, 1, []), (40, 3, 186, 0, []), bz, bz, (22, 3, 86, 1, []), bz, bz, (1, 1, 0, 1, []), (3, 2, 5, 0, []), bz, (10, 1, 6, 0, []), (23, 3, 87, 0, []), bz, bz, (1, 1, 0, 0, []), (10, 1, 4, 0, []), (6, 2, 4, 0, []), bz, (9, 3, 5, 1, []), bz, bz, (23, 3, 31, 0, []), bz, bz, (3, 2, 4, 0, []), bz, (41, 1, 0, 0, [])]
def cd_X10_trees : List bh_I := [(5, 1, 0, 1, []), (3, 1, 1, 1, []), (3, 1, 2, 1, []), (40, 3, 187, 0, []), bz, bz, (21, 3, 13, 1, []), bz, bz, (2, 3, 1, (-1), [324, 1490]), bz, bz, (42, 1, 0, 0, []), (2, 1, 0, 1, []), (7, 1, 3, 1, []), (1, 1, 0, 0, []), (6, 2, 5, 0, []), bz, (3, 2, 5, 0, []), bz, (5, 1, 0, 1, []), (25, 3, 109, 0, []), bz, bz, (1, 1, 0, 2, []), (27, 1, 0, 0, []), (22, 3, 50, 3, []), bz, bz, (4, 1, 3, 1, []), (5, 1, 0, 1, []), (3, 2, 5, 0, []), bz, (3, 1, 1, 1, []), (3, 1, 2, 1, []), (40, 3, 188, 0, []), bz, bz, (40, 3, 185, 0, []), bz, bz, (15, 1, 0, 0, []), (13, 1, 1, 0, []), (7, 1, 3, 1, []), (9, 3, 5, 1, []), bz, bz, (23, 3, 18, 0, []), bz, bz, (4, 1, 3, 1, []), (42, 1, 0, 0, [])]
def cd_X10_under_ : List bh_I := [(5, 1, 0, 1, []), (3, 1, 1, 1, []), (3, 1, 2, 1, []), (40, 3, 187, 0, []), bz, bz, (21, 3, 37, 0, []), bz, bz, (3, 1, 3, 1, []), (15, 1, 0, 0, []), (2, 1, 0, 0, []), (5, 1, 0, 1, []), (25, 3, 109, 0, []), bz, bz, (1, 1, 0, 2, []), (27, 1, 0, 0, []), (1, 1, 0, 1, []), (10, 1, 1, 0, []), (15, 1, 0, 0, []), (40, 3, 138, 0, []), bz, bz, (21, 3, 37, 0, []), bz, bz, (5, 1, 0, 1, []), (3, 1, 3, 1, []), (3, 1, 1, 1, []), (3, 1, 2, 1, []), (40, 3, 188, 0, []), bz, bz, (23, 3, 38, 0, []), bz, bz, (1, 1, 0, (-1), []), (41, 1, 0, 0, [])]
def cd_X10_couldBe : List bh_I := [(3, 1, 3, 1, []), (5, 1, 0, 1, []), (3, 1, 2, 1, []), (40, 3, 155, 0, []), bz, bz, (12, 1, 0, 0, []), (6, 2, 4, 0, []), bz, (5, 1, 0, 1, []), (3, 1, 1, 1, []), (5, 1, 0, 1, []), (3, 1, 2, 1, []), (3, 2, 4, 0, []), bz, (40, 3, 162, 0, []), bz, bz, (40, 3, 160, 0, []), bz, bz, (5, 1, 0, 1, []), (3, 1, 3, 1, []), (40, 3, 186, 0, []), bz, bz, (22, 3, 35, 1, []), bz, bz, (1, 3, 2, 4096, []), bz, bz, (23, 3, 36, 0, []), bz, bz, (1, 1, 0, 0, []), (6, 2, 5, 0, []), bz, (1, 1, 0, 0, []), (6, 2, 6, 0, []), bz, (3, 2, 6, 0, []), bz, (5, 1, 0, 1, []), (25, 3, 109, 0, []), bz, bz, (1, 1, 0, 0, []), (27, 1, 0, 0, []), (22, 3, 125, 3, []), bz, bz, (5, 1, 0, 1, []), (3, 2, 6, 0, []), bz, (1, 1, 0, 0, []), (40, 3, 153, 0, []), bz, bz, (5, 1, 0, 1, []), (3, 1, 1, 1, []), (1, 1, 0, 0, []), (40, 3, 153, 0, []), bz, bz, (22, 3, 80, 3, []), bz, bz, (5, 1, 0, 1, []), (3, 2, 6, 0, []), bz, (3, 1, 2, 1, []), (3, 2, 4, 0, []), bz, (40, 3, 175, 0, []), bz, bz, (23, 3, 82, 0, []), bz, bz, (1, 2, 1, (-2), []), bz, (6, 2, 7, 0, []), bz, (3, 2, 5, 0, []), bz, (3, 2, 7, 0, []), bz, (1, 2, 1, (-2), []), bz, (22, 3, 115, 0, []), bz, bz, (5, 1, 0, 1, []), (3, 1, 1, 1, []), (3, 2, 7, 0, []), bz, (40, 3, 160, 0, []), bz, bz, (5, 1, 0, 1, []), (3, 1, 3, 1, []), (40, 3, 186, 0, []), bz, bz, (22, 3, 115, 1, []), bz, bz, (1, 1, 0, 1, []), (3, 2, 6, 0, []), bz, (10, 1, 6, 0, []), (23, 3, 116, 0, []), bz, bz, (1, 1, 0, 0, []), (10, 1, 4, 0, []), (6, 2, 5, 0, []), bz, (9, 3, 6, 1, []), bz, bz, (23, 3, 41, 0, []), bz, bz, (3, 2, 5, 0, []), bz, (41, 1, 0, 0, [])]
def cd_X10_stretches : List bh_I := [(1, 1, 0, 0, []), (6, 1, 3, 1, []), (1, 1, 0, 0, []), (6, 2, 4, 0, []), bz, (3, 2, 4, 0, []), bz, (5, 1, 0, 1, []), (25, 3, 109, 0, []), bz, bz, (1, 1, 0, 2, []), (27, 1, 0, 0, []), (22, 3, 93, 3, []), bz, bz, (5, 1, 0, 1, []), (3, 1, 1, 1, []), (3, 1, 2, 1, []), (3, 2, 4, 0, []), bz, (40, 3, 189, 0, []), bz, bz, (6, 2, 5, 0, []), bz, (3, 2, 5, 0, []), bz, (21, 3, 34, 1, []), bz, bz, (1, 2, 1, (-2), []), bz, (41, 1, 0, 0, []), (3, 1, 3, 1, []), (21, 3, 68, 5, []), bz, bz, (5, 1, 0, 1, []), (25, 3, 131, 0, []), bz, bz, (3, 1, 3, 1, []), (1, 1, 0, 1, []), (10, 1, 1, 0, []), (27, 1, 0, 0, []), (3, 2, 5, 0, []), bz, (10, 1, 3, 0, []), (21, 3, 68, 0, []), bz, bz, (5, 1, 0, 1, []), (25, 3, 131, 0, []), bz, bz, (3, 1, 3, 1, []), (1, 1, 0, 1, []), (10, 1, 1, 0, []), (20, 1, 0, 0, []), (27, 1, 0, 0, []), (3, 2, 5, 0, []), bz, (10, 1, 3, 0, []), (28, 1, 0, 0, []), (23, 3, 87, 0, []), bz, bz, (5, 1, 0, 1, []), (25, 3, 130, 0, []), bz, bz, (3, 1, 3, 1, []), (3, 2, 4, 0, []), bz, (28, 1, 0, 0, []), (5, 1, 0, 1, []), (25, 3, 131, 0, []), bz, bz, (3, 1, 3, 1, []), (3, 2, 5, 0, []), bz, (28, 1, 0, 0, []), (9, 3, 3, 1, []), bz, bz, (9, 3, 4, 1, []), bz, bz, (23, 3, 5, 0, []), bz, bz, (3, 1, 3, 1, []), (41, 1, 0, 0, [])]
def cd_X10_canBreak : List bh_I := [(5, 1, 0, 1, []), (3, 1, 1, 1, []), (40, 3, 167, 0, []), bz, bz, (21, 3, 29, 0, []), bz, bz, (5, 1, 0, 1, []), (3, 1, 2, 1, []), (40, 3, 154, 0, []), bz, bz, (21, 3, 29, 0, []), bz, bz, (5, 1, 0, 1, []), (25, 3, 109, 0, []), bz, bz, (1, 1, 0, 2, []), (27, 1, 0, 0, []), (21, 3, 29, 5, []), bz, bz, (1, 1, 0, 1, []), (23, 3, 30, 0, []), bz, bz, (1, 1, 0, 0, []), (41, 1, 0, 0, [])]
def cd_X10_breaks : List bh_I := [(5, 1, 0, 1, []), (3, 1, 1, 1, []), (3, 1, 2, 1, []), (40, 3, 190, 0, []), bz, bz, (21, 3, 19, 0, []), bz, bz, (3, 1, 3, 1, []), (15, 1, 0, 0, []), (2, 1, 0, 0, []), (2, 1, 0, 1, []), (40, 3, 138, 0, []), bz, bz, (21, 3, 22, 1, []), bz, bz, (1, 2, 1, (-3), []), bz, (41, 1, 0, 0, []), (5, 1, 0, 1, []), (3, 1, 1, 1, []), (3, 1, 2, 1, []), (40, 3, 191, 0, []), bz, bz, (6, 2, 4, 0, []), bz, (3, 2, 4, 0, []), bz, (1, 2, 1, (-2), []), bz, (22, 3, 40, 1, []), bz, bz, (1, 2, 1, (-2), []), bz, (41, 1, 0, 0, []), (3, 1, 3, 1, []), (21, 3, 51, 1, []), bz, bz, (3, 2, 4, 0, []), bz, (1, 1, 0, 1, []), (10, 1, 1, 0, []), (23, 3, 67, 0, []), bz, bz, (3, 2, 4, 0, []), bz, (1, 1, 0, 1, []), (22, 3, 66, 5, []), bz, bz, (5, 1, 0, 1, []), (25, 3, 130, 0, []), bz, bz, (1, 1, 0, 1, []), (27, 1, 0, 0, []), (23, 3, 67, 0, []), bz, bz, (1, 1, 0, (-1), []), (41, 1, 0, 0, [])]
def cd_X10_between : List bh_I := [(5, 1, 0, 1, []), (3, 1, 1, 1, []), (3, 1, 2, 1, []), (40, 3, 190, 0, []), bz, bz, (21, 3, 13, 0, []), bz, bz, (3, 1, 3, 1, []), (21, 3, 15, 3, []), bz, bz, (1, 1, 0, (-1), []), (41, 1, 0, 0, []), (5, 1, 0, 1, []), (3, 1, 1, 1, []), (3, 1, 2, 1, []), (40, 3, 191, 0, []), bz, bz, (6, 2, 4, 0, []), bz, (3, 1, 3, 1, []), (3, 2, 4, 0, []), bz, (22, 3, 38, 3, []), bz, bz, (5, 1, 0, 1, []), (25, 3, 131, 0, []), bz, bz, (3, 1, 3, 1, []), (27, 1, 0, 0, []), (23, 3, 40, 0, []), bz, bz, (1, 2, 1, (-2), []), bz, (41, 1, 0, 0, [])]
def cd_X10_untangle : List bh_I := [(5, 1, 0, 1, []), (3, 1, 1, 1, []), (40, 3, 167, 0, []), bz, bz, (21, 3, 29, 0, []), bz, bz, (5, 1, 0, 1, []), (3, 1, 2, 1, []), (40, 3, 167, 0, []), bz, bz, (21, 3, 29, 0, []), bz, bz, (3, 1, 1, 1, []), (3, 1, 2, 1, []), (22, 3, 29, 0, []), bz, bz, (5, 1, 0, 1, []), (3, 1, 3, 1, []), (40, 3, 154, 0, []), bz, bz, (21, 3, 33, 1, []), bz, bz, (2, 3, 1, (-1), [324, 1490]), bz, bz, (42, 1, 0, 0, []), (1, 1, 0, 0, []), (6, 2, 5, 0, []), bz, (3, 2, 5, 0, []), bz, (1, 2, 1, 16, []), bz, (22, 3, 70, 4, []), bz, bz, (5, 1, 0, 1, []), (25, 3, 132, 0, []), bz, bz, (3, 2, 5, 0, []), bz, (3, 2, 5, 0, []), bz, (21, 3, 58, 1, []), bz, bz, (1, 1, 0, 1, []), (23, 3, 59, 0, []), bz, bz, (1, 1, 0, 0, []), (40, 3, 151, 0, []), bz, bz, (15, 1, 0, 0, []), (32, 1, 0, 0, []), (9, 3, 5, 1, []), bz, bz, (23, 3, 36, 0, []), bz, bz, (1, 1, 0, 0, []), (6, 2, 5, 0, []), bz, (3, 2, 5, 0, []), bz, (5, 1, 0, 1, []), (25, 3, 109, 0, []), bz, bz, (1, 1, 0, 2, []), (27, 1, 0, 0, []), (22, 3, 210, 3, []), bz, bz, (3, 2, 5, 0, []), bz, (5, 1, 0, 1, []), (3, 1, 3, 1, []), (40, 3, 155, 0, []), bz, bz, (12, 1, 0, 0, []), (6, 2, 6, 0, []), bz, (5, 1, 0, 1, []), (3, 1, 1, 1, []), (3, 1, 3, 1, []), (3, 2, 6, 0, []), bz, (40, 3, 175, 0, []), bz, bz, (5, 1, 0, 1, []), (3, 2, 5, 0, []), bz, (40, 3, 186, 0, []), bz, bz, (22, 3, 115, 1, []), bz, bz, (1, 1, 0, 1, []), (23, 3, 116, 0, []), bz, bz, (1, 1, 0, 0, []), (6, 2, 7, 0, []), bz, (5, 1, 0, 1, []), (3, 1, 2, 1, []), (3, 1, 3, 1, []), (3, 2, 6, 0, []), bz, (40, 3, 175, 0, []), bz, bz, (5, 1, 0, 1, []), (3, 2, 5, 0, []), bz, (40, 3, 186, 0, []), bz, bz, (22, 3, 139, 1, []), bz, bz, (1, 1, 0, 1, []), (23, 3, 140, 0, []), bz, bz, (1, 1, 0, 0, []), (6, 2, 8, 0, []), bz, (1, 2, 1, 16, []), bz, (6, 2, 9, 0, []), bz, (3, 2, 9, 0, []), bz, (21, 3, 204, 2, []), bz, bz, (5, 1, 0, 1, []), (25, 3, 132, 0, []), bz, bz, (3, 2, 9, 0, []), bz, (3, 2, 8, 0, []), bz, (21, 3, 172, 0, []), bz, bz, (5, 1, 0, 1, []), (25, 3, 132, 0, []), bz, bz, (3, 2, 9, 0, []), bz, (31, 1, 0, 0, []), (23, 3, 173, 0, []), bz, bz, (2, 1, 0, 0, []), (3, 2, 7, 0, []), bz, (21, 3, 195, 0, []), bz, bz, (3, 2, 9, 0, []), bz, (21, 3, 195, 5, []), bz, bz, (5, 1, 0, 1, []), (25, 3, 132, 0, []), bz, bz, (3, 2, 9, 0, []), bz, (1, 1, 0, 1, []), (10, 1, 1, 0, []), (31, 1, 0, 0, []), (23, 3, 196, 0, []), bz, bz, (2, 1, 0, 0, []), (13, 1, 0, 0, []), (32, 1, 0, 0, []), (9, 3, 9, (-1), []), bz, bz, (23, 3, 146, 0, []), bz, bz, (9, 3, 5, 1, []), bz, bz, (23, 3, 73, 0, []), bz, bz, (3, 2, 4, 0, []), bz, (15, 1, 0, 0, []), (2, 1, 0, 0, []), (2, 3, 1, 16, [344, 1535]), bz, bz, (40, 3, 138, 0, []), bz, bz, (21, 3, 233, 0, []), bz, bz, (5, 1, 0, 1, []), (25, 3, 132, 0, []), bz, bz, (3, 2, 4, 0, []), bz, (31, 1, 0, 0, []), (23, 3, 234, 0, []), bz, bz, (2, 1, 0, 0, []), (42, 1, 0, 0, [])]
def cd_X10_isSet : List bh_I := [(3, 1, 1, 1, []), (15, 1, 0, 0, []), (2, 1, 0, 0, []), (1, 1, 0, 1, []), (5, 1, 0, 1, []), (25, 3, 109, 0, []), bz, bz, (1, 1, 0, 0, []), (27, 1, 0, 0, []), (10, 1, 6, 0, []), (1, 1, 0, 1, []), (10, 1, 1, 0, []), (15, 1, 0, 0, []), (40, 3, 138, 0, []), bz, bz, (41, 1, 0, 0, [])]
def cd_X10_unlikeOn : List bh_I := [(1, 1, 0, 0, []), (6, 2, 4, 0, []), bz, (1, 1, 0, 0, []), (6, 2, 5, 0, []), bz, (3, 2, 5, 0, []), bz, (5, 1, 0, 1, []), (3, 1, 3, 1, []), (40, 3, 155, 0, []), bz, bz, (22, 3, 54, 3, []), bz, bz, (3, 2, 4, 0, []), bz, (5, 1, 0, 1, []), (3, 1, 1, 1, []), (3, 1, 3, 1, []), (3, 2, 5, 0, []), bz, (40, 3, 175, 0, []), bz, bz, (5, 1, 0, 1, []), (3, 1, 2, 1, []), (3, 1, 3, 1, []), (3, 2, 5, 0, []), bz, (40, 3, 175, 0, []), bz, bz, (22, 3, 44, 0, []), bz, bz, (1, 1, 0, 1, []), (3, 2, 5, 0, []), bz, (10, 1, 6, 0, []), (23, 3, 45, 0, []), bz, bz, (1, 1, 0, 0, []), (10, 1, 4, 0, []), (6, 2, 4, 0, []), bz, (9, 3, 5, 1, []), bz, bz, (23, 3, 6, 0, []), bz, bz, (3, 2, 4, 0, []), bz, (41, 1, 0, 0, [])]
def cd_X10_laysApart : List bh_I := [(1, 1, 0, 0, []), (6, 1, 3, 1, []), (1, 1, 0, 0, []), (6, 2, 4, 0, []), bz, (3, 2, 4, 0, []), bz, (5, 1, 0, 1, []), (25, 3, 109, 0, []), bz, bz, (1, 1, 0, 0, []), (27, 1, 0, 0, []), (22, 3, 74, 3, []), bz, bz, (1, 1, 0, 0, []), (6, 2, 5, 0, []), bz, (3, 2, 5, 0, []), bz, (3, 2, 4, 0, []), bz, (22, 3, 68, 3, []), bz, bz, (3, 1, 2, 1, []), (3, 2, 4, 0, []), bz, (40, 3, 156, 0, []), bz, bz, (21, 3, 62, 0, []), bz, bz, (3, 1, 2, 1, []), (3, 2, 5, 0, []), bz, (40, 3, 156, 0, []), bz, bz, (21, 3, 62, 0, []), bz, bz, (5, 1, 0, 1, []), (25, 3, 133, 0, []), bz, bz, (3, 1, 3, 1, []), (5, 1, 0, 1, []), (3, 2, 4, 0, []), bz, (3, 2, 5, 0, []), bz, (3, 1, 1, 1, []), (40, 3, 192, 0, []), bz, bz, (28, 1, 0, 0, []), (9, 3, 3, 1, []), bz, bz, (9, 3, 5, 1, []), bz, bz, (23, 3, 19, 0, []), bz, bz, (9, 3, 4, 1, []), bz, bz, (23, 3, 5, 0, []), bz, bz, (3, 1, 3, 1, []), (41, 1, 0, 0, [])]
def cd_X10_tells : List bh_I := [(5, 1, 0, 1, []), (3, 1, 1, 1, []), (40, 3, 154, 0, []), bz, bz, (21, 3, 34, 0, []), bz, bz, (5, 1, 0, 1, []), (3, 1, 2, 1, []), (40, 3, 193, 0, []), bz, bz, (21, 3, 34, 0, []), bz, bz, (3, 1, 2, 1, []), (40, 3, 185, 0, []), bz, bz, (1, 1, 0, 2, []), (22, 3, 34, 2, []), bz, bz, (3, 1, 3, 1, []), (15, 1, 0, 0, []), (2, 1, 0, 0, []), (2, 1, 0, 1, []), (40, 3, 138, 0, []), bz, bz, (21, 3, 36, 1, []), bz, bz, (1, 1, 0, (-1), []), (41, 1, 0, 0, []), (5, 1, 0, 1, []), (3, 1, 1, 1, []), (3, 1, 2, 1, []), (40, 3, 194, 0, []), bz, bz, (6, 2, 4, 0, []), bz, (1, 2, 1, (-2), []), bz, (6, 2, 5, 0, []), bz, (1, 1, 0, 1, []), (6, 2, 6, 0, []), bz, (3, 2, 6, 0, []), bz, (1, 1, 0, 1, []), (5, 1, 0, 1, []), (3, 1, 1, 1, []), (40, 3, 155, 0, []), bz, bz, (10, 1, 6, 0, []), (22, 3, 142, 3, []), bz, bz, (1, 1, 0, 1, []), (6, 2, 7, 0, []), bz, (1, 1, 0, 0, []), (6, 2, 8, 0, []), bz, (3, 2, 8, 0, []), bz, (3, 2, 4, 0, []), bz, (22, 3, 107, 3, []), bz, bz, (3, 2, 7, 0, []), bz, (21, 3, 98, 0, []), bz, bz, (5, 1, 0, 1, []), (25, 3, 133, 0, []), bz, bz, (3, 2, 8, 0, []), bz, (27, 1, 0, 0, []), (3, 2, 6, 0, []), bz, (10, 1, 3, 0, []), (21, 3, 98, 0, []), bz, bz, (1, 1, 0, 1, []), (23, 3, 99, 0, []), bz, bz, (1, 1, 0, 0, []), (6, 2, 7, 0, []), bz, (9, 3, 8, 1, []), bz, bz, (23, 3, 69, 0, []), bz, bz, (3, 2, 7, 0, []), bz, (21, 3, 136, 0, []), bz, bz, (3, 2, 5, 0, []), bz, (1, 2, 1, (-2), []), bz, (22, 3, 132, 0, []), bz, bz, (3, 2, 6, 0, []), bz, (40, 3, 185, 0, []), bz, bz, (3, 2, 5, 0, []), bz, (40, 3, 185, 0, []), bz, bz, (22, 3, 136, 3, []), bz, bz, (3, 2, 6, 0, []), bz, (6, 2, 5, 0, []), bz, (9, 3, 6, 1, []), bz, bz, (23, 3, 51, 0, []), bz, bz, (3, 2, 5, 0, []), bz, (1, 2, 1, (-2), []), bz, (22, 3, 154, 0, []), bz, bz, (3, 1, 3, 1, []), (1, 1, 0, 1, []), (22, 3, 159, 1, []), bz, bz, (3, 2, 5, 0, []), bz, (23, 3, 164, 0, []), bz, bz, (3, 2, 5, 0, []), bz, (40, 3, 185, 0, []), bz, bz, (41, 1, 0, 0, [])]
def cd_X10_lineWith : List bh_I := [(3, 2, 6, 0, []), bz, (6, 2, 7, 0, []), bz, (3, 1, 1, 1, []), (1, 1, 0, 1, []), (10, 1, 1, 0, []), (6, 2, 8, 0, []), bz, (3, 2, 8, 0, []), bz, (21, 3, 54, 2, []), bz, bz, (3, 2, 8, 0, []), bz, (3, 1, 2, 1, []), (22, 3, 33, 1, []), bz, bz, (3, 1, 3, 1, []), (3, 2, 4, 0, []), bz, (3, 2, 5, 0, []), bz, (3, 2, 7, 0, []), bz, (40, 3, 159, 0, []), bz, bz, (23, 3, 46, 0, []), bz, bz, (5, 1, 0, 1, []), (5, 1, 0, 1, []), (25, 3, 120, 0, []), bz, bz, (3, 2, 8, 0, []), bz, (27, 1, 0, 0, []), (3, 2, 7, 0, []), bz, (40, 3, 166, 0, []), bz, bz, (6, 2, 7, 0, []), bz, (9, 3, 8, (-1), []), bz, bz, (23, 3, 9, 0, []), bz, bz, (3, 2, 7, 0, []), bz, (41, 1, 0, 0, [])]
def cd_X10_slipsBy : List bh_I := [(5, 1, 0, 1, []), (25, 3, 120, 0, []), bz, bz, (3, 1, 2, 1, []), (27, 1, 0, 0, []), (6, 2, 6, 0, []), bz, (3, 1, 3, 1, []), (1, 1, 0, 4, []), (22, 3, 17, 1, []), bz, bz, (1, 1, 0, 1, []), (23, 3, 18, 0, []), bz, bz, (1, 1, 0, 0, []), (6, 2, 7, 0, []), bz, (3, 1, 3, 1, []), (40, 3, 145, 0, []), bz, bz, (21, 3, 32, 5, []), bz, bz, (1, 2, 1, 15, []), bz, (23, 3, 33, 0, []), bz, bz, (1, 1, 0, 0, []), (6, 2, 8, 0, []), bz, (3, 1, 3, 1, []), (40, 3, 145, 0, []), bz, bz, (1, 1, 0, 1, []), (22, 3, 48, 5, []), bz, bz, (1, 2, 1, 15, []), bz, (23, 3, 49, 0, []), bz, bz, (1, 1, 0, 0, []), (6, 2, 9, 0, []), bz, (3, 2, 7, 0, []), bz, (6, 2, 10, 0, []), bz, (3, 2, 10, 0, []), bz, (3, 2, 8, 0, []), bz, (22, 3, 193, 4, []), bz, bz, (1, 1, 0, 0, []), (6, 2, 11, 0, []), bz, (3, 2, 11, 0, []), bz, (3, 2, 9, 0, []), bz, (22, 3, 187, 4, []), bz, bz, (3, 1, 3, 1, []), (3, 2, 10, 0, []), bz, (3, 2, 11, 0, []), bz, (40, 3, 170, 0, []), bz, bz, (21, 3, 181, 0, []), bz, bz, (5, 1, 0, 1, []), (3, 2, 6, 0, []), bz, (3, 1, 3, 1, []), (3, 2, 10, 0, []), bz, (3, 2, 11, 0, []), bz, (40, 3, 171, 0, []), bz, bz, (21, 3, 181, 1, []), bz, bz, (5, 1, 0, 1, []), (3, 1, 1, 1, []), (3, 1, 2, 1, []), (3, 1, 3, 1, []), (3, 2, 10, 0, []), bz, (3, 2, 11, 0, []), bz, (3, 2, 4, 0, []), bz, (40, 3, 195, 0, []), bz, bz, (3, 2, 5, 0, []), bz, (22, 3, 118, 0, []), bz, bz, (23, 3, 181, 0, []), bz, bz, (5, 1, 0, 1, []), (25, 3, 134, 0, []), bz, bz, (21, 3, 171, 1, []), bz, bz, (5, 1, 0, 1, []), (3, 2, 6, 0, []), bz, (26, 3, 135, 0, []), bz, bz, (5, 1, 0, 1, []), (3, 1, 3, 1, []), (26, 3, 136, 0, []), bz, bz, (5, 1, 0, 1, []), (3, 1, 3, 1, []), (40, 3, 145, 0, []), bz, bz, (21, 3, 149, 5, []), bz, bz, (3, 2, 10, 0, []), bz, (23, 3, 150, 0, []), bz, bz, (1, 1, 0, (-1), []), (26, 3, 137, 0, []), bz, bz, (5, 1, 0, 1, []), (3, 1, 3, 1, []), (40, 3, 145, 0, []), bz, bz, (1, 1, 0, 1, []), (22, 3, 167, 5, []), bz, bz, (3, 2, 11, 0, []), bz, (23, 3, 168, 0, []), bz, bz, (1, 1, 0, (-1), []), (26, 3, 138, 0, []), bz, bz, (5, 1, 0, 1, []), (18, 1, 0, 0, []), (25, 3, 134, 0, []), bz, bz, (1, 1, 0, 1, []), (10, 1, 0, 0, []), (26, 3, 134, 0, []), bz, bz, (9, 3, 11, 1, []), bz, bz, (23, 3, 65, 0, []), bz, bz, (9, 3, 10, 1, []), bz, bz, (23, 3, 55, 0, []), bz, bz, (44, 1, 0, 0, [])]
def cd_X10_slips : List bh_I := [(5, 1, 0, 1, []), (3, 1, 1, 1, []), (40, 3, 167, 0, []), bz, bz, (21, 3, 43, 0, []), bz, bz, (5, 1, 0, 1, []), (3, 1, 2, 1, []), (3, 1, 3, 1, []), (40, 3, 178, 0, []), bz, bz, (21, 3, 43, 0, []), bz, bz, (3, 2, 4, 0, []), bz, (15, 1, 0, 0, []), (2, 1, 0, 0, []), (2, 3, 1, 65535, [292, 1411]), bz, bz, (40, 3, 138, 0, []), bz, bz, (21, 3, 43, 0, []), bz, bz, (3, 2, 5, 0, []), bz, (15, 1, 0, 0, []), (2, 1, 0, 0, []), (2, 3, 1, 4, [374, 1556]), bz, bz, (40, 3, 138, 0, []), bz, bz, (21, 3, 46, 1, []), bz, bz, (1, 2, 1, (-3), []), bz, (41, 1, 0, 0, []), (5, 1, 0, 1, []), (3, 1, 1, 1, []), (40, 3, 181, 0, []), bz, bz, (21, 3, 57, 0, []), bz, bz, (1, 2, 1, (-2), []), bz, (41, 1, 0, 0, []), (5, 1, 0, 1, []), (1, 1, 0, 0, []), (26, 3, 134, 0, []), bz, bz, (5, 1, 0, 1, []), (3, 1, 1, 1, []), (40, 3, 161, 0, []), bz, bz, (6, 2, 6, 0, []), bz, (1, 1, 0, 0, []), (6, 2, 7, 0, []), bz, (3, 2, 7, 0, []), bz, (5, 1, 0, 1, []), (25, 3, 109, 0, []), bz, bz, (1, 1, 0, 0, []), (27, 1, 0, 0, []), (22, 3, 162, 3, []), bz, bz, (1, 1, 0, 0, []), (6, 2, 8, 0, []), bz, (3, 2, 8, 0, []), bz, (3, 2, 6, 0, []), bz, (22, 3, 156, 3, []), bz, bz, (1, 1, 0, 0, []), (6, 2, 9, 0, []), bz, (3, 2, 9, 0, []), bz, (1, 2, 1, 7, []), bz, (22, 3, 150, 3, []), bz, bz, (5, 1, 0, 1, []), (25, 3, 120, 0, []), bz, bz, (3, 2, 8, 0, []), bz, (27, 1, 0, 0, []), (3, 2, 7, 0, []), bz, (22, 3, 150, 1, []), bz, bz, (5, 1, 0, 1, []), (3, 2, 7, 0, []), bz, (1, 2, 1, 7, []), bz, (40, 3, 153, 0, []), bz, bz, (21, 3, 150, 1, []), bz, bz, (5, 1, 0, 1, []), (3, 2, 6, 0, []), bz, (3, 2, 8, 0, []), bz, (3, 2, 9, 0, []), bz, (5, 1, 0, 1, []), (3, 1, 2, 1, []), (3, 1, 3, 1, []), (40, 3, 162, 0, []), bz, bz, (3, 2, 4, 0, []), bz, (40, 3, 196, 0, []), bz, bz, (9, 3, 9, 1, []), bz, bz, (23, 3, 96, 0, []), bz, bz, (9, 3, 8, 1, []), bz, bz, (23, 3, 86, 0, []), bz, bz, (9, 3, 7, 1, []), bz, bz, (23, 3, 72, 0, []), bz, bz, (3, 2, 5, 0, []), bz, (21, 3, 174, 0, []), bz, bz, (5, 1, 0, 1, []), (25, 3, 134, 0, []), bz, bz, (21, 3, 189, 1, []), bz, bz, (3, 2, 5, 0, []), bz, (21, 3, 186, 1, []), bz, bz, (5, 1, 0, 1, []), (25, 3, 134, 0, []), bz, bz, (23, 3, 188, 0, []), bz, bz, (1, 2, 1, (-2), []), bz, (41, 1, 0, 0, []), (3, 2, 5, 0, []), bz, (1, 1, 0, 1, []), (22, 3, 202, 1, []), bz, bz, (5, 1, 0, 1, []), (25, 3, 135, 0, []), bz, bz, (23, 3, 232, 0, []), bz, bz, (3, 2, 5, 0, []), bz, (1, 1, 0, 2, []), (22, 3, 215, 1, []), bz, bz, (5, 1, 0, 1, []), (25, 3, 136, 0, []), bz, bz, (23, 3, 232, 0, []), bz, bz, (3, 2, 5, 0, []), bz, (1, 1, 0, 3, []), (22, 3, 228, 1, []), bz, bz, (5, 1, 0, 1, []), (25, 3, 137, 0, []), bz, bz, (23, 3, 232, 0, []), bz, bz, (5, 1, 0, 1, []), (25, 3, 138, 0, []), bz, bz, (41, 1, 0, 0, [])]
def cd_X10_errorsOf : List bh_I := [(1, 1, 0, 0, []), (6, 2, 4, 0, []), bz, (1, 1, 0, 0, []), (6, 2, 5, 0, []), bz, (3, 2, 5, 0, []), bz, (5, 1, 0, 1, []), (25, 3, 109, 0, []), bz, bz, (1, 1, 0, 0, []), (27, 1, 0, 0, []), (22, 3, 72, 3, []), bz, bz, (5, 1, 0, 1, []), (3, 2, 5, 0, []), bz, (3, 1, 1, 1, []), (3, 1, 2, 1, []), (40, 3, 175, 0, []), bz, bz, (6, 2, 6, 0, []), bz, (3, 2, 4, 0, []), bz, (3, 2, 6, 0, []), bz, (1, 2, 1, (-2), []), bz, (22, 3, 62, 0, []), bz, bz, (3, 2, 6, 0, []), bz, (3, 1, 3, 1, []), (40, 3, 156, 0, []), bz, bz, (5, 1, 0, 1, []), (3, 1, 1, 1, []), (3, 1, 2, 1, []), (40, 3, 162, 0, []), bz, bz, (3, 1, 3, 1, []), (40, 3, 156, 0, []), bz, bz, (22, 3, 62, 0, []), bz, bz, (1, 1, 0, 1, []), (3, 2, 5, 0, []), bz, (10, 1, 6, 0, []), (23, 3, 63, 0, []), bz, bz, (1, 1, 0, 0, []), (10, 1, 4, 0, []), (6, 2, 4, 0, []), bz, (9, 3, 5, 1, []), bz, bz, (23, 3, 6, 0, []), bz, bz, (3, 2, 4, 0, []), bz, (41, 1, 0, 0, [])]
def cd_X10_errors : List bh_I := [(5, 1, 0, 1, []), (3, 1, 1, 1, []), (3, 1, 2, 1, []), (40, 3, 178, 0, []), bz, bz, (21, 3, 31, 0, []), bz, bz, (3, 1, 3, 1, []), (15, 1, 0, 0, []), (2, 1, 0, 0, []), (2, 3, 1, 15, [259, 1320]), bz, bz, (40, 3, 138, 0, []), bz, bz, (21, 3, 31, 0, []), bz, bz, (5, 1, 0, 1, []), (3, 1, 1, 1, []), (3, 1, 2, 1, []), (3, 1, 3, 1, []), (40, 3, 197, 0, []), bz, bz, (23, 3, 32, 0, []), bz, bz, (1, 1, 0, (-1), []), (41, 1, 0, 0, [])]
def cd_X10_isWithin : List bh_I := [(3, 1, 0, 1, []), (3, 1, 1, 1, []), (1, 1, 0, (-1), []), (10, 1, 5, 0, []), (10, 1, 3, 0, []), (21, 3, 12, 1, []), bz, bz, (1, 1, 0, 1, []), (23, 3, 13, 0, []), bz, bz, (1, 1, 0, 0, []), (41, 1, 0, 0, [])]
def cd_X10_clashes : List bh_I := [(1, 1, 0, 0, []), (6, 1, 1, 1, []), (1, 1, 0, 0, []), (6, 1, 2, 1, []), (3, 1, 2, 1, []), (1, 2, 1, 16, []), bz, (22, 3, 92, 3, []), bz, bz, (1, 1, 0, 0, []), (6, 1, 3, 1, []), (3, 1, 3, 1, []), (3, 1, 2, 1, []), (22, 3, 86, 3, []), bz, bz, (3, 1, 1, 1, []), (5, 1, 0, 1, []), (25, 3, 139, 0, []), bz, bz, (3, 1, 2, 1, []), (27, 1, 0, 0, []), (5, 1, 0, 1, []), (25, 3, 139, 0, []), bz, bz, (3, 1, 3, 1, []), (27, 1, 0, 0, []), (10, 1, 3, 0, []), (21, 3, 74, 0, []), bz, bz, (5, 1, 0, 1, []), (25, 3, 139, 0, []), bz, bz, (3, 1, 2, 1, []), (27, 1, 0, 0, []), (5, 1, 0, 1, []), (25, 3, 139, 0, []), bz, bz, (3, 1, 3, 1, []), (27, 1, 0, 0, []), (40, 3, 198, 0, []), bz, bz, (21, 3, 74, 1, []), bz, bz, (5, 1, 0, 1, []), (25, 3, 139, 0, []), bz, bz, (3, 1, 3, 1, []), (27, 1, 0, 0, []), (5, 1, 0, 1, []), (25, 3, 139, 0, []), bz, bz, (3, 1, 2, 1, []), (27, 1, 0, 0, []), (40, 3, 198, 0, []), bz, bz, (21, 3, 74, 1, []), bz, bz, (1, 1, 0, 1, []), (23, 3, 75, 0, []), bz, bz, (1, 1, 0, 0, []), (40, 3, 151, 0, []), bz, bz, (10, 1, 0, 0, []), (6, 1, 1, 1, []), (9, 3, 3, 1, []), bz, bz, (23, 3, 12, 0, []), bz, bz, (9, 3, 2, 1, []), bz, bz, (23, 3, 4, 0, []), bz, bz, (3, 1, 1, 1, []), (41, 1, 0, 0, [])]
def cd_X10_laysUnlike : List bh_I := [(1, 1, 0, 0, []), (6, 1, 1, 1, []), (1, 1, 0, 1, []), (6, 1, 2, 1, []), (3, 1, 2, 1, []), (1, 2, 1, 12, []), bz, (22, 3, 113, 4, []), bz, bz, (1, 1, 0, 0, []), (6, 1, 3, 1, []), (3, 1, 3, 1, []), (1, 2, 1, 16, []), bz, (22, 3, 107, 3, []), bz, bz, (5, 1, 0, 1, []), (25, 3, 139, 0, []), bz, bz, (3, 1, 3, 1, []), (27, 1, 0, 0, []), (40, 3, 185, 0, []), bz, bz, (3, 1, 2, 1, []), (22, 3, 35, 1, []), bz, bz, (1, 1, 0, 1, []), (23, 3, 36, 0, []), bz, bz, (1, 1, 0, 0, []), (6, 2, 4, 0, []), bz, (1, 1, 0, 0, []), (6, 2, 5, 0, []), bz, (3, 2, 5, 0, []), bz, (3, 1, 1, 1, []), (22, 3, 81, 3, []), bz, bz, (3, 2, 4, 0, []), bz, (21, 3, 72, 0, []), bz, bz, (5, 1, 0, 1, []), (25, 3, 140, 0, []), bz, bz, (3, 2, 5, 0, []), bz, (27, 1, 0, 0, []), (5, 1, 0, 1, []), (25, 3, 139, 0, []), bz, bz, (3, 1, 3, 1, []), (27, 1, 0, 0, []), (22, 3, 72, 0, []), bz, bz, (1, 1, 0, 1, []), (23, 3, 73, 0, []), bz, bz, (1, 1, 0, 0, []), (6, 2, 4, 0, []), bz, (9, 3, 5, 1, []), bz, bz, (23, 3, 41, 0, []), bz, bz, (3, 2, 4, 0, []), bz, (21, 3, 101, 0, []), bz, bz, (5, 1, 0, 1, []), (25, 3, 140, 0, []), bz, bz, (3, 1, 1, 1, []), (5, 1, 0, 1, []), (25, 3, 139, 0, []), bz, bz, (3, 1, 3, 1, []), (27, 1, 0, 0, []), (28, 1, 0, 0, []), (9, 3, 1, 1, []), bz, bz, (9, 3, 3, 1, []), bz, bz, (23, 3, 12, 0, []), bz, bz, (9, 3, 2, 1, []), bz, bz, (23, 3, 4, 0, []), bz, bz, (3, 1, 1, 1, []), (41, 1, 0, 0, [])]
def cd_X10_longestRow : List bh_I := [(1, 1, 0, 0, []), (6, 1, 2, 1, []), (1, 1, 0, 0, []), (6, 1, 3, 1, []), (3, 1, 3, 1, []), (3, 1, 1, 1, []), (22, 3, 91, 3, []), bz, bz, (5, 1, 0, 1, []), (25, 3, 141, 0, []), bz, bz, (3, 1, 3, 1, []), (1, 1, 0, 1, []), (28, 1, 0, 0, []), (1, 1, 0, 0, []), (6, 2, 4, 0, []), bz, (3, 2, 4, 0, []), bz, (3, 1, 3, 1, []), (22, 3, 74, 3, []), bz, bz, (5, 1, 0, 1, []), (25, 3, 140, 0, []), bz, bz, (3, 2, 4, 0, []), bz, (27, 1, 0, 0, []), (5, 1, 0, 1, []), (25, 3, 140, 0, []), bz, bz, (3, 1, 3, 1, []), (27, 1, 0, 0, []), (40, 3, 198, 0, []), bz, bz, (21, 3, 68, 0, []), bz, bz, (5, 1, 0, 1, []), (25, 3, 141, 0, []), bz, bz, (3, 1, 3, 1, []), (5, 1, 0, 1, []), (25, 3, 141, 0, []), bz, bz, (3, 1, 3, 1, []), (27, 1, 0, 0, []), (5, 1, 0, 1, []), (25, 3, 141, 0, []), bz, bz, (3, 2, 4, 0, []), bz, (27, 1, 0, 0, []), (1, 1, 0, 1, []), (10, 1, 0, 0, []), (49, 3, 0, 386, [1593]), bz, bz, (28, 1, 0, 0, []), (9, 3, 4, 1, []), bz, bz, (23, 3, 19, 0, []), bz, bz, (3, 1, 2, 1, []), (5, 1, 0, 1, []), (25, 3, 141, 0, []), bz, bz, (3, 1, 3, 1, []), (27, 1, 0, 0, []), (49, 3, 0, 386, [1593]), bz, bz, (6, 1, 2, 1, []), (9, 3, 3, 1, []), bz, bz, (23, 3, 4, 0, []), bz, bz, (3, 1, 2, 1, []), (41, 1, 0, 0, [])]
def cd_X10_nested : List bh_I := [(5, 1, 0, 1, []), (3, 1, 1, 1, []), (3, 1, 2, 1, []), (40, 3, 178, 0, []), bz, bz, (21, 3, 21, 0, []), bz, bz, (3, 1, 3, 1, []), (15, 1, 0, 0, []), (2, 1, 0, 0, []), (2, 3, 1, 3, [389, 1577]), bz, bz, (40, 3, 138, 0, []), bz, bz, (21, 3, 23, 1, []), bz, bz, (1, 1, 0, (-1), []), (41, 1, 0, 0, []), (1, 1, 0, 0, []), (6, 2, 4, 0, []), bz, (3, 2, 4, 0, []), bz, (1, 2, 1, 16, []), bz, (22, 3, 54, 3, []), bz, bz, (5, 1, 0, 1, []), (25, 3, 139, 0, []), bz, bz, (3, 2, 4, 0, []), bz, (5, 1, 0, 1, []), (3, 1, 1, 1, []), (3, 1, 2, 1, []), (3, 2, 4, 0, []), bz, (40, 3, 197, 0, []), bz, bz, (28, 1, 0, 0, []), (9, 3, 4, 1, []), bz, bz, (23, 3, 26, 0, []), bz, bz, (3, 1, 3, 1, []), (24, 25, 106, 0, [80, 96, 101]), bz, bz, bz, bz, bz, bz, bz, bz, bz, bz, bz, bz, bz, bz, bz, bz, bz, bz, bz, bz, bz, bz, bz, bz, (5, 1, 0, 1, []), (40, 3, 199, 0, []), bz, bz, (21, 3, 91, 1, []), bz, bz, (1, 1, 0, 1, []), (23, 3, 92, 0, []), bz, bz, (1, 1, 0, 0, []), (40, 3, 151, 0, []), bz, bz, (41, 1, 0, 0, []), (5, 1, 0, 1, []), (40, 3, 199, 0, []), bz, bz, (41, 1, 0, 0, []), (5, 1, 0, 1, []), (40, 3, 200, 0, []), bz, bz, (41, 1, 0, 0, []), (5, 1, 0, 1, []), (5, 1, 0, 1, []), (40, 3, 200, 0, []), bz, bz, (40, 3, 201, 0, []), bz, bz, (41, 1, 0, 0, [])]
def cd_X10_shared : List bh_I := [(5, 1, 0, 1, []), (3, 1, 1, 1, []), (40, 3, 167, 0, []), bz, bz, (21, 3, 16, 0, []), bz, bz, (5, 1, 0, 1, []), (3, 1, 2, 1, []), (40, 3, 167, 0, []), bz, bz, (21, 3, 18, 1, []), bz, bz, (1, 1, 0, (-1), []), (41, 1, 0, 0, []), (5, 1, 0, 1, []), (3, 1, 2, 1, []), (40, 3, 202, 0, []), bz, bz, (6, 1, 3, 1, []), (3, 1, 1, 1, []), (6, 2, 4, 0, []), bz, (3, 2, 4, 0, []), bz, (1, 1, 0, (-1), []), (22, 3, 56, 0, []), bz, bz, (3, 1, 3, 1, []), (3, 2, 4, 0, []), bz, (40, 3, 156, 0, []), bz, bz, (21, 3, 45, 0, []), bz, bz, (3, 2, 4, 0, []), bz, (41, 1, 0, 0, []), (5, 1, 0, 1, []), (3, 2, 4, 0, []), bz, (40, 3, 157, 0, []), bz, bz, (6, 2, 4, 0, []), bz, (23, 3, 27, 0, []), bz, bz, (1, 2, 1, (-2), []), bz, (41, 1, 0, 0, [])]
def cd_X10_quarrel : List bh_I := [(5, 1, 0, 1, []), (3, 1, 1, 1, []), (40, 3, 167, 0, []), bz, bz, (21, 3, 26, 0, []), bz, bz, (5, 1, 0, 1, []), (3, 1, 2, 1, []), (40, 3, 167, 0, []), bz, bz, (21, 3, 26, 0, []), bz, bz, (5, 1, 0, 1, []), (3, 1, 3, 1, []), (3, 2, 4, 0, []), bz, (40, 3, 178, 0, []), bz, bz, (21, 3, 28, 1, []), bz, bz, (1, 1, 0, (-1), []), (41, 1, 0, 0, []), (5, 1, 0, 1, []), (3, 1, 1, 1, []), (3, 1, 3, 1, []), (3, 2, 4, 0, []), bz, (40, 3, 175, 0, []), bz, bz, (6, 2, 5, 0, []), bz, (5, 1, 0, 1, []), (3, 1, 2, 1, []), (3, 1, 3, 1, []), (3, 2, 4, 0, []), bz, (40, 3, 175, 0, []), bz, bz, (6, 2, 6, 0, []), bz, (3, 2, 5, 0, []), bz, (1, 2, 1, (-2), []), bz, (22, 3, 62, 0, []), bz, bz, (3, 2, 6, 0, []), bz, (1, 2, 1, (-2), []), bz, (22, 3, 67, 1, []), bz, bz, (1, 2, 1, (-2), []), bz, (23, 3, 72, 0, []), bz, bz, (3, 2, 5, 0, []), bz, (3, 2, 6, 0, []), bz, (10, 1, 5, 0, []), (41, 1, 0, 0, [])]
def cd_X10_makes : List bh_I := [(3, 1, 2, 1, []), (3, 1, 1, 1, []), (40, 3, 156, 0, []), bz, bz, (21, 3, 12, 0, []), bz, bz, (3, 1, 3, 1, []), (23, 3, 13, 0, []), bz, bz, (1, 1, 0, 0, []), (6, 2, 4, 0, []), bz, (1, 1, 0, 0, []), (6, 2, 5, 0, []), bz, (3, 2, 5, 0, []), bz, (5, 1, 0, 1, []), (25, 3, 109, 0, []), bz, bz, (1, 1, 0, 0, []), (27, 1, 0, 0, []), (22, 3, 62, 3, []), bz, bz, (3, 2, 4, 0, []), bz, (5, 1, 0, 1, []), (3, 2, 5, 0, []), bz, (40, 3, 157, 0, []), bz, bz, (3, 1, 1, 1, []), (22, 3, 52, 1, []), bz, bz, (5, 1, 0, 1, []), (3, 2, 5, 0, []), bz, (3, 1, 2, 1, []), (3, 1, 3, 1, []), (40, 3, 203, 0, []), bz, bz, (23, 3, 53, 0, []), bz, bz, (1, 1, 0, 0, []), (10, 1, 0, 0, []), (6, 2, 4, 0, []), bz, (9, 3, 5, 1, []), bz, bz, (23, 3, 18, 0, []), bz, bz, (3, 2, 4, 0, []), bz, (5, 1, 0, 1, []), (3, 1, 1, 1, []), (40, 3, 163, 0, []), bz, bz, (21, 3, 76, 0, []), bz, bz, (1, 1, 0, 0, []), (23, 3, 82, 0, []), bz, bz, (5, 1, 0, 1, []), (3, 1, 1, 1, []), (1, 1, 0, 0, []), (40, 3, 153, 0, []), bz, bz, (50, 3, 0, 123, [1232]), bz, bz, (41, 1, 0, 0, [])]
def cd_X10_served : List bh_I := [(5, 1, 0, 1, []), (3, 1, 1, 1, []), (40, 3, 193, 0, []), bz, bz, (21, 3, 20, 0, []), bz, bz, (3, 1, 2, 1, []), (15, 1, 0, 0, []), (2, 1, 0, 0, []), (2, 3, 1, 99, [406, 1610]), bz, bz, (40, 3, 138, 0, []), bz, bz, (21, 3, 22, 1, []), bz, bz, (1, 1, 0, (-1), []), (41, 1, 0, 0, []), (1, 1, 0, 0, []), (6, 1, 3, 1, []), (1, 1, 0, 0, []), (6, 2, 4, 0, []), bz, (3, 2, 4, 0, []), bz, (5, 1, 0, 1, []), (25, 3, 109, 0, []), bz, bz, (1, 1, 0, 0, []), (27, 1, 0, 0, []), (22, 3, 69, 3, []), bz, bz, (3, 1, 3, 1, []), (5, 1, 0, 1, []), (3, 2, 4, 0, []), bz, (40, 3, 157, 0, []), bz, bz, (1, 1, 0, (-1), []), (22, 3, 60, 1, []), bz, bz, (5, 1, 0, 1, []), (3, 2, 4, 0, []), bz, (3, 1, 1, 1, []), (3, 1, 2, 1, []), (40, 3, 203, 0, []), bz, bz, (23, 3, 61, 0, []), bz, bz, (1, 1, 0, 0, []), (10, 1, 0, 0, []), (6, 1, 3, 1, []), (9, 3, 4, 1, []), bz, bz, (23, 3, 27, 0, []), bz, bz, (3, 1, 3, 1, []), (41, 1, 0, 0, [])]
def cd_X10_sumOf : List bh_I := [(1, 1, 0, 0, []), (6, 1, 2, 1, []), (1, 1, 0, 0, []), (6, 1, 3, 1, []), (3, 1, 3, 1, []), (5, 1, 0, 1, []), (25, 3, 109, 0, []), bz, bz, (1, 1, 0, 0, []), (27, 1, 0, 0, []), (22, 3, 29, 3, []), bz, bz, (3, 1, 2, 1, []), (5, 1, 0, 1, []), (3, 1, 3, 1, []), (3, 1, 1, 1, []), (40, 3, 153, 0, []), bz, bz, (10, 1, 0, 0, []), (6, 1, 2, 1, []), (9, 3, 3, 1, []), bz, bz, (23, 3, 4, 0, []), bz, bz, (3, 1, 2, 1, []), (41, 1, 0, 0, [])]
def cd_X10_pagesOfAll : List bh_I := [(1, 1, 0, 0, []), (6, 1, 1, 1, []), (1, 1, 0, 0, []), (6, 1, 2, 1, []), (3, 1, 2, 1, []), (5, 1, 0, 1, []), (25, 3, 109, 0, []), bz, bz, (1, 1, 0, 1, []), (27, 1, 0, 0, []), (22, 3, 28, 3, []), bz, bz, (3, 1, 1, 1, []), (5, 1, 0, 1, []), (3, 1, 2, 1, []), (40, 3, 155, 0, []), bz, bz, (10, 1, 0, 0, []), (6, 1, 1, 1, []), (9, 3, 2, 1, []), bz, bz, (23, 3, 4, 0, []), bz, bz, (3, 1, 1, 1, []), (41, 1, 0, 0, [])]
def cd_X10_alone : List bh_I := [(1, 1, 0, 0, []), (6, 1, 1, 1, []), (1, 1, 0, 0, []), (6, 1, 2, 1, []), (3, 1, 2, 1, []), (5, 1, 0, 1, []), (25, 3, 109, 0, []), bz, bz, (1, 1, 0, 0, []), (27, 1, 0, 0, []), (22, 3, 39, 3, []), bz, bz, (3, 1, 1, 1, []), (5, 1, 0, 1, []), (3, 1, 2, 1, []), (40, 3, 157, 0, []), bz, bz, (1, 1, 0, (-1), []), (22, 3, 30, 1, []), bz, bz, (1, 1, 0, 1, []), (3, 1, 2, 1, []), (10, 1, 6, 0, []), (23, 3, 31, 0, []), bz, bz, (1, 1, 0, 0, []), (10, 1, 4, 0, []), (6, 1, 1, 1, []), (9, 3, 2, 1, []), bz, bz, (23, 3, 4, 0, []), bz, bz, (3, 1, 1, 1, []), (41, 1, 0, 0, [])]
def cd_X10_mostHands : List bh_I := [(1, 1, 0, 0, []), (6, 1, 1, 1, []), (1, 1, 0, 0, []), (6, 1, 2, 1, []), (3, 1, 2, 1, []), (5, 1, 0, 1, []), (25, 3, 109, 0, []), bz, bz, (1, 1, 0, 0, []), (27, 1, 0, 0, []), (22, 3, 30, 3, []), bz, bz, (3, 1, 1, 1, []), (5, 1, 0, 1, []), (3, 1, 2, 1, []), (40, 3, 161, 0, []), bz, bz, (49, 3, 0, 386, [1593]), bz, bz, (6, 1, 1, 1, []), (9, 3, 2, 1, []), bz, bz, (23, 3, 4, 0, []), bz, bz, (3, 1, 1, 1, []), (41, 1, 0, 0, [])]
def cd_X10_deadOnes : List bh_I := [(1, 1, 0, 0, []), (6, 1, 1, 1, []), (1, 1, 0, 0, []), (6, 1, 2, 1, []), (3, 1, 2, 1, []), (5, 1, 0, 1, []), (25, 3, 109, 0, []), bz, bz, (1, 1, 0, 0, []), (27, 1, 0, 0, []), (22, 3, 32, 3, []), bz, bz, (3, 1, 1, 1, []), (5, 1, 0, 1, []), (3, 1, 2, 1, []), (1, 2, 1, 8, []), bz, (40, 3, 153, 0, []), bz, bz, (3, 1, 2, 1, []), (10, 1, 6, 0, []), (10, 1, 4, 0, []), (6, 1, 1, 1, []), (9, 3, 2, 1, []), bz, bz, (23, 3, 4, 0, []), bz, bz, (3, 1, 1, 1, []), (41, 1, 0, 0, [])]
def cd_X10_count : List bh_I := [(3, 1, 1, 1, []), (24, 71, 170, 0, [72, 79, 86, 91, 96, 101, 107, 114, 119, 124, 131, 136, 141, 163]), bz, bz, bz, bz, bz, bz, bz, bz, bz, bz, bz, bz, bz, bz, bz, bz, bz, bz, bz, bz, bz, bz, bz, bz, bz, bz, bz, bz, bz, bz, bz, bz, bz, bz, bz, bz, bz, bz, bz, bz, bz, bz, bz, bz, bz, bz, bz, bz, bz, bz, bz, bz, bz, bz, bz, bz, bz, bz, bz, bz, bz, bz, bz, bz, bz, bz, bz, bz, bz, bz, (5, 1, 0, 1, []), (25, 3, 109, 0, []), bz, bz, (1, 1, 0, 0, []), (27, 1, 0, 0, []), (41, 1, 0, 0, []), (5, 1, 0, 1, []), (25, 3, 109, 0, []), bz, bz, (1, 1, 0, 1, []), (27, 1, 0, 0, []), (41, 1, 0, 0, []), (5, 1, 0, 1, []), (40, 3, 204, 0, []), bz, bz, (41, 1, 0, 0, []), (5, 1, 0, 1, []), (40, 3, 205, 0, []), bz, bz, (41, 1, 0, 0, []), (5, 1, 0, 1, []), (40, 3, 206, 0, []), bz, bz, (41, 1, 0, 0, []), (5, 1, 0, 1, []), (1, 1, 0, 5, []), (40, 3, 207, 0, []), bz, bz, (41, 1, 0, 0, []), (5, 1, 0, 1, []), (1, 2, 1, 6, []), bz, (40, 3, 207, 0, []), bz, bz, (41, 1, 0, 0, []), (5, 1, 0, 1, []), (40, 3, 174, 0, []), bz, bz, (41, 1, 0, 0, []), (5, 1, 0, 1, []), (40, 3, 208, 0, []), bz, bz, (41, 1, 0, 0, []), (5, 1, 0, 1, []), (25, 3, 109, 0, []), bz, bz, (1, 1, 0, 2, []), (27, 1, 0, 0, []), (41, 1, 0, 0, []), (5, 1, 0, 1, []), (25, 3, 114, 0, []), bz, bz, (41, 1, 0, 0, []), (5, 1, 0, 1, []), (25, 3, 116, 0, []), bz, bz, (41, 1, 0, 0, []), (5, 1, 0, 1, []), (25, 3, 113, 0, []), bz, bz, (1, 1, 0, 0, []), (29, 1, 0, 0, []), (40, 3, 151, 0, []), bz, bz, (5, 1, 0, 1, []), (25, 3, 113, 0, []), bz, bz, (1, 1, 0, 1, []), (29, 1, 0, 0, []), (40, 3, 151, 0, []), bz, bz, (1, 1, 0, 1, []), (10, 1, 6, 0, []), (10, 1, 4, 0, []), (41, 1, 0, 0, []), (5, 1, 0, 1, []), (25, 3, 109, 0, []), bz, bz, (1, 1, 0, 3, []), (27, 1, 0, 0, []), (41, 1, 0, 0, []), (1, 1, 0, (-1), []), (41, 1, 0, 0, [])]
def cd_L_law : List bh_I := [(36, 3, 9, 7, [121, 122, 103]), bz, bz, (18, 1, 0, 0, []), (40, 3, 209, 0, []), bz, bz, (8, 1, 1, 1, []), (36, 3, 10, 10, [1058, 1059, 112]), bz, bz, (18, 1, 0, 0, []), (40, 3, 210, 0, []), bz, bz, (8, 1, 2, 1, []), (1, 1, 0, 0, []), (6, 1, 3, 1, []), (3, 1, 3, 1, []), (5, 1, 0, 1, []), (35, 1, 0, 0, []), (1, 2, 1, 6, []), bz, (10, 1, 1, 0, []), (22, 3, 1637, 4, []), bz, bz, (5, 1, 0, 1, []), (3, 1, 3, 1, []), (27, 1, 0, 0, []), (1, 2, 1, 63, []), bz, (10, 1, 3, 0, []), (24, 175, 1631, 0, [208, 271, 294, 307, 340, 363, 416, 449, 482, 515, 538, 571, 594, 617, 630, 643, 666, 689, 722, 755, 798, 861, 904, 947, 980, 1013, 1046, 1080, 1114, 1157, 1200, 1254, 1297, 1360, 1403, 1446, 1479, 1532, 1565, 1608]), bz, bz, bz, bz, bz, bz, bz, bz, bz, bz, bz, bz, bz, bz, bz, bz, bz, bz, bz, bz, bz, bz, bz, bz, bz, bz, bz, bz, bz, bz, bz, bz, bz, bz, bz, bz, bz, bz, bz, bz, bz, bz, bz, bz, bz, bz, bz, bz, bz, bz, bz, bz, bz, bz, bz, bz, bz, bz, bz, bz, bz, bz, bz, bz, bz, bz, bz, bz, bz, bz, bz, bz, bz, bz, bz, bz, bz, bz, bz, bz, bz, bz, bz, bz, bz, bz, bz, bz, bz, bz, bz, bz, bz, bz, bz, bz, bz, bz, bz, bz, bz, bz, bz, bz, bz, bz, bz, bz, bz, bz, bz, bz, bz, bz, bz, bz, bz, bz, bz, bz, bz, bz, bz, bz, bz, bz, bz, bz, bz, bz, bz, bz, bz, bz, bz, bz, bz, bz, bz, bz, bz, bz, bz, bz, bz, bz, bz, bz, bz, bz, bz, bz, bz, bz, bz, bz, bz, bz, bz, bz, bz, bz, bz, bz, bz, bz, bz, bz, bz, bz, bz, bz, bz, bz, (5, 1, 1, 1, []), (5, 1, 0, 1, []), (3, 1, 3, 1, []), (1, 1, 0, 1, []), (10, 1, 0, 0, []), (27, 1, 0, 0, []), (5, 1, 0, 1, []), (3, 1, 3, 1, []), (1, 1, 0, 2, []), (10, 1, 0, 0, []), (27, 1, 0, 0, []), (5, 1, 0, 1, []), (3, 1, 3, 1, []), (1, 1, 0, 3, []), (10, 1, 0, 0, []), (27, 1, 0, 0, []), (5, 1, 0, 1, []), (3, 1, 3, 1, []), (1, 1, 0, 4, []), (10, 1, 0, 0, []), (27, 1, 0, 0, []), (5, 1, 0, 1, []), (3, 1, 3, 1, []), (1, 1, 0, 5, []), (10, 1, 0, 0, []), (27, 1, 0, 0, []), (40, 3, 211, 0, []), bz, bz, (5, 1, 2, 1, []), (5, 1, 0, 1, []), (3, 1, 3, 1, []), (1, 1, 0, 1, []), (10, 1, 0, 0, []), (27, 1, 0, 0, []), (5, 1, 0, 1, []), (3, 1, 3, 1, []), (1, 1, 0, 2, []), (10, 1, 0, 0, []), (27, 1, 0, 0, []), (5, 1, 0, 1, []), (3, 1, 3, 1, []), (1, 1, 0, 3, []), (10, 1, 0, 0, []), (27, 1, 0, 0, []), (5, 1, 0, 1, []), (3, 1, 3, 1, []), (1, 1, 0, 4, []), (10, 1, 0, 0, []), (27, 1, 0, 0, []), (5, 1, 0, 1, []), (3, 1, 3, 1, []), (1, 1, 0, 5, []), (10, 1, 0, 0, []), (27, 1, 0, 0, []), (40, 3, 212, 0, []), bz, bz, (22, 3, 1631, 0, []), bz, bz, (1, 1, 0, 0, []), (41, 1, 0, 0, []), (5, 1, 1, 1, []), (5, 1, 0, 1, []), (3, 1, 3, 1, []), (1, 1, 0, 1, []), (10, 1, 0, 0, []), (27, 1, 0, 0, []), (40, 3, 213, 0, []), bz, bz, (5, 1, 2, 1, []), (5, 1, 0, 1, []), (3, 1, 3, 1, []), (1, 1, 0, 1, []), (10, 1, 0, 0, []), (27, 1, 0, 0, []), (40, 3, 214, 0, []), bz, bz, (22, 3, 1631, 0, []), bz, bz, (1, 1, 0, 0, []), (41, 1, 0, 0, []), (5, 1, 1, 1, []), (40, 3, 215, 0, []), bz, bz, (5, 1, 2, 1, []), (40, 3, 216, 0, []), bz, bz, (22, 3, 1631, 0, []), bz, bz, (1, 1, 0, 0, []), (41, 1, 0, 0, []), (5, 1, 1, 1, []), (5, 1, 0, 1, []), (3, 1, 3, 1, []), (1, 1, 0, 1, []), (10, 1, 0, 0, []), (27, 1, 0, 0, []), (5, 1, 0, 1, []), (3, 1, 3, 1, []), (1, 1, 0, 2, []), (10, 1, 0, 0, []), (27, 1, 0, 0, []), (40, 3, 217, 0, []), bz, bz, (5, 1, 2, 1, []), (5, 1, 0, 1, []), (3, 1, 3, 1, []), (1, 1, 0, 1, []), (10, 1, 0, 0, []), (27, 1, 0, 0, []), (5, 1, 0, 1, []), (3, 1, 3, 1, []), (1, 1, 0, 2, []), (10, 1, 0, 0, []), (27, 1, 0, 0, []), (40, 3, 218, 0, []), bz, bz, (22, 3, 1631, 0, []), bz, bz, (1, 1, 0, 0, []), (41, 1, 0, 0, []), (5, 1, 1, 1, []), (5, 1, 0, 1, []), (3, 1, 3, 1, []), (1, 1, 0, 1, []), (10, 1, 0, 0, []), (27, 1, 0, 0, []), (40, 3, 219, 0, []), bz, bz, (5, 1, 2, 1, []), (5, 1, 0, 1, []), (3, 1, 3, 1, []), (1, 1, 0, 1, []), (10, 1, 0, 0, []), (27, 1, 0, 0, []), (40, 3, 220, 0, []), bz, bz, (22, 3, 1631, 0, []), bz, bz, (1, 1, 0, 0, []), (41, 1, 0, 0, []), (5, 1, 1, 1, []), (5, 1, 0, 1, []), (3, 1, 3, 1, []), (1, 1, 0, 1, []), (10, 1, 0, 0, []), (27, 1, 0, 0, []), (5, 1, 0, 1, []), (3, 1, 3, 1, []), (1, 1, 0, 2, []), (10, 1, 0, 0, []), (27, 1, 0, 0, []), (5, 1, 0, 1, []), (3, 1, 3, 1, []), (1, 1, 0, 3, []), (10, 1, 0, 0, []), (27, 1, 0, 0, []), (5, 1, 0, 1, []), (3, 1, 3, 1, []), (1, 1, 0, 4, []), (10, 1, 0, 0, []), (27, 1, 0, 0, []), (40, 3, 221, 0, []), bz, bz, (5, 1, 2, 1, []), (5, 1, 0, 1, []), (3, 1, 3, 1, []), (1, 1, 0, 1, []), (10, 1, 0, 0, []), (27, 1, 0, 0, []), (5, 1, 0, 1, []), (3, 1, 3, 1, []), (1, 1, 0, 2, []), (10, 1, 0, 0, []), (27, 1, 0, 0, []), (5, 1, 0, 1, []), (3, 1, 3, 1, []), (1, 1, 0, 3, []), (10, 1, 0, 0, []), (27, 1, 0, 0, []), (5, 1, 0, 1, []), (3, 1, 3, 1, []), (1, 1, 0, 4, []), (10, 1, 0, 0, []), (27, 1, 0, 0, []), (40, 3, 222, 0, []), bz, bz, (22, 3, 1631, 0, []), bz, bz, (1, 1, 0, 0, []), (41, 1, 0, 0, []), (5, 1, 1, 1, []), (5, 1, 0, 1, []), (3, 1, 3, 1, []), (1, 1, 0, 1, []), (10, 1, 0, 0, []), (27, 1, 0, 0, []), (5, 1, 0, 1, []), (3, 1, 3, 1, []), (1, 1, 0, 2, []), (10, 1, 0, 0, []), (27, 1, 0, 0, []), (40, 3, 223, 0, []), bz, bz, (5, 1, 2, 1, []), (5, 1, 0, 1, []), (3, 1, 3, 1, []), (1, 1, 0, 1, []), (10, 1, 0, 0, []), (27, 1, 0, 0, []), (5, 1, 0, 1, []), (3, 1, 3, 1, []), (1, 1, 0, 2, []), (10, 1, 0, 0, []), (27, 1, 0, 0, []), (40, 3, 224, 0, []), bz, bz, (22, 3, 1631, 0, []), bz, bz, (1, 1, 0, 0, []), (41, 1, 0, 0, []), (5, 1, 1, 1, []), (5, 1, 0, 1, []), (3, 1, 3, 1, []), (1, 1, 0, 1, []), (10, 1, 0, 0, []), (27, 1, 0, 0, []), (5, 1, 0, 1, []), (3, 1, 3, 1, []), (1, 1, 0, 2, []), (10, 1, 0, 0, []), (27, 1, 0, 0, []), (40, 3, 225, 0, []), bz, bz, (5, 1, 2, 1, []), (5, 1, 0, 1, []), (3, 1, 3, 1, []), (1, 1, 0, 1, []), (10, 1, 0, 0, []), (27, 1, 0, 0, []), (5, 1, 0, 1, []), (3, 1, 3, 1, []), (1, 1, 0, 2, []), (10, 1, 0, 0, []), (27, 1, 0, 0, []), (40, 3, 226, 0, []), bz, bz, (22, 3, 1631, 0, []), bz, bz, (1, 1, 0, 0, []), (41, 1, 0, 0, []), (5, 1, 1, 1, []), (5, 1, 0, 1, []), (3, 1, 3, 1, []), (1, 1, 0, 1, []), (10, 1, 0, 0, []), (27, 1, 0, 0, []), (5, 1, 0, 1, []), (3, 1, 3, 1, []), (1, 1, 0, 2, []), (10, 1, 0, 0, []), (27, 1, 0, 0, []), (40, 3, 227, 0, []), bz, bz, (5, 1, 2, 1, []), (5, 1, 0, 1, []), (3, 1, 3, 1, []), (1, 1, 0, 1, []), (10, 1, 0, 0, []), (27, 1, 0, 0, []), (5, 1, 0, 1, []), (3, 1, 3, 1, []), (1, 1, 0, 2, []), (10, 1, 0, 0, []), (27, 1, 0, 0, []), (40, 3, 228, 0, []), bz, bz, (22, 3, 1631, 0, []), bz, bz, (1, 1, 0, 0, []), (41, 1, 0, 0, []), (5, 1, 1, 1, []), (5, 1, 0, 1, []), (3, 1, 3, 1, []), (1, 1, 0, 1, []), (10, 1, 0, 0, []), (27, 1, 0, 0, []), (40, 3, 229, 0, []), bz, bz, (5, 1, 2, 1, []), (5, 1, 0, 1, []), (3, 1, 3, 1, []), (1, 1, 0, 1, []), (10, 1, 0, 0, []), (27, 1, 0, 0, []), (40, 3, 230, 0, []), bz, bz, (22, 3, 1631, 0, []), bz, bz, (1, 1, 0, 0, []), (41, 1, 0, 0, []), (5, 1, 1, 1, []), (5, 1, 0, 1, []), (3, 1, 3, 1, []), (1, 1, 0, 1, []), (10, 1, 0, 0, []), (27, 1, 0, 0, []), (5, 1, 0, 1, []), (3, 1, 3, 1, []), (1, 1, 0, 2, []), (10, 1, 0, 0, []), (27, 1, 0, 0, []), (40, 3, 231, 0, []), bz, bz, (5, 1, 2, 1, []), (5, 1, 0, 1, []), (3, 1, 3, 1, []), (1, 1, 0, 1, []), (10, 1, 0, 0, []), (27, 1, 0, 0, []), (5, 1, 0, 1, []), (3, 1, 3, 1, []), (1, 1, 0, 2, []), (10, 1, 0, 0, []), (27, 1, 0, 0, []), (40, 3, 232, 0, []), bz, bz, (22, 3, 1631, 0, []), bz, bz, (1, 1, 0, 0, []), (41, 1, 0, 0, []), (5, 1, 1, 1, []), (5, 1, 0, 1, []), (3, 1, 3, 1, []), (1, 1, 0, 1, []), (10, 1, 0, 0, []), (27, 1, 0, 0, []), (40, 3, 233, 0, []), bz, bz, (5, 1, 2, 1, []), (5, 1, 0, 1, []), (3, 1, 3, 1, []), (1, 1, 0, 1, []), (10, 1, 0, 0, []), (27, 1, 0, 0, []), (40, 3, 234, 0, []), bz, bz, (22, 3, 1631, 0, []), bz, bz, (1, 1, 0, 0, []), (41, 1, 0, 0, []), (5, 1, 1, 1, []), (5, 1, 0, 1, []), (3, 1, 3, 1, []), (1, 1, 0, 1, []), (10, 1, 0, 0, []), (27, 1, 0, 0, []), (40, 3, 235, 0, []), bz, bz, (5, 1, 2, 1, []), (5, 1, 0, 1, []), (3, 1, 3, 1, []), (1, 1, 0, 1, []), (10, 1, 0, 0, []), (27, 1, 0, 0, []), (40, 3, 236, 0, []), bz, bz, (22, 3, 1631, 0, []), bz, bz, (1, 1, 0, 0, []), (41, 1, 0, 0, []), (5, 1, 1, 1, []), (40, 3, 237, 0, []), bz, bz, (5, 1, 2, 1, []), (40, 3, 238, 0, []), bz, bz, (22, 3, 1631, 0, []), bz, bz, (1, 1, 0, 0, []), (41, 1, 0, 0, []), (5, 1, 1, 1, []), (40, 3, 239, 0, []), bz, bz, (5, 1, 2, 1, []), (40, 3, 240, 0, []), bz, bz, (22, 3, 1631, 0, []), bz, bz, (1, 1, 0, 0, []), (41, 1, 0, 0, []), (5, 1, 1, 1, []), (5, 1, 0, 1, []), (3, 1, 3, 1, []), (1, 1, 0, 1, []), (10, 1, 0, 0, []), (27, 1, 0, 0, []), (40, 3, 241, 0, []), bz, bz, (5, 1, 2, 1, []), (5, 1, 0, 1, []), (3, 1, 3, 1, []), (1, 1, 0, 1, []), (10, 1, 0, 0, []), (27, 1, 0, 0, []), (40, 3, 242, 0, []), bz, bz, (22, 3, 1631, 0, []), bz, bz, (1, 1, 0, 0, []), (41, 1, 0, 0, []), (5, 1, 1, 1, []), (5, 1, 0, 1, []), (3, 1, 3, 1, []), (1, 1, 0, 1, []), (10, 1, 0, 0, []), (27, 1, 0, 0, []), (40, 3, 243, 0, []), bz, bz, (5, 1, 2, 1, []), (5, 1, 0, 1, []), (3, 1, 3, 1, []), (1, 1, 0, 1, []), (10, 1, 0, 0, []), (27, 1, 0, 0, []), (40, 3, 244, 0, []), bz, bz, (22, 3, 1631, 0, []), bz, bz, (1, 1, 0, 0, []), (41, 1, 0, 0, []), (5, 1, 1, 1, []), (5, 1, 0, 1, []), (3, 1, 3, 1, []), (1, 1, 0, 1, []), (10, 1, 0, 0, []), (27, 1, 0, 0, []), (5, 1, 0, 1, []), (3, 1, 3, 1, []), (1, 1, 0, 2, []), (10, 1, 0, 0, []), (27, 1, 0, 0, []), (40, 3, 245, 0, []), bz, bz, (5, 1, 2, 1, []), (5, 1, 0, 1, []), (3, 1, 3, 1, []), (1, 1, 0, 1, []), (10, 1, 0, 0, []), (27, 1, 0, 0, []), (5, 1, 0, 1, []), (3, 1, 3, 1, []), (1, 1, 0, 2, []), (10, 1, 0, 0, []), (27, 1, 0, 0, []), (40, 3, 246, 0, []), bz, bz, (22, 3, 1631, 0, []), bz, bz, (1, 1, 0, 0, []), (41, 1, 0, 0, []), (5, 1, 1, 1, []), (5, 1, 0, 1, []), (3, 1, 3, 1, []), (1, 1, 0, 1, []), (10, 1, 0, 0, []), (27, 1, 0, 0, []), (5, 1, 0, 1, []), (3, 1, 3, 1, []), (1, 1, 0, 2, []), (10, 1, 0, 0, []), (27, 1, 0, 0, []), (40, 3, 247, 0, []), bz, bz, (5, 1, 2, 1, []), (5, 1, 0, 1, []), (3, 1, 3, 1, []), (1, 1, 0, 1, []), (10, 1, 0, 0, []), (27, 1, 0, 0, []), (5, 1, 0, 1, []), (3, 1, 3, 1, []), (1, 1, 0, 2, []), (10, 1, 0, 0, []), (27, 1, 0, 0, []), (40, 3, 248, 0, []), bz, bz, (22, 3, 1631, 0, []), bz, bz, (1, 1, 0, 0, []), (41, 1, 0, 0, []), (5, 1, 1, 1, []), (5, 1, 0, 1, []), (3, 1, 3, 1, []), (1, 1, 0, 1, []), (10, 1, 0, 0, []), (27, 1, 0, 0, []), (5, 1, 0, 1, []), (3, 1, 3, 1, []), (1, 1, 0, 2, []), (10, 1, 0, 0, []), (27, 1, 0, 0, []), (5, 1, 0, 1, []), (3, 1, 3, 1, []), (1, 1, 0, 3, []), (10, 1, 0, 0, []), (27, 1, 0, 0, []), (40, 3, 249, 0, []), bz, bz, (5, 1, 2, 1, []), (5, 1, 0, 1, []), (3, 1, 3, 1, []), (1, 1, 0, 1, []), (10, 1, 0, 0, []), (27, 1, 0, 0, []), (5, 1, 0, 1, []), (3, 1, 3, 1, []), (1, 1, 0, 2, []), (10, 1, 0, 0, []), (27, 1, 0, 0, []), (5, 1, 0, 1, []), (3, 1, 3, 1, []), (1, 1, 0, 3, []), (10, 1, 0, 0, []), (27, 1, 0, 0, []), (40, 3, 250, 0, []), bz, bz, (22, 3, 1631, 0, []), bz, bz, (1, 1, 0, 0, []), (41, 1, 0, 0, []), (5, 1, 1, 1, []), (5, 1, 0, 1, []), (3, 1, 3, 1, []), (1, 1, 0, 1, []), (10, 1, 0, 0, []), (27, 1, 0, 0, []), (5, 1, 0, 1, []), (3, 1, 3, 1, []), (1, 1, 0, 2, []), (10, 1, 0, 0, []), (27, 1, 0, 0, []), (5, 1, 0, 1, []), (3, 1, 3, 1, []), (1, 1, 0, 3, []), (10, 1, 0, 0, []), (27, 1, 0, 0, []), (5, 1, 0, 1, []), (3, 1, 3, 1, []), (1, 1, 0, 4, []), (10, 1, 0, 0, []), (27, 1, 0, 0, []), (5, 1, 0, 1, []), (3, 1, 3, 1, []), (1, 1, 0, 5, []), (10, 1, 0, 0, []), (27, 1, 0, 0, []), (40, 3, 251, 0, []), bz, bz, (5, 1, 2, 1, []), (5, 1, 0, 1, []), (3, 1, 3, 1, []), (1, 1, 0, 1, []), (10, 1, 0, 0, []), (27, 1, 0, 0, []), (5, 1, 0, 1, []), (3, 1, 3, 1, []), (1, 1, 0, 2, []), (10, 1, 0, 0, []), (27, 1, 0, 0, []), (5, 1, 0, 1, []), (3, 1, 3, 1, []), (1, 1, 0, 3, []), (10, 1, 0, 0, []), (27, 1, 0, 0, []), (5, 1, 0, 1, []), (3, 1, 3, 1, []), (1, 1, 0, 4, []), (10, 1, 0, 0, []), (27, 1, 0, 0, []), (5, 1, 0, 1, []), (3, 1, 3, 1, []), (1, 1, 0, 5, []), (10, 1, 0, 0, []), (27, 1, 0, 0, []), (40, 3, 252, 0, []), bz, bz, (22, 3, 1631, 0, []), bz, bz, (1, 1, 0, 0, []), (41, 1, 0, 0, []), (5, 1, 1, 1, []), (5, 1, 0, 1, []), (3, 1, 3, 1, []), (1, 1, 0, 1, []), (10, 1, 0, 0, []), (27, 1, 0, 0, []), (5, 1, 0, 1, []), (3, 1, 3, 1, []), (1, 1, 0, 2, []), (10, 1, 0, 0, []), (27, 1, 0, 0, []), (5, 1, 0, 1, []), (3, 1, 3, 1, []), (1, 1, 0, 3, []), (10, 1, 0, 0, []), (27, 1, 0, 0, []), (40, 3, 253, 0, []), bz, bz, (5, 1, 2, 1, []), (5, 1, 0, 1, []), (3, 1, 3, 1, []), (1, 1, 0, 1, []), (10, 1, 0, 0, []), (27, 1, 0, 0, []), (5, 1, 0, 1, []), (3, 1, 3, 1, []), (1, 1, 0, 2, []), (10, 1, 0, 0, []), (27, 1, 0, 0, []), (5, 1, 0, 1, []), (3, 1, 3, 1, []), (1, 1, 0, 3, []), (10, 1, 0, 0, []), (27, 1, 0, 0, []), (40, 3, 254, 0, []), bz, bz, (22, 3, 1631, 0, []), bz, bz, (1, 1, 0, 0, []), (41, 1, 0, 0, []), (5, 1, 1, 1, []), (5, 1, 0, 1, []), (3, 1, 3, 1, []), (1, 1, 0, 1, []), (10, 1, 0, 0, []), (27, 1, 0, 0, []), (5, 1, 0, 1, []), (3, 1, 3, 1, []), (1, 1, 0, 2, []), (10, 1, 0, 0, []), (27, 1, 0, 0, []), (5, 1, 0, 1, []), (3, 1, 3, 1, []), (1, 1, 0, 3, []), (10, 1, 0, 0, []), (27, 1, 0, 0, []), (40, 3, 255, 0, []), bz, bz, (5, 1, 2, 1, []), (5, 1, 0, 1, []), (3, 1, 3, 1, []), (1, 1, 0, 1, []), (10, 1, 0, 0, []), (27, 1, 0, 0, []), (5, 1, 0, 1, []), (3, 1, 3, 1, []), (1, 1, 0, 2, []), (10, 1, 0, 0, []), (27, 1, 0, 0, []), (5, 1, 0, 1, []), (3, 1, 3, 1, []), (1, 1, 0, 3, []), (10, 1, 0, 0, []), (27, 1, 0, 0, []), (40, 3, 256, 0, []), bz, bz, (22, 3, 1631, 0, []), bz, bz, (1, 1, 0, 0, []), (41, 1, 0, 0, []), (5, 1, 1, 1, []), (5, 1, 0, 1, []), (3, 1, 3, 1, []), (1, 1, 0, 1, []), (10, 1, 0, 0, []), (27, 1, 0, 0, []), (5, 1, 0, 1, []), (3, 1, 3, 1, []), (1, 1, 0, 2, []), (10, 1, 0, 0, []), (27, 1, 0, 0, []), (40, 3, 257, 0, []), bz, bz, (5, 1, 2, 1, []), (5, 1, 0, 1, []), (3, 1, 3, 1, []), (1, 1, 0, 1, []), (10, 1, 0, 0, []), (27, 1, 0, 0, []), (5, 1, 0, 1, []), (3, 1, 3, 1, []), (1, 1, 0, 2, []), (10, 1, 0, 0, []), (27, 1, 0, 0, []), (40, 3, 258, 0, []), bz, bz, (22, 3, 1631, 0, []), bz, bz, (1, 1, 0, 0, []), (41, 1, 0, 0, []), (5, 1, 1, 1, []), (5, 1, 0, 1, []), (3, 1, 3, 1, []), (1, 1, 0, 1, []), (10, 1, 0, 0, []), (27, 1, 0, 0, []), (5, 1, 0, 1, []), (3, 1, 3, 1, []), (1, 1, 0, 2, []), (10, 1, 0, 0, []), (27, 1, 0, 0, []), (40, 3, 259, 0, []), bz, bz, (5, 1, 2, 1, []), (5, 1, 0, 1, []), (3, 1, 3, 1, []), (1, 1, 0, 1, []), (10, 1, 0, 0, []), (27, 1, 0, 0, []), (5, 1, 0, 1, []), (3, 1, 3, 1, []), (1, 1, 0, 2, []), (10, 1, 0, 0, []), (27, 1, 0, 0, []), (40, 3, 260, 0, []), bz, bz, (22, 3, 1631, 0, []), bz, bz, (1, 1, 0, 0, []), (41, 1, 0, 0, []), (5, 1, 1, 1, []), (5, 1, 0, 1, []), (3, 1, 3, 1, []), (1, 1, 0, 1, []), (10, 1, 0, 0, []), (27, 1, 0, 0, []), (5, 1, 0, 1, []), (3, 1, 3, 1, []), (1, 1, 0, 2, []), (10, 1, 0, 0, []), (27, 1, 0, 0, []), (40, 3, 261, 0, []), bz, bz, (5, 1, 2, 1, []), (5, 1, 0, 1, []), (3, 1, 3, 1, []), (1, 1, 0, 1, []), (10, 1, 0, 0, []), (27, 1, 0, 0, []), (5, 1, 0, 1, []), (3, 1, 3, 1, []), (1, 1, 0, 2, []), (10, 1, 0, 0, []), (27, 1, 0, 0, []), (40, 3, 262, 0, []), bz, bz, (22, 3, 1631, 0, []), bz, bz, (1, 1, 0, 0, []), (41, 1, 0, 0, []), (5, 1, 1, 1, []), (5, 1, 0, 1, []), (3, 1, 3, 1, []), (1, 1, 0, 1, []), (10, 1, 0, 0, []), (27, 1, 0, 0, []), (5, 1, 0, 1, []), (3, 1, 3, 1, []), (1, 1, 0, 2, []), (10, 1, 0, 0, []), (27, 1, 0, 0, []), (40, 3, 263, 0, []), bz, bz, (5, 1, 2, 1, []), (5, 1, 0, 1, []), (3, 1, 3, 1, []), (1, 1, 0, 1, []), (10, 1, 0, 0, []), (27, 1, 0, 0, []), (5, 1, 0, 1, []), (3, 1, 3, 1, []), (1, 1, 0, 2, []), (10, 1, 0, 0, []), (27, 1, 0, 0, []), (40, 3, 264, 0, []), bz, bz, (17, 1, 0, 0, []), (21, 3, 1631, 0, []), bz, bz, (1, 1, 0, 0, []), (41, 1, 0, 0, []), (5, 1, 1, 1, []), (5, 1, 0, 1, []), (3, 1, 3, 1, []), (1, 1, 0, 1, []), (10, 1, 0, 0, []), (27, 1, 0, 0, []), (5, 1, 0, 1, []), (3, 1, 3, 1, []), (1, 1, 0, 2, []), (10, 1, 0, 0, []), (27, 1, 0, 0, []), (40, 3, 265, 0, []), bz, bz, (5, 1, 2, 1, []), (5, 1, 0, 1, []), (3, 1, 3, 1, []), (1, 1, 0, 1, []), (10, 1, 0, 0, []), (27, 1, 0, 0, []), (5, 1, 0, 1, []), (3, 1, 3, 1, []), (1, 1, 0, 2, []), (10, 1, 0, 0, []), (27, 1, 0, 0, []), (40, 3, 266, 0, []), bz, bz, (17, 1, 0, 0, []), (21, 3, 1631, 0, []), bz, bz, (1, 1, 0, 0, []), (41, 1, 0, 0, []), (5, 1, 1, 1, []), (5, 1, 0, 1, []), (3, 1, 3, 1, []), (1, 1, 0, 1, []), (10, 1, 0, 0, []), (27, 1, 0, 0, []), (5, 1, 0, 1, []), (3, 1, 3, 1, []), (1, 1, 0, 2, []), (10, 1, 0, 0, []), (27, 1, 0, 0, []), (5, 1, 0, 1, []), (3, 1, 3, 1, []), (1, 1, 0, 3, []), (10, 1, 0, 0, []), (27, 1, 0, 0, []), (40, 3, 267, 0, []), bz, bz, (5, 1, 2, 1, []), (5, 1, 0, 1, []), (3, 1, 3, 1, []), (1, 1, 0, 1, []), (10, 1, 0, 0, []), (27, 1, 0, 0, []), (5, 1, 0, 1, []), (3, 1, 3, 1, []), (1, 1, 0, 2, []), (10, 1, 0, 0, []), (27, 1, 0, 0, []), (5, 1, 0, 1, []), (3, 1, 3, 1, []), (1, 1, 0, 3, []), (10, 1, 0, 0, []), (27, 1, 0, 0, []), (40, 3, 268, 0, []), bz, bz, (22, 3, 1631, 0, []), bz, bz, (1, 1, 0, 0, []), (41, 1, 0, 0, []), (5, 1, 1, 1, []), (5, 1, 0, 1, []), (3, 1, 3, 1, []), (1, 1, 0, 1, []), (10, 1, 0, 0, []), (27, 1, 0, 0, []), (5, 1, 0, 1, []), (3, 1, 3, 1, []), (1, 1, 0, 2, []), (10, 1, 0, 0, []), (27, 1, 0, 0, []), (5, 1, 0, 1, []), (3, 1, 3, 1, []), (1, 1, 0, 3, []), (10, 1, 0, 0, []), (27, 1, 0, 0, []), (40, 3, 269, 0, []), bz, bz, (5, 1, 2, 1, []), (5, 1, 0, 1, []), (3, 1, 3, 1, []), (1, 1, 0, 1, []), (10, 1, 0, 0, []), (27, 1, 0, 0, []), (5, 1, 0, 1, []), (3, 1, 3, 1, []), (1, 1, 0, 2, []), (10, 1, 0, 0, []), (27, 1, 0, 0, []), (5, 1, 0, 1, []), (3, 1, 3, 1, []), (1, 1, 0, 3, []), (10, 1, 0, 0, []), (27, 1, 0, 0, []), (40, 3, 270, 0, []), bz, bz, (22, 3, 1631, 0, []), bz, bz, (1, 1, 0, 0, []), (41, 1, 0, 0, []), (5, 1, 1, 1, []), (5, 1, 0, 1, []), (3, 1, 3, 1, []), (1, 1, 0, 1, []), (10, 1, 0, 0, []), (27, 1, 0, 0, []), (5, 1, 0, 1, []), (3, 1, 3, 1, []), (1, 1, 0, 2, []), (10, 1, 0, 0, []), (27, 1, 0, 0, []), (5, 1, 0, 1, []), (3, 1, 3, 1, []), (1, 1, 0, 3, []), (10, 1, 0, 0, []), (27, 1, 0, 0, []), (5, 1, 0, 1, []), (3, 1, 3, 1, []), (1, 1, 0, 4, []), (10, 1, 0, 0, []), (27, 1, 0, 0, []), (40, 3, 271, 0, []), bz, bz, (5, 1, 2, 1, []), (5, 1, 0, 1, []), (3, 1, 3, 1, []), (1, 1, 0, 1, []), (10, 1, 0, 0, []), (27, 1, 0, 0, []), (5, 1, 0, 1, []), (3, 1, 3, 1, []), (1, 1, 0, 2, []), (10, 1, 0, 0, []), (27, 1, 0, 0, []), (5, 1, 0, 1, []), (3, 1, 3, 1, []), (1, 1, 0, 3, []), (10, 1, 0, 0, []), (27, 1, 0, 0, []), (5, 1, 0, 1, []), (3, 1, 3, 1, []), (1, 1, 0, 4, []), (10, 1, 0, 0, []), (27, 1, 0, 0, []), (40, 3, 272, 0, []), bz, bz, (17, 1, 0, 0, []), (21, 3, 1631, 0, []), bz, bz, (1, 1, 0, 0, []), (41, 1, 0, 0, []), (5, 1, 1, 1, []), (5, 1, 0, 1, []), (3, 1, 3, 1, []), (1, 1, 0, 1, []), (10, 1, 0, 0, []), (27, 1, 0, 0, []), (5, 1, 0, 1, []), (3, 1, 3, 1, []), (1, 1, 0, 2, []), (10, 1, 0, 0, []), (27, 1, 0, 0, []), (5, 1, 0, 1, []), (3, 1, 3, 1, []), (1, 1, 0, 3, []), (10, 1, 0, 0, []), (27, 1, 0, 0, []), (40, 3, 273, 0, []), bz, bz, (5, 1, 2, 1, []), (5, 1, 0, 1, []), (3, 1, 3, 1, []), (1, 1, 0, 1, []), (10, 1, 0, 0, []), (27, 1, 0, 0, []), (5, 1, 0, 1, []), (3, 1, 3, 1, []), (1, 1, 0, 2, []), (10, 1, 0, 0, []), (27, 1, 0, 0, []), (5, 1, 0, 1, []), (3, 1, 3, 1, []), (1, 1, 0, 3, []), (10, 1, 0, 0, []), (27, 1, 0, 0, []), (40, 3, 274, 0, []), bz, bz, (22, 3, 1631, 0, []), bz, bz, (1, 1, 0, 0, []), (41, 1, 0, 0, []), (5, 1, 1, 1, []), (5, 1, 0, 1, []), (3, 1, 3, 1, []), (1, 1, 0, 1, []), (10, 1, 0, 0, []), (27, 1, 0, 0, []), (5, 1, 0, 1, []), (3, 1, 3, 1, []), (1, 1, 0, 2, []), (10, 1, 0, 0, []), (27, 1, 0, 0, []), (5, 1, 0, 1, []), (3, 1, 3, 1, []), (1, 1, 0, 3, []), (10, 1, 0, 0, []), (27, 1, 0, 0, []), (5, 1, 0, 1, []), (3, 1, 3, 1, []), (1, 1, 0, 4, []), (10, 1, 0, 0, []), (27, 1, 0, 0, []), (5, 1, 0, 1, []), (3, 1, 3, 1, []), (1, 1, 0, 5, []), (10, 1, 0, 0, []), (27, 1, 0, 0, []), (40, 3, 275, 0, []), bz, bz, (5, 1, 2, 1, []), (5, 1, 0, 1, []), (3, 1, 3, 1, []), (1, 1, 0, 1, []), (10, 1, 0, 0, []), (27, 1, 0, 0, []), (5, 1, 0, 1, []), (3, 1, 3, 1, []), (1, 1, 0, 2, []), (10, 1, 0, 0, []), (27, 1, 0, 0, []), (5, 1, 0, 1, []), (3, 1, 3, 1, []), (1, 1, 0, 3, []), (10, 1, 0, 0, []), (27, 1, 0, 0, []), (5, 1, 0, 1, []), (3, 1, 3, 1, []), (1, 1, 0, 4, []), (10, 1, 0, 0, []), (27, 1, 0, 0, []), (5, 1, 0, 1, []), (3, 1, 3, 1, []), (1, 1, 0, 5, []), (10, 1, 0, 0, []), (27, 1, 0, 0, []), (40, 3, 276, 0, []), bz, bz, (22, 3, 1631, 0, []), bz, bz, (1, 1, 0, 0, []), (41, 1, 0, 0, []), (5, 1, 1, 1, []), (5, 1, 0, 1, []), (3, 1, 3, 1, []), (1, 1, 0, 1, []), (10, 1, 0, 0, []), (27, 1, 0, 0, []), (5, 1, 0, 1, []), (3, 1, 3, 1, []), (1, 1, 0, 2, []), (10, 1, 0, 0, []), (27, 1, 0, 0, []), (5, 1, 0, 1, []), (3, 1, 3, 1, []), (1, 1, 0, 3, []), (10, 1, 0, 0, []), (27, 1, 0, 0, []), (40, 3, 277, 0, []), bz, bz, (5, 1, 2, 1, []), (5, 1, 0, 1, []), (3, 1, 3, 1, []), (1, 1, 0, 1, []), (10, 1, 0, 0, []), (27, 1, 0, 0, []), (5, 1, 0, 1, []), (3, 1, 3, 1, []), (1, 1, 0, 2, []), (10, 1, 0, 0, []), (27, 1, 0, 0, []), (5, 1, 0, 1, []), (3, 1, 3, 1, []), (1, 1, 0, 3, []), (10, 1, 0, 0, []), (27, 1, 0, 0, []), (40, 3, 278, 0, []), bz, bz, (22, 3, 1631, 0, []), bz, bz, (1, 1, 0, 0, []), (41, 1, 0, 0, []), (5, 1, 1, 1, []), (5, 1, 0, 1, []), (3, 1, 3, 1, []), (1, 1, 0, 1, []), (10, 1, 0, 0, []), (27, 1, 0, 0, []), (5, 1, 0, 1, []), (3, 1, 3, 1, []), (1, 1, 0, 2, []), (10, 1, 0, 0, []), (27, 1, 0, 0, []), (5, 1, 0, 1, []), (3, 1, 3, 1, []), (1, 1, 0, 3, []), (10, 1, 0, 0, []), (27, 1, 0, 0, []), (40, 3, 279, 0, []), bz, bz, (5, 1, 2, 1, []), (5, 1, 0, 1, []), (3, 1, 3, 1, []), (1, 1, 0, 1, []), (10, 1, 0, 0, []), (27, 1, 0, 0, []), (5, 1, 0, 1, []), (3, 1, 3, 1, []), (1, 1, 0, 2, []), (10, 1, 0, 0, []), (27, 1, 0, 0, []), (5, 1, 0, 1, []), (3, 1, 3, 1, []), (1, 1, 0, 3, []), (10, 1, 0, 0, []), (27, 1, 0, 0, []), (40, 3, 280, 0, []), bz, bz, (22, 3, 1631, 0, []), bz, bz, (1, 1, 0, 0, []), (41, 1, 0, 0, []), (5, 1, 1, 1, []), (5, 1, 0, 1, []), (3, 1, 3, 1, []), (1, 1, 0, 1, []), (10, 1, 0, 0, []), (27, 1, 0, 0, []), (5, 1, 0, 1, []), (3, 1, 3, 1, []), (1, 1, 0, 2, []), (10, 1, 0, 0, []), (27, 1, 0, 0, []), (40, 3, 281, 0, []), bz, bz, (5, 1, 2, 1, []), (5, 1, 0, 1, []), (3, 1, 3, 1, []), (1, 1, 0, 1, []), (10, 1, 0, 0, []), (27, 1, 0, 0, []), (5, 1, 0, 1, []), (3, 1, 3, 1, []), (1, 1, 0, 2, []), (10, 1, 0, 0, []), (27, 1, 0, 0, []), (40, 3, 282, 0, []), bz, bz, (22, 3, 1631, 0, []), bz, bz, (1, 1, 0, 0, []), (41, 1, 0, 0, []), (5, 1, 1, 1, []), (5, 1, 0, 1, []), (3, 1, 3, 1, []), (1, 1, 0, 1, []), (10, 1, 0, 0, []), (27, 1, 0, 0, []), (5, 1, 0, 1, []), (3, 1, 3, 1, []), (1, 1, 0, 2, []), (10, 1, 0, 0, []), (27, 1, 0, 0, []), (5, 1, 0, 1, []), (3, 1, 3, 1, []), (1, 1, 0, 3, []), (10, 1, 0, 0, []), (27, 1, 0, 0, []), (5, 1, 0, 1, []), (3, 1, 3, 1, []), (1, 1, 0, 4, []), (10, 1, 0, 0, []), (27, 1, 0, 0, []), (40, 3, 283, 0, []), bz, bz, (5, 1, 2, 1, []), (5, 1, 0, 1, []), (3, 1, 3, 1, []), (1, 1, 0, 1, []), (10, 1, 0, 0, []), (27, 1, 0, 0, []), (5, 1, 0, 1, []), (3, 1, 3, 1, []), (1, 1, 0, 2, []), (10, 1, 0, 0, []), (27, 1, 0, 0, []), (5, 1, 0, 1, []), (3, 1, 3, 1, []), (1, 1, 0, 3, []), (10, 1, 0, 0, []), (27, 1, 0, 0, []), (5, 1, 0, 1, []), (3, 1, 3, 1, []), (1, 1, 0, 4, []), (10, 1, 0, 0, []), (27, 1, 0, 0, []), (40, 3, 284, 0, []), bz, bz, (22, 3, 1631, 0, []), bz, bz, (1, 1, 0, 0, []), (41, 1, 0, 0, []), (5, 1, 1, 1, []), (5, 1, 0, 1, []), (3, 1, 3, 1, []), (1, 1, 0, 1, []), (10, 1, 0, 0, []), (27, 1, 0, 0, []), (5, 1, 0, 1, []), (3, 1, 3, 1, []), (1, 1, 0, 2, []), (10, 1, 0, 0, []), (27, 1, 0, 0, []), (40, 3, 285, 0, []), bz, bz, (5, 1, 2, 1, []), (5, 1, 0, 1, []), (3, 1, 3, 1, []), (1, 1, 0, 1, []), (10, 1, 0, 0, []), (27, 1, 0, 0, []), (5, 1, 0, 1, []), (3, 1, 3, 1, []), (1, 1, 0, 2, []), (10, 1, 0, 0, []), (27, 1, 0, 0, []), (40, 3, 286, 0, []), bz, bz, (22, 3, 1631, 0, []), bz, bz, (1, 1, 0, 0, []), (41, 1, 0, 0, []), (5, 1, 1, 1, []), (5, 1, 0, 1, []), (3, 1, 3, 1, []), (1, 1, 0, 1, []), (10, 1, 0, 0, []), (27, 1, 0, 0, []), (5, 1, 0, 1, []), (3, 1, 3, 1, []), (1, 1, 0, 2, []), (10, 1, 0, 0, []), (27, 1, 0, 0, []), (5, 1, 0, 1, []), (3, 1, 3, 1, []), (1, 1, 0, 3, []), (10, 1, 0, 0, []), (27, 1, 0, 0, []), (40, 3, 287, 0, []), bz, bz, (5, 1, 2, 1, []), (5, 1, 0, 1, []), (3, 1, 3, 1, []), (1, 1, 0, 1, []), (10, 1, 0, 0, []), (27, 1, 0, 0, []), (5, 1, 0, 1, []), (3, 1, 3, 1, []), (1, 1, 0, 2, []), (10, 1, 0, 0, []), (27, 1, 0, 0, []), (5, 1, 0, 1, []), (3, 1, 3, 1, []), (1, 1, 0, 3, []), (10, 1, 0, 0, []), (27, 1, 0, 0, []), (40, 3, 288, 0, []), bz, bz, (22, 3, 1631, 0, []), bz, bz, (1, 1, 0, 0, []), (41, 1, 0, 0, []), (5, 1, 1, 1, []), (5, 1, 0, 1, []), (3, 1, 3, 1, []), (1, 1, 0, 1, []), (10, 1, 0, 0, []), (27, 1, 0, 0, []), (40, 3, 289, 0, []), bz, bz, (5, 1, 2, 1, []), (5, 1, 0, 1, []), (3, 1, 3, 1, []), (1, 1, 0, 1, []), (10, 1, 0, 0, []), (27, 1, 0, 0, []), (40, 3, 290, 0, []), bz, bz, (22, 3, 1631, 0, []), bz, bz, (1, 1, 0, 0, []), (41, 1, 0, 0, []), (9, 3, 3, 6, []), bz, bz, (23, 3, 18, 0, []), bz, bz, (1, 1, 0, 1, []), (41, 1, 0, 0, [])]
def cd_J6_bitCount_0f7a4 : List bh_I := [(3, 1, 0, 1, []), (3, 1, 0, 1, []), (1, 1, 0, 1, []), (10, 1, 8, 0, []), (1, 3, 4, 1431655765, [265, 844]), bz, bz, (10, 1, 3, 0, []), (10, 1, 1, 0, []), (6, 1, 0, 1, []), (3, 1, 0, 1, []), (1, 3, 4, 858993459, [266, 845]), bz, bz, (10, 1, 3, 0, []), (3, 1, 0, 1, []), (1, 1, 0, 2, []), (10, 1, 8, 0, []), (1, 3, 4, 858993459, [266, 845]), bz, bz, (10, 1, 3, 0, []), (10, 1, 0, 0, []), (6, 1, 0, 1, []), (3, 1, 0, 1, []), (3, 1, 0, 1, []), (1, 1, 0, 4, []), (10, 1, 8, 0, []), (10, 1, 0, 0, []), (1, 3, 4, 252645135, [267, 846]), bz, bz, (10, 1, 3, 0, []), (6, 1, 0, 1, []), (3, 1, 0, 1, []), (3, 1, 0, 1, []), (1, 2, 1, 8, []), bz, (10, 1, 8, 0, []), (10, 1, 0, 0, []), (6, 1, 0, 1, []), (3, 1, 0, 1, []), (3, 1, 0, 1, []), (1, 2, 1, 16, []), bz, (10, 1, 8, 0, []), (10, 1, 0, 0, []), (6, 1, 0, 1, []), (3, 1, 0, 1, []), (1, 2, 1, 63, []), bz, (10, 1, 3, 0, []), (41, 1, 0, 0, [])]
def bh_codes : List (List bh_I) := [cd_X0_init, cd_X0_fewestPages, cd_X0_fillRows, cd_X0_listTwos, cd_X0_differingPages, cd_X0_allApart, cd_X1_signsOf, cd_X1_firstSign, cd_X1_secondSign, cd_X1_stands, cd_X1_changeRow, cd_X1_signAt, cd_X2_init, cd_X2_listFrom, cd_X2_listUntilDead, cd_X2_lowest, cd_X2_asBits, cd_X2_anyDead, cd_X2_passUp, cd_X2_lineOf, cd_X3_init, cd_X3_gather, cd_X3_clashes, cd_X3_clash, cd_X3_unlikeSets, cd_X3_isFirstOfItsLike, cd_X3_longestRow, cd_X3_longestWithin, cd_X4_init, cd_X4_search, cd_X4_ofFirst, cd_X4_findDemand, cd_X4_tryHabits, cd_X4_tryOne, cd_X5_init, cd_X5_cut, cd_X5_whoMade, cd_X6_init, cd_X6_hasRoom, cd_X6_append, cd_X6_readInto, cd_X6_readPart, cd_X6_readSemicolon, cd_X6_readWriter, cd_X6_readHabit, cd_X6_readUnder, cd_X6_readBook, cd_X6_readNumber, cd_X6_readWord, cd_X6_wordIs, cd_X6_kindOfWord, cd_X6_wordOfKind, cd_X6_skipBlanks, cd_X6_isLetter, cd_X6_isDigit, cd_X6_refuse, cd_X7_init, cd_X7_empty, cd_X7_copyFrom, cd_X7_copyRow, cd_X7_addWriter, cd_X7_addBook, cd_X7_addPage, cd_X7_isWriter, cd_X7_isBook, cd_X7_isPage, cd_X7_isDead, cd_X7_inMood, cd_X7_hasStock, cd_X7_stockOf, cd_X7_putStock, cd_X7_hasHabit, cd_X7_setHabit, cd_X7_habitOn, cd_X7_rowOf, cd_X7_pageOfSeen, cd_X7_havingUnder, cd_X7_allPages, cd_X7_sumOf, cd_X8_init, cd_X8_follow, cd_X8_changedBy, cd_X8_step, cd_X8_put, cd_X8_turn, cd_X8_swap, cd_X9_init, cd_X9_feed, cd_X9_end, cd_X9_tell, cd_X9_hire, cd_X9_sack, cd_X9_teach, cd_X9_praise, cd_X9_blame, cd_X9_order, cd_X9_day, cd_X9_store, cd_X9_die, cd_X9_see, cd_X9_forget, cd_X9_undo, cd_X9_keep, cd_X9_back, cd_X9_writer, cd_X9_page, cd_X9_line, cd_X9_trace, cd_X9_own, cd_X9_pay, cd_X9_alike, cd_X9_fits, cd_X9_likeliest, cd_X9_matches, cd_X9_trees, cd_X9_under, cd_X9_breaks, cd_X9_untangle, cd_X9_tells, cd_X9_slips, cd_X9_errors, cd_X9_nested, cd_X9_shared, cd_X9_quarrel, cd_X9_served, cd_X9_between, cd_X9_count, cd_X9_isSign, cd_X9_isRow, cd_X9_isGift, cd_X9_isShelf, cd_X9_isSetOfWriters, cd_X9_remember, cd_X9_handsOf, cd_X9_lowestOf, cd_X9_mostHands, cd_X9_lineOf, cd_X9_lineAt, cd_X9_lacksLines, cd_X9_followTrail, cd_X9_passedUp, cd_X9_seenFitsWriters, cd_X9_choicesBySeen, cd_X9_countWays, cd_X9_sendDown, cd_X10_init, cd_X10_in, cd_X10_truth, cd_X10_has, cd_X10_moves, cd_X10_feed, cd_X10_puts, cd_X10_end, cd_X10_sign, cd_X10_next, cd_X10_isRight, cd_X10_fails, cd_X10_isDigit, cd_X10_number, cd_X10_isWord, cd_X10_takes, cd_X10_kindTold, cd_X10_needs, cd_X10_readsHabit, cd_X10_readsWriter, cd_X10_readsBook, cd_X10_readsPart, cd_X10_tell, cd_X10_isWriter, cd_X10_of, cd_X10_puts_, cd_X10_under, cd_X10_isDead, cd_X10_isBook, cd_X10_pagesOf, cd_X10_isPage, cd_X10_pageOf, cd_X10_hasStock, cd_X10_stockAt, cd_X10_hands, cd_X10_handsSet, cd_X10_done, cd_X10_with, cd_X10_habit, cd_X10_passes, cd_X10_lineOf, cd_X10_isAnyDead, cd_X10_keepsPast, cd_X10_undo, cd_X10_keep, cd_X10_back, cd_X10_hire, cd_X10_sack, cd_X10_isHabit, cd_X10_hasHabit, cd_X10_learns, cd_X10_teach, cd_X10_goesDown, cd_X10_praise, cd_X10_blame, cd_X10_order, cd_X10_day, cd_X10_moods, cd_X10_hasAll, cd_X10_store, cd_X10_die, cd_X10_see, cd_X10_forget, cd_X10_overWhom, cd_X10_writer, cd_X10_page, cd_X10_line, cd_X10_brings, cd_X10_traces, cd_X10_laysTrace, cd_X10_trace, cd_X10_own, cd_X10_pay, cd_X10_laysSource, cd_X10_leads, cd_X10_alike, cd_X10_fits, cd_X10_likeliest, cd_X10_matches, cd_X10_seen, cd_X10_canTree, cd_X10_choices, cd_X10_trees, cd_X10_under_, cd_X10_couldBe, cd_X10_stretches, cd_X10_canBreak, cd_X10_breaks, cd_X10_between, cd_X10_untangle, cd_X10_isSet, cd_X10_unlikeOn, cd_X10_laysApart, cd_X10_tells, cd_X10_lineWith, cd_X10_slipsBy, cd_X10_slips, cd_X10_errorsOf, cd_X10_errors, cd_X10_isWithin, cd_X10_clashes, cd_X10_laysUnlike, cd_X10_longestRow, cd_X10_nested, cd_X10_shared, cd_X10_quarrel, cd_X10_makes, cd_X10_served, cd_X10_sumOf, cd_X10_pagesOfAll, cd_X10_alone, cd_X10_mostHands, cd_X10_deadOnes, cd_X10_count, cd_L_law, cd_J6_bitCount_0f7a4]
def bh_ys : List MethodName := [yX0_init, yX0_fewestPages, yX0_fillRows, yX0_listTwos, yX0_differingPages, yX0_allApart, yX1_signsOf, yX1_firstSign, yX1_secondSign, yX1_stands, yX1_changeRow, yX1_signAt, yX2_init, yX2_listFrom, yX2_listUntilDead, yX2_lowest, yX2_asBits, yX2_anyDead, yX2_passUp, yX2_lineOf, yX3_init, yX3_gather, yX3_clashes, yX3_clash, yX3_unlikeSets, yX3_isFirstOfItsLike, yX3_longestRow, yX3_longestWithin, yX4_init, yX4_search, yX4_ofFirst, yX4_findDemand, yX4_tryHabits, yX4_tryOne, yX5_init, yX5_cut, yX5_whoMade, yX6_init, yX6_hasRoom, yX6_append, yX6_readInto, yX6_readPart, yX6_readSemicolon, yX6_readWriter, yX6_readHabit, yX6_readUnder, yX6_readBook, yX6_readNumber, yX6_readWord, yX6_wordIs, yX6_kindOfWord, yX6_wordOfKind, yX6_skipBlanks, yX6_isLetter, yX6_isDigit, yX6_refuse, yX7_init, yX7_empty, yX7_copyFrom, yX7_copyRow, yX7_addWriter, yX7_addBook, yX7_addPage, yX7_isWriter, yX7_isBook, yX7_isPage, yX7_isDead, yX7_inMood, yX7_hasStock, yX7_stockOf, yX7_putStock, yX7_hasHabit, yX7_setHabit, yX7_habitOn, yX7_rowOf, yX7_pageOfSeen, yX7_havingUnder, yX7_allPages, yX7_sumOf, yX8_init, yX8_follow, yX8_changedBy, yX8_step, yX8_put, yX8_turn, yX8_swap, yX9_init, yX9_feed, yX9_end, yX9_tell, yX9_hire, yX9_sack, yX9_teach, yX9_praise, yX9_blame, yX9_order, yX9_day, yX9_store, yX9_die, yX9_see, yX9_forget, yX9_undo, yX9_keep, yX9_back, yX9_writer, yX9_page, yX9_line, yX9_trace, yX9_own, yX9_pay, yX9_alike, yX9_fits, yX9_likeliest, yX9_matches, yX9_trees, yX9_under, yX9_breaks, yX9_untangle, yX9_tells, yX9_slips, yX9_errors, yX9_nested, yX9_shared, yX9_quarrel, yX9_served, yX9_between, yX9_count, yX9_isSign, yX9_isRow, yX9_isGift, yX9_isShelf, yX9_isSetOfWriters, yX9_remember, yX9_handsOf, yX9_lowestOf, yX9_mostHands, yX9_lineOf, yX9_lineAt, yX9_lacksLines, yX9_followTrail, yX9_passedUp, yX9_seenFitsWriters, yX9_choicesBySeen, yX9_countWays, yX9_sendDown, yX10_init, yX10_in, yX10_truth, yX10_has, yX10_moves, yX10_feed, yX10_puts, yX10_end, yX10_sign, yX10_next, yX10_isRight, yX10_fails, yX10_isDigit, yX10_number, yX10_isWord, yX10_takes, yX10_kindTold, yX10_needs, yX10_readsHabit, yX10_readsWriter, yX10_readsBook, yX10_readsPart, yX10_tell, yX10_isWriter, yX10_of, yX10_puts_, yX10_under, yX10_isDead, yX10_isBook, yX10_pagesOf, yX10_isPage, yX10_pageOf, yX10_hasStock, yX10_stockAt, yX10_hands, yX10_handsSet, yX10_done, yX10_with, yX10_habit, yX10_passes, yX10_lineOf, yX10_isAnyDead, yX10_keepsPast, yX10_undo, yX10_keep, yX10_back, yX10_hire, yX10_sack, yX10_isHabit, yX10_hasHabit, yX10_learns, yX10_teach, yX10_goesDown, yX10_praise, yX10_blame, yX10_order, yX10_day, yX10_moods, yX10_hasAll, yX10_store, yX10_die, yX10_see, yX10_forget, yX10_overWhom, yX10_writer, yX10_page, yX10_line, yX10_brings, yX10_traces, yX10_laysTrace, yX10_trace, yX10_own, yX10_pay, yX10_laysSource, yX10_leads, yX10_alike, yX10_fits, yX10_likeliest, yX10_matches, yX10_seen, yX10_canTree, yX10_choices, yX10_trees, yX10_under_, yX10_couldBe, yX10_stretches, yX10_canBreak, yX10_breaks, yX10_between, yX10_untangle, yX10_isSet, yX10_unlikeOn, yX10_laysApart, yX10_tells, yX10_lineWith, yX10_slipsBy, yX10_slips, yX10_errorsOf, yX10_errors, yX10_isWithin, yX10_clashes, yX10_laysUnlike, yX10_longestRow, yX10_nested, yX10_shared, yX10_quarrel, yX10_makes, yX10_served, yX10_sumOf, yX10_pagesOfAll, yX10_alone, yX10_mostHands, yX10_deadOnes, yX10_count, x, yJ6_bitCount_0f7a4]
def bh_bs : List ByteArray := [cX0_init, cX0_fewestPages, cX0_fillRows, cX0_listTwos, cX0_differingPages, cX0_allApart, cX1_signsOf, cX1_firstSign, cX1_secondSign, cX1_stands, cX1_changeRow, cX1_signAt, cX2_init, cX2_listFrom, cX2_listUntilDead, cX2_lowest, cX2_asBits, cX2_anyDead, cX2_passUp, cX2_lineOf, cX3_init, cX3_gather, cX3_clashes, cX3_clash, cX3_unlikeSets, cX3_isFirstOfItsLike, cX3_longestRow, cX3_longestWithin, cX4_init, cX4_search, cX4_ofFirst, cX4_findDemand, cX4_tryHabits, cX4_tryOne, cX5_init, cX5_cut, cX5_whoMade, cX6_init, cX6_hasRoom, cX6_append, cX6_readInto, cX6_readPart, cX6_readSemicolon, cX6_readWriter, cX6_readHabit, cX6_readUnder, cX6_readBook, cX6_readNumber, cX6_readWord, cX6_wordIs, cX6_kindOfWord, cX6_wordOfKind, cX6_skipBlanks, cX6_isLetter, cX6_isDigit, cX6_refuse, cX7_init, cX7_empty, cX7_copyFrom, cX7_copyRow, cX7_addWriter, cX7_addBook, cX7_addPage, cX7_isWriter, cX7_isBook, cX7_isPage, cX7_isDead, cX7_inMood, cX7_hasStock, cX7_stockOf, cX7_putStock, cX7_hasHabit, cX7_setHabit, cX7_habitOn, cX7_rowOf, cX7_pageOfSeen, cX7_havingUnder, cX7_allPages, cX7_sumOf, cX8_init, cX8_follow, cX8_changedBy, cX8_step, cX8_put, cX8_turn, cX8_swap, cX9_init, cX9_feed, cX9_end, cX9_tell, cX9_hire, cX9_sack, cX9_teach, cX9_praise, cX9_blame, cX9_order, cX9_day, cX9_store, cX9_die, cX9_see, cX9_forget, cX9_undo, cX9_keep, cX9_back, cX9_writer, cX9_page, cX9_line, cX9_trace, cX9_own, cX9_pay, cX9_alike, cX9_fits, cX9_likeliest, cX9_matches, cX9_trees, cX9_under, cX9_breaks, cX9_untangle, cX9_tells, cX9_slips, cX9_errors, cX9_nested, cX9_shared, cX9_quarrel, cX9_served, cX9_between, cX9_count, cX9_isSign, cX9_isRow, cX9_isGift, cX9_isShelf, cX9_isSetOfWriters, cX9_remember, cX9_handsOf, cX9_lowestOf, cX9_mostHands, cX9_lineOf, cX9_lineAt, cX9_lacksLines, cX9_followTrail, cX9_passedUp, cX9_seenFitsWriters, cX9_choicesBySeen, cX9_countWays, cX9_sendDown, cX10_init, cX10_in, cX10_truth, cX10_has, cX10_moves, cX10_feed, cX10_puts, cX10_end, cX10_sign, cX10_next, cX10_isRight, cX10_fails, cX10_isDigit, cX10_number, cX10_isWord, cX10_takes, cX10_kindTold, cX10_needs, cX10_readsHabit, cX10_readsWriter, cX10_readsBook, cX10_readsPart, cX10_tell, cX10_isWriter, cX10_of, cX10_puts_, cX10_under, cX10_isDead, cX10_isBook, cX10_pagesOf, cX10_isPage, cX10_pageOf, cX10_hasStock, cX10_stockAt, cX10_hands, cX10_handsSet, cX10_done, cX10_with, cX10_habit, cX10_passes, cX10_lineOf, cX10_isAnyDead, cX10_keepsPast, cX10_undo, cX10_keep, cX10_back, cX10_hire, cX10_sack, cX10_isHabit, cX10_hasHabit, cX10_learns, cX10_teach, cX10_goesDown, cX10_praise, cX10_blame, cX10_order, cX10_day, cX10_moods, cX10_hasAll, cX10_store, cX10_die, cX10_see, cX10_forget, cX10_overWhom, cX10_writer, cX10_page, cX10_line, cX10_brings, cX10_traces, cX10_laysTrace, cX10_trace, cX10_own, cX10_pay, cX10_laysSource, cX10_leads, cX10_alike, cX10_fits, cX10_likeliest, cX10_matches, cX10_seen, cX10_canTree, cX10_choices, cX10_trees, cX10_under_, cX10_couldBe, cX10_stretches, cX10_canBreak, cX10_breaks, cX10_between, cX10_untangle, cX10_isSet, cX10_unlikeOn, cX10_laysApart, cX10_tells, cX10_lineWith, cX10_slipsBy, cX10_slips, cX10_errorsOf, cX10_errors, cX10_isWithin, cX10_clashes, cX10_laysUnlike, cX10_longestRow, cX10_nested, cX10_shared, cX10_quarrel, cX10_makes, cX10_served, cX10_sumOf, cX10_pagesOfAll, cX10_alone, cX10_mostHands, cX10_deadOnes, cX10_count, code, cJ6_bitCount_0f7a4]
def bh_mls : List Nat := [1, 9, 7, 6, 6, 3, 1, 2, 2, 3, 4, 2, 1, 3, 5, 1, 3, 2, 8, 6, 1, 9, 4, 3, 3, 3, 4, 5, 1, 8, 2, 10, 10, 6, 1, 7, 10, 1, 2, 3, 4, 2, 1, 4, 6, 4, 4, 4, 1, 3, 2, 1, 1, 1, 1, 3, 1, 1, 2, 2, 2, 1, 3, 2, 2, 3, 2, 2, 3, 4, 5, 5, 5, 3, 3, 3, 4, 3, 4, 1, 7, 4, 6, 5, 4, 4, 2, 6, 2, 2, 3, 3, 8, 6, 3, 7, 7, 5, 4, 2, 2, 1, 2, 2, 3, 3, 4, 6, 4, 6, 4, 5, 7, 6, 6, 4, 4, 5, 5, 6, 4, 4, 5, 7, 6, 4, 2, 1, 1, 1, 1, 2, 1, 2, 2, 3, 4, 5, 3, 4, 3, 1, 7, 13, 5, 1, 6, 1, 2, 5, 6, 3, 2, 1, 1, 1, 3, 1, 4, 5, 2, 2, 1, 5, 4, 5, 2, 2, 2, 3, 4, 2, 2, 2, 2, 3, 3, 3, 3, 4, 4, 4, 3, 3, 3, 8, 3, 2, 1, 2, 2, 3, 3, 4, 5, 5, 6, 9, 3, 3, 4, 4, 3, 4, 4, 6, 2, 2, 4, 3, 3, 4, 3, 8, 7, 6, 6, 8, 3, 5, 4, 6, 9, 6, 2, 3, 6, 6, 4, 8, 6, 3, 5, 5, 10, 2, 6, 6, 9, 9, 12, 10, 7, 4, 2, 4, 6, 5, 5, 5, 7, 6, 5, 4, 3, 3, 3, 3, 2, 4, 1]
def bh_rts : List (Option FieldType) := [none, (some .int), none, none, (some .int), (some .boolean), (some .int), (some .int), (some .int), (some .boolean), (some .int), (some .int), none, none, (some .int), (some .int), (some .int), (some .boolean), (some .int), (some .int), none, none, (some .int), (some .boolean), (some .int), (some .boolean), (some .int), (some .int), none, none, (some .int), (some .boolean), none, none, none, none, (some .int), none, (some .boolean), none, (some .int), (some .boolean), (some .boolean), (some .boolean), (some .boolean), (some .boolean), (some .boolean), (some .int), none, (some .boolean), (some .int), (some (.object "java/lang/String")), none, (some .boolean), (some .boolean), (some .boolean), none, none, none, none, none, none, none, (some .boolean), (some .boolean), (some .boolean), (some .boolean), (some .boolean), (some .boolean), (some .int), none, (some .boolean), none, (some .int), (some .int), (some .int), (some .int), (some .int), (some .int), none, none, (some .int), none, none, none, none, none, (some .int), (some .int), (some .int), (some .int), (some .int), (some .int), (some .int), (some .int), (some .int), (some .int), (some .int), (some .int), (some .int), (some .int), (some .int), (some .int), (some .int), (some .int), (some .int), (some .int), (some .int), (some .int), (some .int), (some .int), (some .int), (some .int), (some .long), (some .long), (some .int), (some .int), (some .long), (some .int), (some .int), (some .int), (some .int), (some .int), (some .int), (some .int), (some .int), (some .int), (some .boolean), (some .boolean), (some .boolean), (some .boolean), (some .boolean), none, (some .int), (some .int), (some .int), (some .int), (some .int), (some .boolean), (some .boolean), (some .int), (some .boolean), (some .int), none, (some .int), none, (some .boolean), (some .int), (some .boolean), none, (some .int), none, (some .int), (some .int), (some .int), (some .boolean), none, (some .boolean), (some .int), (some .boolean), (some .boolean), (some .int), (some .int), none, none, none, none, (some .int), (some .boolean), (some .int), none, (some .int), (some .boolean), (some .boolean), (some .int), (some .boolean), (some .int), (some .boolean), (some .int), (some .int), (some .int), (some .int), (some .int), (some .int), (some .int), (some .int), (some .boolean), none, (some .int), (some .int), (some .int), (some .int), (some .int), (some .boolean), (some .boolean), none, (some .int), (some .int), (some .int), (some .int), (some .int), (some .int), (some .int), (some .boolean), (some .int), (some .int), (some .int), (some .int), (some .int), (some .int), (some .int), (some .int), none, none, none, (some .int), (some .int), (some .int), none, none, (some .int), (some .int), (some .int), (some .long), (some .int), (some .boolean), (some .int), (some .long), (some .int), (some .int), (some .int), (some .boolean), (some .int), (some .int), (some .long), (some .boolean), (some .int), (some .int), (some .int), (some .int), none, (some .int), (some .int), (some .int), (some .boolean), (some .int), (some .int), (some .int), (some .int), (some .int), (some .int), (some .int), (some .int), (some .int), (some .int), (some .int), (some .int), (some .int), (some .int), (some .boolean), (some .int)]
/-- how many values a method takes, the receiver too -/
def bh_nas : List Nat := [1, 5, 5, 4, 4, 2, 1, 2, 2, 3, 4, 2, 1, 3, 4, 1, 1, 2, 5, 5, 1, 5, 1, 2, 1, 2, 1, 2, 1, 5, 2, 5, 4, 6, 1, 5, 5, 1, 2, 2, 2, 2, 1, 2, 3, 3, 2, 3, 1, 2, 1, 1, 1, 1, 1, 3, 1, 1, 2, 2, 2, 1, 2, 2, 2, 3, 2, 2, 3, 4, 5, 5, 5, 3, 3, 3, 2, 1, 2, 1, 4, 2, 4, 5, 3, 3, 1, 6, 2, 1, 3, 2, 5, 3, 3, 3, 2, 3, 2, 2, 1, 1, 2, 2, 3, 3, 4, 6, 4, 4, 3, 3, 3, 3, 3, 4, 4, 5, 4, 6, 4, 4, 3, 5, 3, 4, 2, 1, 1, 1, 1, 2, 1, 2, 2, 1, 4, 2, 2, 4, 3, 1, 3, 4, 2, 1, 3, 1, 2, 4, 6, 2, 2, 1, 1, 1, 3, 1, 3, 2, 2, 1, 1, 2, 2, 2, 1, 1, 2, 3, 4, 2, 2, 2, 2, 3, 3, 3, 3, 2, 2, 4, 3, 3, 3, 4, 2, 1, 1, 2, 2, 3, 2, 3, 5, 5, 5, 5, 3, 3, 3, 2, 1, 3, 3, 2, 2, 1, 2, 3, 3, 4, 3, 4, 4, 6, 4, 4, 2, 4, 3, 3, 3, 3, 2, 3, 4, 3, 4, 4, 3, 3, 4, 4, 5, 2, 4, 3, 4, 7, 6, 6, 4, 4, 2, 1, 1, 2, 4, 3, 5, 4, 3, 2, 1, 1, 1, 1, 2, 1, 1]
def bh_cis : List Nat := [0, 0, 0, 0, 0, 0, 1, 1, 1, 1, 1, 1, 2, 2, 2, 2, 2, 2, 2, 2, 3, 3, 3, 3, 3, 3, 3, 3, 4, 4, 4, 4, 4, 4, 5, 5, 5, 6, 6, 6, 6, 6, 6, 6, 6, 6, 6, 6, 6, 6, 6, 6, 6, 6, 6, 6, 7, 7, 7, 7, 7, 7, 7, 7, 7, 7, 7, 7, 7, 7, 7, 7, 7, 7, 7, 7, 7, 7, 7, 8, 8, 8, 8, 8, 8, 8, 9, 9, 9, 9, 9, 9, 9, 9, 9, 9, 9, 9, 9, 9, 9, 9, 9, 9, 9, 9, 9, 9, 9, 9, 9, 9, 9, 9, 9, 9, 9, 9, 9, 9, 9, 9, 9, 9, 9, 9, 9, 9, 9, 9, 9, 9, 9, 9, 9, 9, 9, 9, 9, 9, 9, 9, 9, 9, 9, 10, 10, 10, 10, 10, 10, 10, 10, 10, 10, 10, 10, 10, 10, 10, 10, 10, 10, 10, 10, 10, 10, 10, 10, 10, 10, 10, 10, 10, 10, 10, 10, 10, 10, 10, 10, 10, 10, 10, 10, 10, 10, 10, 10, 10, 10, 10, 10, 10, 10, 10, 10, 10, 10, 10, 10, 10, 10, 10, 10, 10, 10, 10, 10, 10, 10, 10, 10, 10, 10, 10, 10, 10, 10, 10, 10, 10, 10, 10, 10, 10, 10, 10, 10, 10, 10, 10, 10, 10, 10, 10, 10, 10, 10, 10, 10, 10, 10, 10, 10, 10, 10, 10, 10, 10, 10, 10, 10, 10, 10, 10, 10, 10, 10, 99, 99]
def bh_mcs : List Nat := [2, 0, 0, 0, 0, 0, 0, 0, 0, 0, 0, 0, 1, 0, 0, 0, 0, 0, 0, 0, 2, 0, 0, 0, 0, 0, 0, 0, 0, 0, 0, 0, 0, 0, 2, 0, 0, 1, 0, 0, 0, 0, 0, 0, 0, 0, 0, 0, 0, 0, 0, 0, 0, 0, 0, 0, 12, 0, 0, 0, 0, 0, 0, 0, 0, 0, 0, 0, 0, 0, 0, 0, 0, 0, 0, 0, 0, 0, 0, 3, 0, 0, 0, 0, 0, 0, 204, 0, 0, 0, 0, 0, 0, 0, 0, 0, 0, 0, 0, 0, 0, 0, 0, 0, 0, 0, 0, 0, 0, 0, 0, 0, 0, 0, 0, 0, 0, 0, 0, 0, 0, 0, 0, 0, 0, 0, 0, 0, 0, 0, 0, 0, 0, 0, 0, 0, 0, 0, 0, 0, 0, 0, 0, 0, 0, 22, 0, 0, 0, 0, 0, 0, 0, 0, 0, 0, 0, 0, 0, 0, 0, 0, 0, 0, 0, 0, 0, 0, 0, 0, 0, 0, 0, 0, 0, 0, 0, 0, 0, 0, 0, 0, 0, 0, 0, 0, 0, 0, 0, 0, 0, 0, 0, 0, 0, 0, 0, 0, 0, 0, 0, 0, 0, 0, 0, 0, 0, 0, 0, 0, 0, 0, 0, 0, 0, 0, 0, 0, 0, 0, 0, 0, 0, 0, 0, 0, 0, 0, 0, 0, 0, 0, 0, 0, 0, 0, 0, 0, 0, 0, 0, 0, 0, 0, 0, 0, 0, 0, 0, 0, 0, 0, 0, 0, 0, 0, 0, 0, 0, 600000, 0]
def bh_mss : List Nat := [240, 0, 0, 0, 0, 0, 0, 0, 0, 0, 0, 0, 12, 0, 0, 0, 0, 0, 0, 0, 32, 0, 0, 0, 0, 0, 0, 0, 0, 0, 0, 0, 0, 0, 32, 0, 0, 400, 0, 0, 0, 0, 0, 0, 0, 0, 0, 0, 0, 0, 0, 0, 0, 0, 0, 0, 532, 0, 0, 0, 0, 0, 0, 0, 0, 0, 0, 0, 0, 0, 0, 0, 0, 0, 0, 0, 0, 0, 0, 48, 0, 0, 0, 0, 0, 0, 8530, 0, 0, 0, 0, 0, 0, 0, 0, 0, 0, 0, 0, 0, 0, 0, 0, 0, 0, 0, 0, 0, 0, 0, 0, 0, 0, 0, 0, 0, 0, 0, 0, 0, 0, 0, 0, 0, 0, 0, 0, 0, 0, 0, 0, 0, 0, 0, 0, 0, 0, 0, 0, 0, 0, 0, 0, 0, 0, 8619, 0, 0, 0, 0, 0, 0, 0, 0, 0, 0, 0, 0, 0, 0, 0, 0, 0, 0, 0, 0, 0, 0, 0, 0, 0, 0, 0, 0, 0, 0, 0, 0, 0, 0, 0, 0, 0, 0, 0, 0, 0, 0, 0, 0, 0, 0, 0, 0, 0, 0, 0, 0, 0, 0, 0, 0, 0, 0, 0, 0, 0, 0, 0, 0, 0, 0, 0, 0, 0, 0, 0, 0, 0, 0, 0, 0, 0, 0, 0, 0, 0, 0, 0, 0, 0, 0, 0, 0, 0, 0, 0, 0, 0, 0, 0, 0, 0, 0, 0, 0, 0, 0, 0, 0, 0, 0, 0, 0, 0, 0, 0, 0, 0, 7302250, 0]
def bh_FL : List (String × Nat × Nat × Nat) := [("BorrowedHands$Town", 48, 7, 0), ("BorrowedHands$Slipping", 15, 7, 0), ("BorrowedHands$Apart", 27, 7, 0), ("BorrowedHands$Mistakes", 18, 7, 0), ("BorrowedHands$Stretches", 44, 7, 0), ("BorrowedHands", 106, 7, 0), ("BorrowedHands$Tape", 50, 7, 0), ("BorrowedHands$Town", 52, 7, 1), ("BorrowedHands$Tape", 65, 7, 1), ("BorrowedHands", 334, 7, 1), ("BorrowedHands$Stretches", 22, 7, 2), ("BorrowedHands$Town", 55, 7, 2), ("BorrowedHands", 199, 7, 2), ("BorrowedHands$Town", 58, 7, 3), ("BorrowedHands", 174, 7, 3), ("BorrowedHands$Town", 61, 7, 4), ("BorrowedHands", 171, 7, 4), ("BorrowedHands$Town", 64, 7, 5), ("BorrowedHands$Hands", 32, 7, 5), ("BorrowedHands", 190, 7, 5), ("BorrowedHands$Town", 9, 7, 6), ("BorrowedHands$Stretches", 47, 7, 6), ("BorrowedHands", 118, 7, 6), ("BorrowedHands$Tape", 106, 7, 6), ("BorrowedHands$Town", 15, 7, 7), ("BorrowedHands$Trail", 50, 7, 7), ("BorrowedHands$Hands", 39, 7, 7), ("BorrowedHands", 141, 7, 7), ("BorrowedHands$Town", 18, 7, 8), ("BorrowedHands$Trail", 44, 7, 8), ("BorrowedHands$Hands", 42, 7, 8), ("BorrowedHands", 217, 7, 8), ("BorrowedHands$Town", 21, 7, 9), ("BorrowedHands$Trail", 47, 7, 9), ("BorrowedHands$Hands", 45, 7, 9), ("BorrowedHands", 224, 7, 9), ("BorrowedHands$Town", 24, 7, 10), ("BorrowedHands$Hands", 23, 7, 10), ("BorrowedHands", 115, 7, 10), ("BorrowedHands$Tape", 109, 7, 10), ("BorrowedHands$Town", 27, 7, 11), ("BorrowedHands", 158, 7, 11), ("BorrowedHands$Town", 30, 7, 12), ("BorrowedHands", 164, 7, 12), ("BorrowedHands$Town", 33, 7, 13), ("BorrowedHands", 233, 7, 13), ("BorrowedHands$Town", 36, 7, 14), ("BorrowedHands$Apart", 18, 7, 14), ("BorrowedHands", 184, 7, 14), ("BorrowedHands$Town", 39, 7, 15), ("BorrowedHands$Town", 42, 7, 16), ("BorrowedHands$Town", 45, 7, 17), ("BorrowedHands$Stretches", 35, 7, 17), ("BorrowedHands", 202, 7, 17), ("BorrowedHands$Tape", 9, 6, 0), ("BorrowedHands$Tape", 15, 6, 1), ("BorrowedHands", 91, 6, 1), ("BorrowedHands$Tape", 24, 6, 2), ("BorrowedHands$Tape", 56, 6, 3), ("BorrowedHands$Tape", 27, 6, 4), ("BorrowedHands$Hands", 9, 2, 0), ("BorrowedHands$Slipping", 23, 2, 0), ("BorrowedHands$Trail", 27, 2, 0), ("BorrowedHands", 161, 2, 0), ("BorrowedHands$Slipping", 20, 2, 1), ("BorrowedHands$Trail", 21, 2, 1), ("BorrowedHands$Hands", 19, 2, 1), ("BorrowedHands", 155, 2, 1), ("BorrowedHands$Trail", 9, 8, 0), ("BorrowedHands", 252, 8, 0), ("BorrowedHands$Trail", 15, 8, 1), ("BorrowedHands", 255, 8, 1), ("BorrowedHands$Trail", 18, 8, 2), ("BorrowedHands$Slipping", 9, 4, 0), ("BorrowedHands", 305, 4, 0), ("BorrowedHands$Slipping", 43, 4, 1), ("BorrowedHands$Slipping", 46, 4, 2), ("BorrowedHands$Slipping", 49, 4, 3), ("BorrowedHands$Slipping", 58, 4, 4), ("BorrowedHands$Slipping", 64, 4, 5), ("BorrowedHands$Slipping", 67, 4, 6), ("BorrowedHands$Stretches", 9, 5, 0), ("BorrowedHands", 284, 5, 0), ("BorrowedHands$Stretches", 15, 5, 1), ("BorrowedHands", 331, 5, 1), ("BorrowedHands$Stretches", 18, 5, 2), ("BorrowedHands", 283, 5, 2), ("BorrowedHands$Apart", 9, 0, 0), ("BorrowedHands$Apart", 15, 0, 1), ("BorrowedHands$Apart", 51, 0, 2), ("BorrowedHands$Mistakes", 9, 3, 0), ("BorrowedHands", 312, 3, 0), ("BorrowedHands$Mistakes", 15, 3, 1), ("BorrowedHands", 12, 9, 0), ("BorrowedHands", 16, 9, 1), ("BorrowedHands", 22, 9, 2), ("BorrowedHands", 26, 9, 3), ("BorrowedHands", 30, 9, 4), ("BorrowedHands", 36, 9, 5), ("BorrowedHands", 43, 9, 6), ("BorrowedHands", 50, 9, 7), ("BorrowedHands", 57, 9, 8), ("BorrowedHands", 64, 9, 9), ("BorrowedHands", 71, 9, 10), ("BorrowedHands", 75, 9, 11), ("BorrowedHands", 79, 9, 12), ("BorrowedHands", 205, 9, 13), ("BorrowedHands", 103, 9, 14), ("BorrowedHands", 211, 9, 15), ("BorrowedHandsModel", 9, 10, 0), ("BorrowedHandsModel", 13, 10, 1), ("BorrowedHandsModel", 16, 10, 2), ("BorrowedHandsModel", 19, 10, 3), ("BorrowedHandsModel", 22, 10, 4), ("BorrowedHandsModel", 200, 10, 5), ("BorrowedHandsModel", 26, 10, 6), ("BorrowedHandsModel", 79, 10, 7), ("BorrowedHandsModel", 87, 10, 8), ("BorrowedHandsModel", 94, 10, 9), ("BorrowedHandsModel", 112, 10, 10), ("BorrowedHandsModel", 30, 10, 11), ("BorrowedHandsModel", 273, 10, 12), ("BorrowedHandsModel", 33, 10, 13), ("BorrowedHandsModel", 36, 10, 14), ("BorrowedHandsModel", 39, 10, 15), ("BorrowedHandsModel", 42, 10, 16), ("BorrowedHandsModel", 45, 10, 17), ("BorrowedHandsModel", 48, 10, 18), ("BorrowedHandsModel", 51, 10, 19), ("BorrowedHandsModel", 54, 10, 20), ("BorrowedHandsModel", 57, 10, 21), ("BorrowedHandsModel", 60, 10, 22), ("BorrowedHandsModel", 63, 10, 23), ("BorrowedHandsModel", 67, 10, 24), ("BorrowedHandsModel", 359, 10, 25), ("BorrowedHandsModel", 362, 10, 26), ("BorrowedHandsModel", 365, 10, 27), ("BorrowedHandsModel", 368, 10, 28), ("BorrowedHandsModel", 371, 10, 29), ("BorrowedHandsModel", 70, 10, 30), ("BorrowedHandsModel", 73, 10, 31), ("BorrowedHandsModel", 76, 10, 32)]
def bh_FLp : List Nat := [135, 136, 137, 138, 139, 140, 141, 142, 143, 144, 145, 146, 147, 148, 149, 150, 151, 152, 153, 154, 155, 156, 157, 158, 159, 160, 161, 162, 163, 164, 165, 166, 167, 168, 169, 170, 171, 172, 173, 174, 175, 176, 177, 178, 179, 180, 181, 182, 183, 184, 185, 186, 187, 188, 233, 234, 235, 236, 237, 238, 257, 258, 259, 260, 261, 262, 263, 264, 276, 277, 278, 279, 280, 294, 295, 296, 297, 298, 299, 300, 301, 323, 324, 325, 326, 327, 328, 342, 343, 344, 358, 359, 360, 366, 367, 368, 369, 370, 371, 372, 373, 374, 375, 376, 377, 378, 379, 380, 381, 1064, 1065, 1066, 1067, 1068, 1069, 1070, 1071, 1072, 1073, 1074, 1075, 1076, 1077, 1078, 1079, 1080, 1081, 1082, 1083, 1084, 1085, 1086, 1087, 1088, 1089, 1090, 1091, 1092, 1093, 1094, 1095, 1096]
/-- own class, index, callee, kind (0 virtual, 1 static, 2 constructor; 3 and 4: static, constructor of a nest mate) -/
def bh_ML : List (String × Nat × Nat × Nat) := [("BorrowedHands$Apart", 23, 2, 0), ("BorrowedHands$Apart", 31, 3, 0), ("BorrowedHands$Apart", 35, 260, 1), ("BorrowedHands$Apart", 41, 5, 0), ("BorrowedHands$Apart", 45, 19, 0), ("BorrowedHands$Apart", 54, 4, 0), ("BorrowedHands$Habit", 11, 6, 1), ("BorrowedHands$Habit", 15, 127, 3), ("BorrowedHands$Hands", 15, 14, 0), ("BorrowedHands$Hands", 28, 16, 0), ("BorrowedHands$Hands", 35, 67, 0), ("BorrowedHands$Hands", 48, 10, 1), ("BorrowedHands$Hands", 54, 74, 0), ("BorrowedHands$Hands", 58, 18, 0), ("BorrowedHands$Hands", 62, 68, 0), ("BorrowedHands$Hands", 66, 69, 0), ("BorrowedHands$Mistakes", 24, 19, 0), ("BorrowedHands$Mistakes", 30, 74, 0), ("BorrowedHands$Mistakes", 34, 23, 1), ("BorrowedHands$Mistakes", 38, 25, 0), ("BorrowedHands$Mistakes", 42, 260, 1), ("BorrowedHands$Mistakes", 48, 27, 0), ("BorrowedHands$Slipping", 27, 67, 0), ("BorrowedHands$Slipping", 31, 31, 0), ("BorrowedHands$Slipping", 35, 18, 0), ("BorrowedHands$Slipping", 39, 32, 0), ("BorrowedHands$Slipping", 52, 7, 1), ("BorrowedHands$Slipping", 61, 8, 1), ("BorrowedHands$Slipping", 70, 6, 1), ("BorrowedHands$Slipping", 74, 71, 0), ("BorrowedHands$Slipping", 78, 9, 1), ("BorrowedHands$Slipping", 82, 33, 0), ("BorrowedHands$Slipping", 86, 10, 1), ("BorrowedHands$Stretches", 27, 36, 1), ("BorrowedHands$Stretches", 31, 75, 0), ("BorrowedHands$Stretches", 38, 74, 0), ("BorrowedHands$Stretches", 41, 73, 0), ("BorrowedHands$Stretches", 50, 19, 0), ("BorrowedHands$Tape", 19, 57, 0), ("BorrowedHands$Tape", 30, 52, 0), ("BorrowedHands$Tape", 33, 41, 0), ("BorrowedHands$Tape", 37, 42, 0), ("BorrowedHands$Tape", 41, 48, 0), ("BorrowedHands$Tape", 46, 49, 0), ("BorrowedHands$Tape", 53, 43, 0), ("BorrowedHands$Tape", 59, 55, 0), ("BorrowedHands$Tape", 68, 46, 0), ("BorrowedHands$Tape", 71, 47, 0), ("BorrowedHands$Tape", 75, 60, 0), ("BorrowedHands$Tape", 79, 44, 0), ("BorrowedHands$Tape", 83, 53, 1), ("BorrowedHands$Tape", 87, 45, 0), ("BorrowedHands$Tape", 90, 50, 0), ("BorrowedHands$Tape", 94, 6, 1), ("BorrowedHands$Tape", 100, 72, 0), ("BorrowedHands$Tape", 111, 61, 0), ("BorrowedHands$Tape", 115, 62, 0), ("BorrowedHands$Tape", 118, 54, 1), ("BorrowedHands$Tape", 135, 51, 1), ("BorrowedHands$Town", 67, 59, 1), ("BorrowedHands$Town", 85, 72, 0), ("BorrowedHands$Town", 89, 64, 0), ("BorrowedHands$Town", 93, 10, 1), ("BorrowedHands$Trail", 30, 67, 0), ("BorrowedHands$Trail", 36, 82, 0), ("BorrowedHands$Trail", 40, 73, 0), ("BorrowedHands$Trail", 53, 11, 1), ("BorrowedHands$Trail", 58, 83, 0), ("BorrowedHands$Trail", 62, 84, 0), ("BorrowedHands$Trail", 66, 85, 1), ("BorrowedHands", 11, 56, 4), ("BorrowedHands", 21, 37, 4), ("BorrowedHands", 35, 12, 4), ("BorrowedHands", 42, 79, 4), ("BorrowedHands", 49, 28, 4), ("BorrowedHands", 56, 34, 4), ("BorrowedHands", 63, 0, 4), ("BorrowedHands", 70, 20, 4), ("BorrowedHands", 83, 38, 0), ("BorrowedHands", 87, 39, 0), ("BorrowedHands", 95, 40, 0), ("BorrowedHands", 99, 58, 0), ("BorrowedHands", 109, 63, 0), ("BorrowedHands", 112, 66, 0), ("BorrowedHands", 121, 132, 0), ("BorrowedHands", 124, 133, 0), ("BorrowedHands", 128, 9, 1), ("BorrowedHands", 134, 6, 1), ("BorrowedHands", 137, 71, 0), ("BorrowedHands", 144, 72, 0), ("BorrowedHands", 148, 129, 1), ("BorrowedHands", 151, 13, 0), ("BorrowedHands", 168, 67, 0), ("BorrowedHands", 177, 64, 0), ("BorrowedHands", 180, 136, 0), ("BorrowedHands", 187, 70, 0), ("BorrowedHands", 193, 138, 0), ("BorrowedHands", 196, 128, 1), ("BorrowedHands", 208, 130, 1), ("BorrowedHands", 220, 7, 1), ("BorrowedHands", 227, 8, 1), ("BorrowedHands", 230, 134, 0), ("BorrowedHands", 236, 76, 0), ("BorrowedHands", 239, 65, 0), ("BorrowedHands", 243, 74, 0), ("BorrowedHands", 246, 127, 1), ("BorrowedHands", 249, 139, 0), ("BorrowedHands", 258, 81, 0), ("BorrowedHands", 261, 260, 1), ("BorrowedHands", 264, 140, 0), ("BorrowedHands", 267, 137, 0), ("BorrowedHands", 272, 141, 0), ("BorrowedHands", 276, 142, 0), ("BorrowedHands", 279, 35, 0), ("BorrowedHands", 287, 143, 0), ("BorrowedHands", 291, 131, 0), ("BorrowedHands", 294, 1, 0), ("BorrowedHands", 298, 17, 0), ("BorrowedHands", 302, 29, 0), ("BorrowedHands", 306, 30, 0), ("BorrowedHands", 309, 21, 0), ("BorrowedHands", 315, 22, 0), ("BorrowedHands", 319, 24, 0), ("BorrowedHands", 322, 26, 0), ("BorrowedHands", 325, 16, 0), ("BorrowedHands", 328, 144, 0), ("BorrowedHands", 337, 77, 0), ("BorrowedHands", 340, 135, 0), ("BorrowedHands", 343, 78, 0), ("BorrowedHands", 353, 15, 0), ("BorrowedHands", 359, 19, 0), ("BorrowedHands", 362, 80, 0), ("BorrowedHands", 366, 18, 0), ("BorrowedHands", 369, 73, 0), ("BorrowedHands", 372, 75, 0), ("BorrowedHandsModel", 83, 151, 0), ("BorrowedHandsModel", 90, 153, 0), ("BorrowedHandsModel", 97, 155, 0), ("BorrowedHandsModel", 105, 146, 1), ("BorrowedHandsModel", 109, 154, 0), ("BorrowedHandsModel", 115, 157, 0), ("BorrowedHandsModel", 118, 156, 0), ("BorrowedHandsModel", 142, 159, 0), ("BorrowedHandsModel", 148, 160, 0), ("BorrowedHandsModel", 163, 161, 0), ("BorrowedHandsModel", 166, 162, 1), ("BorrowedHandsModel", 170, 158, 0), ("BorrowedHandsModel", 173, 163, 0), ("BorrowedHandsModel", 181, 164, 0), ("BorrowedHandsModel", 186, 165, 0), ("BorrowedHandsModel", 189, 166, 0), ("BorrowedHandsModel", 192, 147, 1), ("BorrowedHandsModel", 196, 149, 1), ("BorrowedHandsModel", 203, 169, 0), ("BorrowedHandsModel", 206, 173, 0), ("BorrowedHandsModel", 210, 174, 0), ("BorrowedHandsModel", 213, 148, 1), ("BorrowedHandsModel", 217, 171, 0), ("BorrowedHandsModel", 219, 182, 1), ("BorrowedHandsModel", 223, 181, 1), ("BorrowedHandsModel", 227, 183, 0), ("BorrowedHandsModel", 230, 179, 0), ("BorrowedHandsModel", 233, 176, 0), ("BorrowedHandsModel", 236, 172, 0), ("BorrowedHandsModel", 239, 177, 0), ("BorrowedHandsModel", 242, 178, 1), ("BorrowedHandsModel", 245, 184, 0), ("BorrowedHandsModel", 248, 168, 0), ("BorrowedHandsModel", 251, 187, 0), ("BorrowedHandsModel", 254, 170, 0), ("BorrowedHandsModel", 261, 193, 1), ("BorrowedHandsModel", 265, 194, 0), ("BorrowedHandsModel", 269, 195, 0), ("BorrowedHandsModel", 278, 197, 0), ("BorrowedHandsModel", 283, 202, 0), ("BorrowedHandsModel", 286, 185, 0), ("BorrowedHandsModel", 289, 203, 0), ("BorrowedHandsModel", 297, 208, 0), ("BorrowedHandsModel", 300, 175, 0), ("BorrowedHandsModel", 303, 212, 0), ("BorrowedHandsModel", 306, 213, 0), ("BorrowedHandsModel", 309, 186, 0), ("BorrowedHandsModel", 312, 214, 0), ("BorrowedHandsModel", 315, 219, 0), ("BorrowedHandsModel", 318, 218, 0), ("BorrowedHandsModel", 321, 260, 1), ("BorrowedHandsModel", 326, 224, 0), ("BorrowedHandsModel", 329, 225, 0), ("BorrowedHandsModel", 332, 226, 0), ("BorrowedHandsModel", 335, 229, 0), ("BorrowedHandsModel", 338, 231, 0), ("BorrowedHandsModel", 341, 230, 0), ("BorrowedHandsModel", 346, 236, 0), ("BorrowedHandsModel", 349, 235, 0), ("BorrowedHandsModel", 352, 237, 0), ("BorrowedHandsModel", 355, 239, 0), ("BorrowedHandsModel", 376, 240, 0), ("BorrowedHandsModel", 380, 242, 0), ("BorrowedHandsModel", 383, 244, 1), ("BorrowedHandsModel", 391, 245, 0), ("BorrowedHandsModel", 394, 246, 0), ("BorrowedHandsModel", 397, 247, 0), ("BorrowedHandsModel", 400, 180, 0), ("BorrowedHandsModel", 403, 251, 0), ("BorrowedHandsModel", 408, 254, 0), ("BorrowedHandsModel", 411, 255, 0), ("BorrowedHandsModel", 414, 256, 0), ("BorrowedHandsModel", 417, 253, 0), ("BorrowedHandsModel", 420, 257, 0), ("BorrowedHandsLaw", 9, 86, 2), ("BorrowedHandsLaw", 12, 145, 2), ("BorrowedHandsLaw", 13, 87, 0), ("BorrowedHandsLaw", 17, 150, 0), ("BorrowedHandsLaw", 18, 88, 0), ("BorrowedHandsLaw", 22, 152, 0), ("BorrowedHandsLaw", 23, 89, 0), ("BorrowedHandsLaw", 27, 167, 0), ("BorrowedHandsLaw", 28, 90, 0), ("BorrowedHandsLaw", 32, 191, 0), ("BorrowedHandsLaw", 33, 91, 0), ("BorrowedHandsLaw", 36, 192, 0), ("BorrowedHandsLaw", 37, 92, 0), ("BorrowedHandsLaw", 41, 196, 0), ("BorrowedHandsLaw", 42, 93, 0), ("BorrowedHandsLaw", 45, 198, 0), ("BorrowedHandsLaw", 46, 94, 0), ("BorrowedHandsLaw", 49, 199, 0), ("BorrowedHandsLaw", 50, 95, 0), ("BorrowedHandsLaw", 53, 200, 0), ("BorrowedHandsLaw", 54, 96, 0), ("BorrowedHandsLaw", 57, 201, 0), ("BorrowedHandsLaw", 58, 97, 0), ("BorrowedHandsLaw", 61, 204, 0), ("BorrowedHandsLaw", 62, 98, 0), ("BorrowedHandsLaw", 65, 205, 0), ("BorrowedHandsLaw", 66, 99, 0), ("BorrowedHandsLaw", 69, 206, 0), ("BorrowedHandsLaw", 70, 100, 0), ("BorrowedHandsLaw", 73, 207, 0), ("BorrowedHandsLaw", 74, 101, 0), ("BorrowedHandsLaw", 77, 188, 0), ("BorrowedHandsLaw", 78, 102, 0), ("BorrowedHandsLaw", 81, 189, 0), ("BorrowedHandsLaw", 82, 103, 0), ("BorrowedHandsLaw", 85, 190, 0), ("BorrowedHandsLaw", 86, 104, 0), ("BorrowedHandsLaw", 89, 209, 0), ("BorrowedHandsLaw", 90, 105, 0), ("BorrowedHandsLaw", 93, 210, 0), ("BorrowedHandsLaw", 94, 106, 0), ("BorrowedHandsLaw", 98, 211, 0), ("BorrowedHandsLaw", 99, 107, 0), ("BorrowedHandsLaw", 102, 215, 0), ("BorrowedHandsLaw", 103, 108, 0), ("BorrowedHandsLaw", 106, 216, 0), ("BorrowedHandsLaw", 107, 109, 0), ("BorrowedHandsLaw", 110, 217, 0), ("BorrowedHandsLaw", 111, 110, 0), ("BorrowedHandsLaw", 114, 220, 0), ("BorrowedHandsLaw", 115, 111, 0), ("BorrowedHandsLaw", 118, 221, 0), ("BorrowedHandsLaw", 119, 112, 0), ("BorrowedHandsLaw", 122, 222, 0), ("BorrowedHandsLaw", 123, 113, 0), ("BorrowedHandsLaw", 127, 223, 0), ("BorrowedHandsLaw", 128, 114, 0), ("BorrowedHandsLaw", 131, 227, 0), ("BorrowedHandsLaw", 132, 115, 0), ("BorrowedHandsLaw", 135, 228, 0), ("BorrowedHandsLaw", 136, 116, 0), ("BorrowedHandsLaw", 139, 232, 0), ("BorrowedHandsLaw", 140, 117, 0), ("BorrowedHandsLaw", 144, 234, 0), ("BorrowedHandsLaw", 145, 118, 0), ("BorrowedHandsLaw", 148, 238, 0), ("BorrowedHandsLaw", 149, 119, 0), ("BorrowedHandsLaw", 152, 241, 0), ("BorrowedHandsLaw", 153, 120, 0), ("BorrowedHandsLaw", 156, 243, 0), ("BorrowedHandsLaw", 157, 121, 0), ("BorrowedHandsLaw", 160, 248, 0), ("BorrowedHandsLaw", 161, 122, 0), ("BorrowedHandsLaw", 164, 249, 0), ("BorrowedHandsLaw", 165, 123, 0), ("BorrowedHandsLaw", 168, 250, 0), ("BorrowedHandsLaw", 169, 124, 0), ("BorrowedHandsLaw", 172, 252, 0), ("BorrowedHandsLaw", 173, 125, 0), ("BorrowedHandsLaw", 176, 233, 0), ("BorrowedHandsLaw", 177, 126, 0), ("BorrowedHandsLaw", 180, 258, 0)]
def bh_MLp : List (Nat × Nat × Nat × Nat) := [(929, 931, 28, 110), (934, 936, 29, 110), (942, 842, 0, 120), (943, 945, 31, 110), (933, 683, 684, 106), (938, 940, 30, 110), (639, 558, 0, 118), (636, 637, 0, 103), (621, 623, 14, 106), (796, 797, 798, 106), (694, 667, 668, 104), (695, 696, 0, 118), (686, 687, 688, 104), (690, 691, 692, 106), (699, 700, 701, 104), (703, 704, 705, 104), (987, 683, 684, 106), (988, 687, 688, 104), (997, 998, 0, 111), (1004, 1006, 35, 111), (1012, 842, 0, 120), (1013, 1015, 36, 111), (955, 667, 668, 104), (956, 958, 32, 108), (960, 691, 692, 106), (961, 963, 33, 108), (977, 752, 0, 118), (978, 755, 0, 118), (965, 558, 0, 118), (966, 642, 643, 104), (967, 634, 0, 118), (968, 970, 34, 108), (972, 696, 0, 118), (898, 899, 0, 109), (901, 902, 903, 104), (905, 687, 688, 104), (906, 825, 826, 104), (907, 683, 684, 106), (440, 441, 442, 104), (444, 446, 0, 105), (448, 450, 1, 105), (580, 582, 11, 105), (452, 454, 2, 105), (460, 462, 3, 105), (512, 514, 4, 105), (527, 529, 6, 105), (567, 569, 10, 105), (516, 518, 5, 105), (531, 532, 533, 104), (539, 541, 7, 105), (456, 457, 0, 105), (561, 563, 9, 105), (543, 545, 8, 105), (557, 558, 0, 118), (560, 536, 537, 104), (571, 572, 573, 104), (576, 577, 578, 104), (520, 521, 0, 105), (547, 548, 0, 105), (588, 589, 0, 104), (535, 536, 537, 104), (777, 675, 676, 104), (828, 696, 0, 118), (804, 667, 668, 104), (805, 807, 19, 107), (824, 825, 826, 104), (809, 810, 0, 118), (812, 814, 20, 107), (816, 818, 21, 107), (821, 822, 0, 107), (131, 132, 0, 104), (229, 230, 0, 105), (253, 254, 0, 106), (272, 273, 0, 107), (290, 291, 0, 108), (319, 320, 0, 109), (338, 339, 0, 110), (354, 355, 0, 111), (420, 421, 422, 105), (424, 425, 426, 105), (436, 437, 438, 105), (584, 585, 586, 104), (600, 601, 602, 104), (604, 605, 606, 104), (608, 610, 12, 103), (613, 615, 13, 103), (633, 634, 0, 118), (640, 558, 0, 118), (641, 642, 643, 104), (645, 536, 537, 104), (650, 651, 0, 103), (617, 618, 619, 106), (666, 667, 668, 104), (674, 675, 676, 104), (678, 680, 15, 103), (707, 708, 709, 104), (715, 717, 16, 103), (723, 724, 0, 103), (739, 740, 0, 103), (751, 752, 0, 118), (754, 755, 0, 118), (757, 759, 17, 103), (765, 766, 767, 104), (773, 774, 775, 104), (778, 687, 688, 104), (787, 637, 0, 103), (788, 790, 18, 103), (833, 834, 835, 107), (841, 842, 0, 120), (851, 853, 22, 103), (860, 862, 23, 103), (877, 879, 24, 103), (881, 883, 25, 103), (894, 895, 896, 109), (912, 914, 26, 103), (921, 923, 27, 103), (925, 926, 927, 110), (792, 793, 794, 106), (951, 952, 953, 108), (973, 974, 975, 108), (983, 984, 985, 111), (993, 994, 995, 111), (1000, 1001, 1002, 111), (1008, 1009, 1010, 111), (1024, 797, 798, 106), (1033, 1035, 37, 103), (1045, 1046, 1047, 104), (1049, 1051, 38, 103), (1054, 1055, 1056, 104), (761, 762, 763, 106), (682, 683, 684, 106), (800, 801, 802, 107), (855, 691, 692, 106), (885, 825, 826, 104), (916, 902, 903, 104), (1169, 1171, 39, 112), (1185, 1187, 41, 112), (1198, 1200, 44, 112), (1208, 1209, 0, 112), (1181, 1183, 40, 112), (1225, 1227, 49, 112), (1217, 1219, 47, 112), (1202, 1204, 45, 112), (1194, 1196, 43, 112), (1237, 1239, 51, 112), (1248, 1249, 0, 112), (1221, 1223, 48, 112), (1233, 1235, 50, 112), (1213, 1215, 46, 112), (1253, 1255, 52, 112), (1189, 1191, 42, 112), (1258, 1259, 0, 112), (1261, 1262, 0, 112), (1288, 1290, 55, 112), (1359, 1361, 64, 112), (1367, 1369, 66, 112), (1383, 1384, 0, 112), (1292, 1294, 56, 112), (1400, 1401, 0, 112), (1397, 1398, 0, 112), (1393, 1395, 71, 112), (1304, 1306, 59, 112), (1375, 1377, 68, 112), (1284, 1286, 54, 112), (1379, 1381, 69, 112), (1386, 1387, 0, 112), (1389, 1391, 70, 112), (1280, 1282, 53, 112), (1296, 1298, 57, 112), (1300, 1302, 58, 112), (1316, 1317, 0, 112), (1321, 1323, 60, 112), (1325, 1327, 61, 112), (1334, 1336, 62, 112), (1351, 1353, 63, 112), (1371, 1373, 67, 112), (1363, 1365, 65, 112), (1421, 1423, 72, 112), (1429, 1431, 73, 112), (1453, 1455, 77, 112), (1449, 1451, 76, 112), (1441, 1443, 74, 112), (1445, 1447, 75, 112), (1473, 1475, 79, 112), (1469, 1471, 78, 112), (1485, 842, 0, 120), (1503, 1505, 82, 112), (1495, 1497, 80, 112), (1499, 1501, 81, 112), (1523, 1525, 85, 112), (1515, 1517, 83, 112), (1519, 1521, 84, 112), (1548, 1550, 88, 112), (1540, 1542, 86, 112), (1544, 1546, 87, 112), (1561, 1563, 90, 112), (1557, 1559, 89, 112), (1569, 1571, 91, 112), (1582, 1583, 0, 112), (1578, 1580, 92, 112), (1585, 1587, 93, 112), (1589, 1591, 94, 112), (1598, 1600, 95, 112), (1611, 1613, 96, 112), (1619, 1621, 97, 112), (1623, 1625, 98, 112), (1627, 1629, 99, 112), (1631, 1633, 100, 112), (1635, 1637, 101, 112), (123, 124, 0, 103), (1060, 1061, 0, 112), (416, 417, 418, 103), (1165, 1166, 1167, 112), (428, 429, 430, 103), (1173, 1174, 1175, 112), (432, 433, 434, 103), (1177, 1178, 1179, 112), (596, 597, 598, 103), (1276, 1277, 1278, 112), (625, 626, 627, 103), (1308, 1309, 1310, 112), (629, 630, 631, 103), (1312, 1313, 1314, 112), (646, 647, 648, 103), (1329, 1330, 1331, 112), (653, 654, 655, 103), (1338, 1339, 1340, 112), (657, 658, 659, 103), (1342, 1343, 1344, 112), (661, 662, 663, 103), (1346, 1347, 1348, 112), (670, 671, 672, 103), (1355, 1356, 1357, 112), (711, 712, 713, 103), (1403, 1404, 1405, 112), (719, 720, 721, 103), (1407, 1408, 1409, 112), (727, 728, 729, 103), (1412, 1413, 1414, 112), (731, 732, 733, 103), (1264, 1265, 1266, 112), (735, 736, 737, 103), (1268, 1269, 1270, 112), (742, 743, 744, 103), (1272, 1273, 1274, 112), (746, 747, 748, 103), (1416, 1417, 1418, 112), (769, 770, 771, 103), (1425, 1426, 1427, 112), (779, 780, 781, 103), (1433, 1434, 1435, 112), (783, 784, 785, 103), (1437, 1438, 1439, 112), (829, 830, 831, 103), (1457, 1458, 1459, 112), (837, 838, 839, 103), (1461, 1462, 1463, 112), (847, 848, 849, 103), (1465, 1466, 1467, 112), (856, 857, 858, 103), (1477, 1478, 1479, 112), (864, 865, 866, 103), (1481, 1482, 1483, 112), (868, 869, 870, 103), (1486, 1487, 1488, 112), (873, 874, 875, 103), (1491, 1492, 1493, 112), (886, 887, 888, 103), (1507, 1508, 1509, 112), (890, 891, 892, 103), (1511, 1512, 1513, 112), (908, 909, 910, 103), (1531, 1532, 1533, 112), (917, 918, 919, 103), (1536, 1537, 1538, 112), (947, 948, 949, 103), (1552, 1553, 1554, 112), (979, 980, 981, 103), (1565, 1566, 1567, 112), (989, 990, 991, 103), (1573, 1574, 1575, 112), (1020, 1021, 1022, 103), (1594, 1595, 1596, 112), (1025, 1026, 1027, 103), (1602, 1603, 1604, 112), (1029, 1030, 1031, 103), (1606, 1607, 1608, 112), (1037, 1038, 1039, 103), (1527, 1528, 1529, 112), (1041, 1042, 1043, 103), (1615, 1616, 1617, 112)]
def bh_cdp : List Nat := [340, 928, 932, 937, 941, 946, 559, 753, 756, 635, 697, 811, 255, 620, 624, 764, 799, 795, 693, 685, 356, 986, 996, 999, 1003, 1007, 1011, 1016, 292, 954, 976, 959, 964, 971, 321, 897, 900, 231, 423, 427, 439, 451, 583, 515, 542, 564, 570, 519, 455, 463, 546, 549, 447, 458, 522, 530, 133, 443, 587, 590, 534, 574, 579, 603, 677, 776, 607, 669, 702, 706, 710, 644, 538, 827, 689, 904, 768, 1048, 1057, 274, 803, 836, 808, 815, 819, 823, 125, 419, 431, 435, 599, 628, 632, 649, 656, 660, 664, 673, 714, 722, 730, 734, 738, 745, 749, 772, 782, 786, 832, 840, 850, 859, 867, 871, 876, 889, 893, 911, 920, 950, 982, 992, 1023, 1028, 1032, 1040, 1044, 638, 725, 652, 741, 924, 611, 616, 760, 1052, 681, 863, 718, 791, 854, 880, 884, 915, 1036, 1062, 1210, 1260, 1385, 1263, 1168, 1172, 1176, 1188, 1184, 1201, 1220, 1228, 1224, 1205, 1197, 1240, 1250, 1236, 1216, 1256, 1192, 1180, 1283, 1291, 1303, 1295, 1287, 1362, 1370, 1432, 1378, 1382, 1388, 1307, 1601, 1399, 1402, 1396, 1392, 1374, 1444, 1299, 1267, 1271, 1275, 1279, 1311, 1318, 1324, 1328, 1315, 1337, 1332, 1341, 1345, 1349, 1354, 1366, 1358, 1406, 1410, 1415, 1424, 1419, 1428, 1436, 1456, 1452, 1448, 1440, 1460, 1464, 1472, 1476, 1468, 1480, 1484, 1489, 1506, 1498, 1502, 1494, 1510, 1526, 1522, 1518, 1514, 1530, 1534, 1543, 1551, 1547, 1539, 1564, 1560, 1555, 1572, 1568, 1584, 1581, 1588, 1592, 1576, 1597, 1605, 1614, 1609, 1634, 1622, 1626, 1630, 1638, 1618, 0, 843]
def bh_ST : List (String × Nat × String) := [("BorrowedHands$Tape", 44, "writer"), ("BorrowedHands$Tape", 139, "flip"), ("BorrowedHands$Tape", 141, "set"), ("BorrowedHands$Tape", 143, "clear"), ("BorrowedHands$Tape", 145, "turn"), ("BorrowedHands$Tape", 147, "swap"), ("BorrowedHands$Tape", 149, "copy"), ("BorrowedHands$Tape", 151, "plain"), ("BorrowedHands$Tape", 104, "under"), ("BorrowedHands$Tape", 63, "book"), ("BorrowedHandsModel", 179, "writer"), ("BorrowedHandsModel", 146, "plain"), ("BorrowedHandsModel", 151, "flip"), ("BorrowedHandsModel", 153, "set"), ("BorrowedHandsModel", 155, "clear"), ("BorrowedHandsModel", 157, "turn"), ("BorrowedHandsModel", 159, "swap"), ("BorrowedHandsModel", 161, "copy"), ("BorrowedHandsModel", 176, "under"), ("BorrowedHandsModel", 184, "book")]
def bh_NM : Nat := 261
abbrev m_X0_init : Nat := 0
abbrev m_X0_fewestPages : Nat := 1
abbrev m_X0_fillRows : Nat := 2
abbrev m_X0_listTwos : Nat := 3
abbrev m_X0_differingPages : Nat := 4
abbrev m_X0_allApart : Nat := 5
abbrev m_X1_signsOf : Nat := 6
abbrev m_X1_firstSign : Nat := 7
abbrev m_X1_secondSign : Nat := 8
abbrev m_X1_stands : Nat := 9
abbrev m_X1_changeRow : Nat := 10
abbrev m_X1_signAt : Nat := 11
abbrev m_X2_init : Nat := 12
abbrev m_X2_listFrom : Nat := 13
abbrev m_X2_listUntilDead : Nat := 14
abbrev m_X2_lowest : Nat := 15
abbrev m_X2_asBits : Nat := 16
abbrev m_X2_anyDead : Nat := 17
abbrev m_X2_passUp : Nat := 18
abbrev m_X2_lineOf : Nat := 19
abbrev m_X3_init : Nat := 20
abbrev m_X3_gather : Nat := 21
abbrev m_X3_clashes : Nat := 22
abbrev m_X3_clash : Nat := 23
abbrev m_X3_unlikeSets : Nat := 24
abbrev m_X3_isFirstOfItsLike : Nat := 25
abbrev m_X3_longestRow : Nat := 26
abbrev m_X3_longestWithin : Nat := 27
abbrev m_X4_init : Nat := 28
abbrev m_X4_search : Nat := 29
abbrev m_X4_ofFirst : Nat := 30
abbrev m_X4_findDemand : Nat := 31
abbrev m_X4_tryHabits : Nat := 32
abbrev m_X4_tryOne : Nat := 33
abbrev m_X5_init : Nat := 34
abbrev m_X5_cut : Nat := 35
abbrev m_X5_whoMade : Nat := 36
abbrev m_X6_init : Nat := 37
abbrev m_X6_hasRoom : Nat := 38
abbrev m_X6_append : Nat := 39
abbrev m_X6_readInto : Nat := 40
abbrev m_X6_readPart : Nat := 41
abbrev m_X6_readSemicolon : Nat := 42
abbrev m_X6_readWriter : Nat := 43
abbrev m_X6_readHabit : Nat := 44
abbrev m_X6_readUnder : Nat := 45
abbrev m_X6_readBook : Nat := 46
abbrev m_X6_readNumber : Nat := 47
abbrev m_X6_readWord : Nat := 48
abbrev m_X6_wordIs : Nat := 49
abbrev m_X6_kindOfWord : Nat := 50
abbrev m_X6_wordOfKind : Nat := 51
abbrev m_X6_skipBlanks : Nat := 52
abbrev m_X6_isLetter : Nat := 53
abbrev m_X6_isDigit : Nat := 54
abbrev m_X6_refuse : Nat := 55
abbrev m_X7_init : Nat := 56
abbrev m_X7_empty : Nat := 57
abbrev m_X7_copyFrom : Nat := 58
abbrev m_X7_copyRow : Nat := 59
abbrev m_X7_addWriter : Nat := 60
abbrev m_X7_addBook : Nat := 61
abbrev m_X7_addPage : Nat := 62
abbrev m_X7_isWriter : Nat := 63
abbrev m_X7_isBook : Nat := 64
abbrev m_X7_isPage : Nat := 65
abbrev m_X7_isDead : Nat := 66
abbrev m_X7_inMood : Nat := 67
abbrev m_X7_hasStock : Nat := 68
abbrev m_X7_stockOf : Nat := 69
abbrev m_X7_putStock : Nat := 70
abbrev m_X7_hasHabit : Nat := 71
abbrev m_X7_setHabit : Nat := 72
abbrev m_X7_habitOn : Nat := 73
abbrev m_X7_rowOf : Nat := 74
abbrev m_X7_pageOfSeen : Nat := 75
abbrev m_X7_havingUnder : Nat := 76
abbrev m_X7_allPages : Nat := 77
abbrev m_X7_sumOf : Nat := 78
abbrev m_X8_init : Nat := 79
abbrev m_X8_follow : Nat := 80
abbrev m_X8_changedBy : Nat := 81
abbrev m_X8_step : Nat := 82
abbrev m_X8_put : Nat := 83
abbrev m_X8_turn : Nat := 84
abbrev m_X8_swap : Nat := 85
abbrev m_X9_init : Nat := 86
abbrev m_X9_feed : Nat := 87
abbrev m_X9_end : Nat := 88
abbrev m_X9_tell : Nat := 89
abbrev m_X9_hire : Nat := 90
abbrev m_X9_sack : Nat := 91
abbrev m_X9_teach : Nat := 92
abbrev m_X9_praise : Nat := 93
abbrev m_X9_blame : Nat := 94
abbrev m_X9_order : Nat := 95
abbrev m_X9_day : Nat := 96
abbrev m_X9_store : Nat := 97
abbrev m_X9_die : Nat := 98
abbrev m_X9_see : Nat := 99
abbrev m_X9_forget : Nat := 100
abbrev m_X9_undo : Nat := 101
abbrev m_X9_keep : Nat := 102
abbrev m_X9_back : Nat := 103
abbrev m_X9_writer : Nat := 104
abbrev m_X9_page : Nat := 105
abbrev m_X9_line : Nat := 106
abbrev m_X9_trace : Nat := 107
abbrev m_X9_own : Nat := 108
abbrev m_X9_pay : Nat := 109
abbrev m_X9_alike : Nat := 110
abbrev m_X9_fits : Nat := 111
abbrev m_X9_likeliest : Nat := 112
abbrev m_X9_matches : Nat := 113
abbrev m_X9_trees : Nat := 114
abbrev m_X9_under : Nat := 115
abbrev m_X9_breaks : Nat := 116
abbrev m_X9_untangle : Nat := 117
abbrev m_X9_tells : Nat := 118
abbrev m_X9_slips : Nat := 119
abbrev m_X9_errors : Nat := 120
abbrev m_X9_nested : Nat := 121
abbrev m_X9_shared : Nat := 122
abbrev m_X9_quarrel : Nat := 123
abbrev m_X9_served : Nat := 124
abbrev m_X9_between : Nat := 125
abbrev m_X9_count : Nat := 126
abbrev m_X9_isSign : Nat := 127
abbrev m_X9_isRow : Nat := 128
abbrev m_X9_isGift : Nat := 129
abbrev m_X9_isShelf : Nat := 130
abbrev m_X9_isSetOfWriters : Nat := 131
abbrev m_X9_remember : Nat := 132
abbrev m_X9_handsOf : Nat := 133
abbrev m_X9_lowestOf : Nat := 134
abbrev m_X9_mostHands : Nat := 135
abbrev m_X9_lineOf : Nat := 136
abbrev m_X9_lineAt : Nat := 137
abbrev m_X9_lacksLines : Nat := 138
abbrev m_X9_followTrail : Nat := 139
abbrev m_X9_passedUp : Nat := 140
abbrev m_X9_seenFitsWriters : Nat := 141
abbrev m_X9_choicesBySeen : Nat := 142
abbrev m_X9_countWays : Nat := 143
abbrev m_X9_sendDown : Nat := 144
abbrev m_X10_init : Nat := 145
abbrev m_X10_in : Nat := 146
abbrev m_X10_truth : Nat := 147
abbrev m_X10_has : Nat := 148
abbrev m_X10_moves : Nat := 149
abbrev m_X10_feed : Nat := 150
abbrev m_X10_puts : Nat := 151
abbrev m_X10_end : Nat := 152
abbrev m_X10_sign : Nat := 153
abbrev m_X10_next : Nat := 154
abbrev m_X10_isRight : Nat := 155
abbrev m_X10_fails : Nat := 156
abbrev m_X10_isDigit : Nat := 157
abbrev m_X10_number : Nat := 158
abbrev m_X10_isWord : Nat := 159
abbrev m_X10_takes : Nat := 160
abbrev m_X10_kindTold : Nat := 161
abbrev m_X10_needs : Nat := 162
abbrev m_X10_readsHabit : Nat := 163
abbrev m_X10_readsWriter : Nat := 164
abbrev m_X10_readsBook : Nat := 165
abbrev m_X10_readsPart : Nat := 166
abbrev m_X10_tell : Nat := 167
abbrev m_X10_isWriter : Nat := 168
abbrev m_X10_of : Nat := 169
abbrev m_X10_puts_ : Nat := 170
abbrev m_X10_under : Nat := 171
abbrev m_X10_isDead : Nat := 172
abbrev m_X10_isBook : Nat := 173
abbrev m_X10_pagesOf : Nat := 174
abbrev m_X10_isPage : Nat := 175
abbrev m_X10_pageOf : Nat := 176
abbrev m_X10_hasStock : Nat := 177
abbrev m_X10_stockAt : Nat := 178
abbrev m_X10_hands : Nat := 179
abbrev m_X10_handsSet : Nat := 180
abbrev m_X10_done : Nat := 181
abbrev m_X10_with : Nat := 182
abbrev m_X10_habit : Nat := 183
abbrev m_X10_passes : Nat := 184
abbrev m_X10_lineOf : Nat := 185
abbrev m_X10_isAnyDead : Nat := 186
abbrev m_X10_keepsPast : Nat := 187
abbrev m_X10_undo : Nat := 188
abbrev m_X10_keep : Nat := 189
abbrev m_X10_back : Nat := 190
abbrev m_X10_hire : Nat := 191
abbrev m_X10_sack : Nat := 192
abbrev m_X10_isHabit : Nat := 193
abbrev m_X10_hasHabit : Nat := 194
abbrev m_X10_learns : Nat := 195
abbrev m_X10_teach : Nat := 196
abbrev m_X10_goesDown : Nat := 197
abbrev m_X10_praise : Nat := 198
abbrev m_X10_blame : Nat := 199
abbrev m_X10_order : Nat := 200
abbrev m_X10_day : Nat := 201
abbrev m_X10_moods : Nat := 202
abbrev m_X10_hasAll : Nat := 203
abbrev m_X10_store : Nat := 204
abbrev m_X10_die : Nat := 205
abbrev m_X10_see : Nat := 206
abbrev m_X10_forget : Nat := 207
abbrev m_X10_overWhom : Nat := 208
abbrev m_X10_writer : Nat := 209
abbrev m_X10_page : Nat := 210
abbrev m_X10_line : Nat := 211
abbrev m_X10_brings : Nat := 212
abbrev m_X10_traces : Nat := 213
abbrev m_X10_laysTrace : Nat := 214
abbrev m_X10_trace : Nat := 215
abbrev m_X10_own : Nat := 216
abbrev m_X10_pay : Nat := 217
abbrev m_X10_laysSource : Nat := 218
abbrev m_X10_leads : Nat := 219
abbrev m_X10_alike : Nat := 220
abbrev m_X10_fits : Nat := 221
abbrev m_X10_likeliest : Nat := 222
abbrev m_X10_matches : Nat := 223
abbrev m_X10_seen : Nat := 224
abbrev m_X10_canTree : Nat := 225
abbrev m_X10_choices : Nat := 226
abbrev m_X10_trees : Nat := 227
abbrev m_X10_under_ : Nat := 228
abbrev m_X10_couldBe : Nat := 229
abbrev m_X10_stretches : Nat := 230
abbrev m_X10_canBreak : Nat := 231
abbrev m_X10_breaks : Nat := 232
abbrev m_X10_between : Nat := 233
abbrev m_X10_untangle : Nat := 234
abbrev m_X10_isSet : Nat := 235
abbrev m_X10_unlikeOn : Nat := 236
abbrev m_X10_laysApart : Nat := 237
abbrev m_X10_tells : Nat := 238
abbrev m_X10_lineWith : Nat := 239
abbrev m_X10_slipsBy : Nat := 240
abbrev m_X10_slips : Nat := 241
abbrev m_X10_errorsOf : Nat := 242
abbrev m_X10_errors : Nat := 243
abbrev m_X10_isWithin : Nat := 244
abbrev m_X10_clashes : Nat := 245
abbrev m_X10_laysUnlike : Nat := 246
abbrev m_X10_longestRow : Nat := 247
abbrev m_X10_nested : Nat := 248
abbrev m_X10_shared : Nat := 249
abbrev m_X10_quarrel : Nat := 250
abbrev m_X10_makes : Nat := 251
abbrev m_X10_served : Nat := 252
abbrev m_X10_sumOf : Nat := 253
abbrev m_X10_pagesOfAll : Nat := 254
abbrev m_X10_alone : Nat := 255
abbrev m_X10_mostHands : Nat := 256
abbrev m_X10_deadOnes : Nat := 257
abbrev m_X10_count : Nat := 258
abbrev m_L_law : Nat := 259
abbrev m_J6_bitCount_0f7a4 : Nat := 260
end
section
/-! ===== the machine over a picture: one step, the least fixed point, contracts by depth ===== -/
def bh_Y (m : Nat) : MethodName := bh_ys.getD m ⟨"", "", ""⟩
def bh_B (m : Nat) : ByteArray := bh_bs.getD m ByteArray.empty
def bh_mL (m : Nat) : Nat := bh_mls.getD m 0
def bh_rt (m : Nat) : Option FieldType := bh_rts.getD m none
def bh_na (m : Nat) : Nat := bh_nas.getD m 0
def bh_ci (m : Nat) : Nat := bh_cis.getD m 99
def bh_mc (m : Nat) : Nat := bh_mcs.getD m 0
def bh_ms (m : Nat) : Nat := bh_mss.getD m 0
def bh_cod (m pc : Nat) : bh_I := (bh_codes.getD m []).getD pc bz
/-- how many cells there are; the references; the ints (fields, elements); the longs -/
abbrev bh_H : Type := Nat × (Nat → Nat → Option Nat) × (Nat → Nat → Int32) × (Nat → Nat → Int64)
/-- the plan of the cells: what each is (a class's number; 20 int[], 21 long[], 22 byte[], 23 boolean[], 24 Town[]) and how long -/
def bh_plan : List (Nat × Nat) :=
  let tw : List (Nat × Nat) := (7, 18) :: (List.replicate 8 (20, 12) ++ [(20, 4), (20, 32), (20, 384), (20, 16)])
  (9, 16) :: (tw ++ tw ++ [(6, 5), (20, 400), (24, 10), (24, 2), (2, 2), (20, 12), (8, 3), (20, 16), (20, 16), (20, 16), (4, 7), (5, 3), (20, 16), (20, 16), (0, 3), (20, 96), (20, 144), (3, 2), (20, 16), (20, 16), (20, 12), (21, 17)]
    ++ (List.replicate 12 tw).flatten
    ++ [(10, 33), (20, 560), (20, 560), (20, 5600), (20, 1120), (23, 2), (22, 400), (20, 12), (20, 12), (20, 16), (20, 16), (20, 16), (20, 16), (20, 16), (20, 16), (20, 16), (20, 16), (20, 16), (21, 17), (20, 144), (20, 16), (20, 16), (20, 16)])
def bh_tg (k : Nat) : Nat := (bh_plan.getD k (99, 0)).1
def bh_ln (k : Nat) : Nat := (bh_plan.getD k (99, 0)).2
/-- whether a class's field holds a reference -/
def bh_fr (ci j : Nat) : Bool := match bh_cls[ci]? with
  | some q => decide (1 < (q.2.1 j).2.2.1.length)
  | none => false
end
section
/-! ===== the table is the code: every instruction, every link ===== -/
def bh_O (m : Nat) : String := (bh_Y m).cls
def bh_at (i : Nat) (w : Jvm.Cond) : Bool := decide (lw_tbl[i]? = some w) && goodWord w
theorem bh_at_WS {i : Nat} {w : Jvm.Cond} (h : bh_at i w = true) : w ∈ bh_WS := by
  simp only [bh_at, Bool.and_eq_true, decide_eq_true_eq] at h
  exact bh_WS_of h.1 h.2
def bh_cc (c : Int) : Jvm.ClassFile.Cond := match c with
  | 0 => .eq
  | 1 => .ne
  | 2 => .lt
  | 3 => .ge
  | 4 => .gt
  | _ => .le
def bh_dc (m pc : Nat) (i : Instr) (len : Nat) : Bool := decide (decode (bh_B m) pc = .ok (i, len))
/-- the short form of an instruction with a place, or the long one -/
def bh_d4 (m pc len a : Nat) (c : Int) (f : Fin 4 → Instr) (g : Nat → Instr) : Bool :=
  if c = 1 then (if h : a < 4 then decide (len = 1) && bh_dc m pc (f ⟨a, h⟩) 1 else false) else decide (len = 2) && bh_dc m pc (g a) 2
def bh_ibI (a : Nat) : Instr := match a with
  | 0 => .iadd
  | 1 => .isub
  | 2 => .imul
  | 3 => .iand
  | 4 => .ior
  | 5 => .ixor
  | 6 => .ishl
  | 7 => .ishr
  | _ => .iushr
def bh_lbI (a : Nat) : Instr := match a with
  | 0 => .ladd
  | 1 => .lmul
  | _ => .lor
def bh_nat (a : Nat) : ArrayType := match a with
  | 20 => .int
  | 21 => .long
  | 22 => .byte
  | _ => .boolean
def bh_d1 (m pc len : Nat) (i : Instr) : Bool := decide (len = 1) && bh_dc m pc i 1
def bh_d3 (m pc len : Nat) (i : Instr) : Bool := decide (len = 3) && bh_dc m pc i 3
def bh_ok (m pc : Nat) (i : bh_I) : Bool :=
  match i with
  | (op, len, a, c, l) =>
    match op with
    | 0 => true
    | 1 => match a with
      | 0 => bh_d1 m pc len (.iconst c)
      | 1 => decide (len = 2) && bh_dc m pc (.bipush c) 2 && decide ((Int8.ofInt c).toInt32 = Int32.ofInt c)
      | 2 => decide (len = 3) && bh_dc m pc (.sipush c) 3 && decide ((Int16.ofInt c).toInt32 = Int32.ofInt c)
      | 3 => decide (len = 2) && bh_dc m pc (.ldc (l.getD 0 0)) 2 && bh_at (l.getD 1 0) (.constant (bh_O m) (l.getD 0 0) (Int32.ofInt c))
      | _ => bh_d3 m pc len (.ldc_w (l.getD 0 0)) && bh_at (l.getD 1 0) (.constant (bh_O m) (l.getD 0 0) (Int32.ofInt c))
    | 2 => match a with
      | 0 => if c = 0 then bh_d1 m pc len (.lconst 0) else decide (c = 1) && bh_d1 m pc len (.lconst 1)
      | _ => bh_d3 m pc len (.ldc2_w (l.getD 0 0)) && bh_at (l.getD 1 0) (.constantLong (bh_O m) (l.getD 0 0) (Int64.ofInt c))
    | 3 => bh_d4 m pc len a c .iload_n .iload
    | 4 => bh_d4 m pc len a c .lload_n .lload
    | 5 => bh_d4 m pc len a c .aload_n .aload
    | 6 => bh_d4 m pc len a c .istore_n .istore
    | 7 => bh_d4 m pc len a c .lstore_n .lstore
    | 8 => bh_d4 m pc len a c .astore_n .astore
    | 9 => bh_d3 m pc len (.iinc a c)
    | 10 => bh_d1 m pc len (bh_ibI a)
    | 11 => bh_d1 m pc len .idiv
    | 12 => bh_d1 m pc len .irem
    | 13 => bh_d1 m pc len (bh_lbI a)
    | 14 => bh_d1 m pc len .lshl
    | 15 => bh_d1 m pc len .i2l
    | 16 => bh_d1 m pc len .i2b
    | 17 => bh_d1 m pc len .lcmp
    | 18 => bh_d1 m pc len .dup
    | 19 => bh_d1 m pc len .pop
    | 20 => bh_d1 m pc len .dup2
    | 21 => bh_d3 m pc len (.ifCond (bh_cc c) ((a : Int) - pc))
    | 22 => bh_d3 m pc len (.if_icmp (bh_cc c) ((a : Int) - pc))
    | 23 => bh_d3 m pc len (.goto ((a : Int) - pc))
    | 24 => bh_dc m pc (.tableswitch ((a : Int) - pc) c (c + l.length - 1) (l.map (fun t : Nat => (t : Int) - pc)).toArray) len
    | 25 => match bh_FL[a]? with
      | some q => bh_d3 m pc len (.getfield q.2.1) && decide (q.1 = bh_O m)
      | none => false
    | 26 => match bh_FL[a]? with
      | some q => bh_d3 m pc len (.putfield q.2.1) && decide (q.1 = bh_O m) && (match bh_cls[q.2.2.1]? with
        | some t => (t.2.1 q.2.2.2).2.2.2 == bh_fr q.2.2.1 q.2.2.2 && (!(bh_fr q.2.2.1 q.2.2.2) || (decide ((bh_Y m).name = "<init>") && decide ((t.2.1 q.2.2.2).1 = bh_O m)))
        | none => false)
      | none => false
    | 27 => bh_d1 m pc len .iaload
    | 28 => bh_d1 m pc len .iastore
    | 29 => bh_d1 m pc len .baload
    | 30 => bh_d1 m pc len .bastore
    | 31 => bh_d1 m pc len .laload
    | 32 => bh_d1 m pc len .lastore
    | 33 => bh_d1 m pc len .aaload
    | 34 => bh_d1 m pc len .aastore
    | 35 => bh_d1 m pc len .arraylength
    | 36 => match bh_cls[a]? with
      | some t => bh_d3 m pc len (.new c.toNat) && bh_at (l.getD 0 0) (.classLink (bh_O m) c.toNat t.1) && bh_at (l.getD 1 0) (.instantiable t.1 t.2.2) && bh_at (l.getD 2 0) (.initialized t.1)
      | none => false
    | 37 => decide (20 ≤ a ∧ a ≤ 23) && decide (len = 2) && bh_dc m pc (.newarray (bh_nat a)) 2
    | 38 => bh_d3 m pc len (.anewarray c.toNat) && bh_at (l.getD 0 0) (.classLink (bh_O m) c.toNat "BorrowedHands$Town")
    | 39 => bh_d3 m pc len (.invokespecial c.toNat) && bh_at (l.getD 0 0) (.methodLink (bh_O m) c.toNat Lib.objectInit)
    | 40 => match bh_ML[a]? with
      | some q => decide (q.1 = bh_O m) && bh_d3 m pc len (match q.2.2.2 with
        | 0 => .invokevirtual q.2.1
        | 1 => .invokestatic q.2.1
        | 2 => .invokespecial q.2.1
        | 3 => .invokestatic q.2.1
        | _ => .invokespecial q.2.1)
      | none => false
    | 41 => bh_d1 m pc len .ireturn
    | 42 => bh_d1 m pc len .lreturn
    | 43 => bh_d1 m pc len .areturn
    | 44 => bh_d1 m pc len .return_
    | 45 => decide (len = 2) && bh_dc m pc (.ldc c.toNat) 2 && (match bh_ST[a]? with
      | some q => decide (q.1 = bh_O m ∧ q.2.1 = c.toNat)
      | none => false)
    | 46 => bh_d3 m pc len (.invokevirtual c.toNat) && bh_at (l.getD 0 0) (.methodLink (bh_O m) c.toNat yJ0_length_8abf5)
    | 47 => bh_d3 m pc len (.invokevirtual c.toNat) && bh_at (l.getD 0 0) (.methodLink (bh_O m) c.toNat yJ0_charAt_5068e)
    | 48 => bh_d3 m pc len (.invokestatic c.toNat) && bh_at (l.getD 0 0) (.methodLink (bh_O m) c.toNat arraycopyName)
    | 49 => bh_d3 m pc len (.invokestatic c.toNat) && bh_at (l.getD 0 0) (.methodLink (bh_O m) c.toNat Lib.Math.max.name)
    | 50 => bh_d3 m pc len (.invokestatic c.toNat) && bh_at (l.getD 0 0) (.methodLink (bh_O m) c.toNat Lib.Math.min.name)
    | _ => false
def bh_okm (m : Nat) : Bool := (bh_codes.getD m []).zipIdx.all (fun q => bh_ok m q.2 q.1)
def bh_fw (q : String × Nat × Nat × Nat) : Jvm.Cond := match bh_cls[q.2.2.1]? with
  | some t => .fieldLink q.1 q.2.1 (t.2.1 q.2.2.2).1 (t.2.1 q.2.2.2).2.1 (t.2.1 q.2.2.2).2.2.1
  | none => .count 0
def bh_fok (i : Nat) : Bool := match bh_FL[i]?, bh_FLp[i]? with
  | some q, some p => bh_at p (bh_fw q) && (match bh_cls[q.2.2.1]? with
    | some t => decide (q.2.2.2 < t.2.2)
    | none => false)
  | _, _ => false
def bh_mh (y : MethodName) : Bool := decide (y.cls ≠ "java/lang/invoke/MethodHandle") && decide (y.cls ≠ "java/lang/invoke/VarHandle")
def bh_mok (i : Nat) : Bool := match bh_ML[i]?, bh_MLp[i]? with
  | some q, some p => decide (q.2.2.1 < 261) && bh_at p.2.2.2 (.initialized (bh_Y q.2.2.1).cls) && bh_mh (bh_Y q.2.2.1) && (match q.2.2.2 with
    | 0 => bh_at p.1 (.methodLink q.1 q.2.1 (bh_Y q.2.2.1)) && bh_at p.2.1 (.instanceMethod (bh_Y q.2.2.1)) && bh_at p.2.2.1 (.selects (bh_Y q.2.2.1).cls (bh_Y q.2.2.1) (bh_Y q.2.2.1)) && decide ((parseMethodDescriptor (bh_Y q.2.2.1).desc).map (fun d => d.parameters.length + 1) = some (bh_na q.2.2.1)) && decide ((bh_cls[bh_ci q.2.2.1]?).map (fun t => t.1) = some (bh_Y q.2.2.1).cls)
    | 1 => bh_at p.1 (.methodLink q.1 q.2.1 (bh_Y q.2.2.1)) && bh_at p.2.1 (.static (bh_Y q.2.2.1)) && decide ((parseMethodDescriptor (bh_Y q.2.2.1).desc).map (fun d => d.parameters.length) = some (bh_na q.2.2.1))
    | 2 => bh_at p.1 (.methodLink q.1 q.2.1 (bh_Y q.2.2.1)) && bh_at p.2.1 (.instanceMethod (bh_Y q.2.2.1)) && decide ((bh_Y q.2.2.1).name = "<init>") && decide (bh_rt q.2.2.1 = none) && decide ((parseMethodDescriptor (bh_Y q.2.2.1).desc).map (fun d => d.parameters.length + 1) = some (bh_na q.2.2.1))
    | 3 => decide (lw_tbl[p.1]? = some (.methodLinkNest q.1 q.2.1 (bh_Y q.2.2.1) "BorrowedHands")) && bh_at p.2.1 (.static (bh_Y q.2.2.1)) && decide ((parseMethodDescriptor (bh_Y q.2.2.1).desc).map (fun d => d.parameters.length) = some (bh_na q.2.2.1))
    | 4 => decide (lw_tbl[p.1]? = some (.methodLinkNest q.1 q.2.1 (bh_Y q.2.2.1) "BorrowedHands")) && bh_at p.2.1 (.instanceMethod (bh_Y q.2.2.1)) && decide ((bh_Y q.2.2.1).name = "<init>") && decide (bh_rt q.2.2.1 = none) && decide ((parseMethodDescriptor (bh_Y q.2.2.1).desc).map (fun d => d.parameters.length + 1) = some (bh_na q.2.2.1))
    | _ => false)
  | _, _ => false
def bh_cok (m : Nat) : Bool := plainName (bh_Y m).cls && decide (bh_mL m ≤ 40) && decide (bh_na m ≤ bh_mL m) && (decide (m = m_L_law) || bh_at (bh_cdp.getD m 0) (.code (bh_Y m) (bh_B m) (bh_mL m) (bh_rt m)))
def bh_ty (ci : Nat) : Nat → FieldType := match ci with
  | 0 => tyX0
  | 1 => tyX1
  | 2 => tyX2
  | 3 => tyX3
  | 4 => tyX4
  | 5 => tyX5
  | 6 => tyX6
  | 7 => tyX7
  | 8 => tyX8
  | 9 => tyX9
  | _ => tyX10
def bh_uok (ci : Nat) : Bool := match bh_cls[ci]? with
  | some t => (u_ws t.1 t.2.1 t.2.2).all (fun w => decide (w ∈ bh_WS)) && (List.range t.2.2).all (fun k => decide (parseFieldDescriptor (t.2.1 k).2.2.1 = some (bh_ty ci k)) && (if bh_fr ci k then decide (bh_ty ci k ≠ .int) && decide (defaultValue (bh_ty ci k) = .null) else decide (bh_ty ci k = .int))) && (List.range t.2.2).all (fun a => (List.range t.2.2).all (fun b => decide (a = b) || decide ((t.2.1 a).2.1 ≠ (t.2.1 b).2.1)))
  | none => false
def bh_pok (k : Nat) : Bool := (match bh_cls[bh_tg k]? with
  | some t => decide (t.2.2 = bh_ln k)
  | none => true) && decide (bh_ln k < 10000)
end
section
set_option maxRecDepth 100000 in
theorem okm_0 : (List.range' 0 10).all bh_okm = true := by decide +kernel
set_option maxRecDepth 100000 in
theorem okm_1 : (List.range' 10 10).all bh_okm = true := by decide +kernel
set_option maxRecDepth 100000 in
theorem okm_2 : (List.range' 20 10).all bh_okm = true := by decide +kernel
set_option maxRecDepth 100000 in
theorem okm_3 : (List.range' 30 10).all bh_okm = true := by decide +kernel
set_option maxRecDepth 100000 in
theorem okm_4 : (List.range' 40 10).all bh_okm = true := by decide +kernel
set_option maxRecDepth 100000 in
theorem okm_5 : (List.range' 50 10).all bh_okm = true := by decide +kernel
set_option maxRecDepth 100000 in
theorem okm_6 : (List.range' 60 10).all bh_okm = true := by decide +kernel
set_option maxRecDepth 100000 in
theorem okm_7 : (List.range' 70 10).all bh_okm = true := by decide +kernel
set_option maxRecDepth 100000 in
theorem okm_8 : (List.range' 80 10).all bh_okm = true := by decide +kernel
set_option maxRecDepth 100000 in
theorem okm_9 : (List.range' 90 10).all bh_okm = true := by decide +kernel
set_option maxRecDepth 100000 in
theorem okm_10 : (List.range' 100 10).all bh_okm = true := by decide +kernel
set_option maxRecDepth 100000 in
theorem okm_11 : (List.range' 110 10).all bh_okm = true := by decide +kernel
set_option maxRecDepth 100000 in
theorem okm_12 : (List.range' 120 10).all bh_okm = true := by decide +kernel
set_option maxRecDepth 100000 in
theorem okm_13 : (List.range' 130 10).all bh_okm = true := by decide +kernel
set_option maxRecDepth 100000 in
theorem okm_14 : (List.range' 140 10).all bh_okm = true := by decide +kernel
set_option maxRecDepth 100000 in
theorem okm_15 : (List.range' 150 10).all bh_okm = true := by decide +kernel
set_option maxRecDepth 100000 in
theorem okm_16 : (List.range' 160 10).all bh_okm = true := by decide +kernel
set_option maxRecDepth 100000 in
theorem okm_17 : (List.range' 170 10).all bh_okm = true := by decide +kernel
set_option maxRecDepth 100000 in
theorem okm_18 : (List.range' 180 10).all bh_okm = true := by decide +kernel
set_option maxRecDepth 100000 in
theorem okm_19 : (List.range' 190 10).all bh_okm = true := by decide +kernel
set_option maxRecDepth 100000 in
theorem okm_20 : (List.range' 200 10).all bh_okm = true := by decide +kernel
set_option maxRecDepth 100000 in
theorem okm_21 : (List.range' 210 10).all bh_okm = true := by decide +kernel
set_option maxRecDepth 100000 in
theorem okm_22 : (List.range' 220 10).all bh_okm = true := by decide +kernel
set_option maxRecDepth 100000 in
theorem okm_23 : (List.range' 230 10).all bh_okm = true := by decide +kernel
set_option maxRecDepth 100000 in
theorem okm_24 : (List.range' 240 10).all bh_okm = true := by decide +kernel
set_option maxRecDepth 100000 in
theorem okm_25 : (List.range' 250 9).all bh_okm = true := by decide +kernel
theorem okm_all {m : Nat} (hm : m < 259) : bh_okm m = true := by
  have h : (0 ≤ m ∧ m < 10) ∨ (10 ≤ m ∧ m < 20) ∨ (20 ≤ m ∧ m < 30) ∨ (30 ≤ m ∧ m < 40) ∨ (40 ≤ m ∧ m < 50) ∨ (50 ≤ m ∧ m < 60) ∨ (60 ≤ m ∧ m < 70) ∨ (70 ≤ m ∧ m < 80) ∨ (80 ≤ m ∧ m < 90) ∨ (90 ≤ m ∧ m < 100) ∨ (100 ≤ m ∧ m < 110) ∨ (110 ≤ m ∧ m < 120) ∨ (120 ≤ m ∧ m < 130) ∨ (130 ≤ m ∧ m < 140) ∨ (140 ≤ m ∧ m < 150) ∨ (150 ≤ m ∧ m < 160) ∨ (160 ≤ m ∧ m < 170) ∨ (170 ≤ m ∧ m < 180) ∨ (180 ≤ m ∧ m < 190) ∨ (190 ≤ m ∧ m < 200) ∨ (200 ≤ m ∧ m < 210) ∨ (210 ≤ m ∧ m < 220) ∨ (220 ≤ m ∧ m < 230) ∨ (230 ≤ m ∧ m < 240) ∨ (240 ≤ m ∧ m < 250) ∨ (250 ≤ m ∧ m < 259) := by omega
  rcases h with h | h | h | h | h | h | h | h | h | h | h | h | h | h | h | h | h | h | h | h | h | h | h | h | h | h
  · exact List.all_eq_true.mp okm_0 m (List.mem_range'_1.mpr (by omega))
  · exact List.all_eq_true.mp okm_1 m (List.mem_range'_1.mpr (by omega))
  · exact List.all_eq_true.mp okm_2 m (List.mem_range'_1.mpr (by omega))
  · exact List.all_eq_true.mp okm_3 m (List.mem_range'_1.mpr (by omega))
  · exact List.all_eq_true.mp okm_4 m (List.mem_range'_1.mpr (by omega))
  · exact List.all_eq_true.mp okm_5 m (List.mem_range'_1.mpr (by omega))
  · exact List.all_eq_true.mp okm_6 m (List.mem_range'_1.mpr (by omega))
  · exact List.all_eq_true.mp okm_7 m (List.mem_range'_1.mpr (by omega))
  · exact List.all_eq_true.mp okm_8 m (List.mem_range'_1.mpr (by omega))
  · exact List.all_eq_true.mp okm_9 m (List.mem_range'_1.mpr (by omega))
  · exact List.all_eq_true.mp okm_10 m (List.mem_range'_1.mpr (by omega))
  · exact List.all_eq_true.mp okm_11 m (List.mem_range'_1.mpr (by omega))
  · exact List.all_eq_true.mp okm_12 m (List.mem_range'_1.mpr (by omega))
  · exact List.all_eq_true.mp okm_13 m (List.mem_range'_1.mpr (by omega))
  · exact List.all_eq_true.mp okm_14 m (List.mem_range'_1.mpr (by omega))
  · exact List.all_eq_true.mp okm_15 m (List.mem_range'_1.mpr (by omega))
  · exact List.all_eq_true.mp okm_16 m (List.mem_range'_1.mpr (by omega))
  · exact List.all_eq_true.mp okm_17 m (List.mem_range'_1.mpr (by omega))
  · exact List.all_eq_true.mp okm_18 m (List.mem_range'_1.mpr (by omega))
  · exact List.all_eq_true.mp okm_19 m (List.mem_range'_1.mpr (by omega))
  · exact List.all_eq_true.mp okm_20 m (List.mem_range'_1.mpr (by omega))
  · exact List.all_eq_true.mp okm_21 m (List.mem_range'_1.mpr (by omega))
  · exact List.all_eq_true.mp okm_22 m (List.mem_range'_1.mpr (by omega))
  · exact List.all_eq_true.mp okm_23 m (List.mem_range'_1.mpr (by omega))
  · exact List.all_eq_true.mp okm_24 m (List.mem_range'_1.mpr (by omega))
  · exact List.all_eq_true.mp okm_25 m (List.mem_range'_1.mpr (by omega))
set_option maxRecDepth 100000 in
theorem okm_260 : bh_okm 260 = true := by decide +kernel
end
section
set_option maxRecDepth 100000 in
theorem okL_0 : ((cd_L_law.zipIdx.drop 0).take 60).all (fun q => bh_ok 259 q.2 q.1) = true := by decide +kernel
set_option maxRecDepth 100000 in
theorem okL_1 : ((cd_L_law.zipIdx.drop 60).take 60).all (fun q => bh_ok 259 q.2 q.1) = true := by decide +kernel
set_option maxRecDepth 100000 in
theorem okL_2 : ((cd_L_law.zipIdx.drop 120).take 60).all (fun q => bh_ok 259 q.2 q.1) = true := by decide +kernel
set_option maxRecDepth 100000 in
theorem okL_3 : ((cd_L_law.zipIdx.drop 180).take 60).all (fun q => bh_ok 259 q.2 q.1) = true := by decide +kernel
set_option maxRecDepth 100000 in
theorem okL_4 : ((cd_L_law.zipIdx.drop 240).take 60).all (fun q => bh_ok 259 q.2 q.1) = true := by decide +kernel
set_option maxRecDepth 100000 in
theorem okL_5 : ((cd_L_law.zipIdx.drop 300).take 60).all (fun q => bh_ok 259 q.2 q.1) = true := by decide +kernel
set_option maxRecDepth 100000 in
theorem okL_6 : ((cd_L_law.zipIdx.drop 360).take 60).all (fun q => bh_ok 259 q.2 q.1) = true := by decide +kernel
set_option maxRecDepth 100000 in
theorem okL_7 : ((cd_L_law.zipIdx.drop 420).take 60).all (fun q => bh_ok 259 q.2 q.1) = true := by decide +kernel
set_option maxRecDepth 100000 in
theorem okL_8 : ((cd_L_law.zipIdx.drop 480).take 60).all (fun q => bh_ok 259 q.2 q.1) = true := by decide +kernel
set_option maxRecDepth 100000 in
theorem okL_9 : ((cd_L_law.zipIdx.drop 540).take 60).all (fun q => bh_ok 259 q.2 q.1) = true := by decide +kernel
set_option maxRecDepth 100000 in
theorem okL_10 : ((cd_L_law.zipIdx.drop 600).take 60).all (fun q => bh_ok 259 q.2 q.1) = true := by decide +kernel
set_option maxRecDepth 100000 in
theorem okL_11 : ((cd_L_law.zipIdx.drop 660).take 60).all (fun q => bh_ok 259 q.2 q.1) = true := by decide +kernel
set_option maxRecDepth 100000 in
theorem okL_12 : ((cd_L_law.zipIdx.drop 720).take 60).all (fun q => bh_ok 259 q.2 q.1) = true := by decide +kernel
set_option maxRecDepth 100000 in
theorem okL_13 : ((cd_L_law.zipIdx.drop 780).take 60).all (fun q => bh_ok 259 q.2 q.1) = true := by decide +kernel
set_option maxRecDepth 100000 in
theorem okL_14 : ((cd_L_law.zipIdx.drop 840).take 60).all (fun q => bh_ok 259 q.2 q.1) = true := by decide +kernel
set_option maxRecDepth 100000 in
theorem okL_15 : ((cd_L_law.zipIdx.drop 900).take 60).all (fun q => bh_ok 259 q.2 q.1) = true := by decide +kernel
set_option maxRecDepth 100000 in
theorem okL_16 : ((cd_L_law.zipIdx.drop 960).take 60).all (fun q => bh_ok 259 q.2 q.1) = true := by decide +kernel
set_option maxRecDepth 100000 in
theorem okL_17 : ((cd_L_law.zipIdx.drop 1020).take 60).all (fun q => bh_ok 259 q.2 q.1) = true := by decide +kernel
set_option maxRecDepth 100000 in
theorem okL_18 : ((cd_L_law.zipIdx.drop 1080).take 60).all (fun q => bh_ok 259 q.2 q.1) = true := by decide +kernel
set_option maxRecDepth 100000 in
theorem okL_19 : ((cd_L_law.zipIdx.drop 1140).take 60).all (fun q => bh_ok 259 q.2 q.1) = true := by decide +kernel
set_option maxRecDepth 100000 in
theorem okL_20 : ((cd_L_law.zipIdx.drop 1200).take 60).all (fun q => bh_ok 259 q.2 q.1) = true := by decide +kernel
set_option maxRecDepth 100000 in
theorem okL_21 : ((cd_L_law.zipIdx.drop 1260).take 60).all (fun q => bh_ok 259 q.2 q.1) = true := by decide +kernel
set_option maxRecDepth 100000 in
theorem okL_22 : ((cd_L_law.zipIdx.drop 1320).take 60).all (fun q => bh_ok 259 q.2 q.1) = true := by decide +kernel
set_option maxRecDepth 100000 in
theorem okL_23 : ((cd_L_law.zipIdx.drop 1380).take 60).all (fun q => bh_ok 259 q.2 q.1) = true := by decide +kernel
set_option maxRecDepth 100000 in
theorem okL_24 : ((cd_L_law.zipIdx.drop 1440).take 60).all (fun q => bh_ok 259 q.2 q.1) = true := by decide +kernel
set_option maxRecDepth 100000 in
theorem okL_25 : ((cd_L_law.zipIdx.drop 1500).take 60).all (fun q => bh_ok 259 q.2 q.1) = true := by decide +kernel
set_option maxRecDepth 100000 in
theorem okL_26 : ((cd_L_law.zipIdx.drop 1560).take 60).all (fun q => bh_ok 259 q.2 q.1) = true := by decide +kernel
set_option maxRecDepth 100000 in
theorem okL_27 : ((cd_L_law.zipIdx.drop 1620).take 60).all (fun q => bh_ok 259 q.2 q.1) = true := by decide +kernel
theorem okL_chunk {a n pc : Nat} {l : List bh_I} (h : ((l.zipIdx.drop a).take n).all (fun q => bh_ok 259 q.2 q.1) = true) (h1 : a ≤ pc) (h2 : pc < a + n) {i : bh_I} (hi : l[pc]? = some i) : bh_ok 259 pc i = true := by
  refine List.all_eq_true.mp h (i, pc) (List.mem_of_getElem? (i := pc - a) ?_)
  rw [List.getElem?_take_of_lt (by omega), List.getElem?_drop, show a + (pc - a) = pc by omega, List.getElem?_zipIdx, hi]
  simp
theorem okL_len : cd_L_law.length = 1639 := by decide +kernel
theorem okL_all {pc : Nat} {i : bh_I} (hi : cd_L_law[pc]? = some i) : bh_ok 259 pc i = true := by
  have hl := (List.getElem?_eq_some_iff.mp hi).1
  rw [okL_len] at hl
  have h : (0 ≤ pc ∧ pc < 60) ∨ (60 ≤ pc ∧ pc < 120) ∨ (120 ≤ pc ∧ pc < 180) ∨ (180 ≤ pc ∧ pc < 240) ∨ (240 ≤ pc ∧ pc < 300) ∨ (300 ≤ pc ∧ pc < 360) ∨ (360 ≤ pc ∧ pc < 420) ∨ (420 ≤ pc ∧ pc < 480) ∨ (480 ≤ pc ∧ pc < 540) ∨ (540 ≤ pc ∧ pc < 600) ∨ (600 ≤ pc ∧ pc < 660) ∨ (660 ≤ pc ∧ pc < 720) ∨ (720 ≤ pc ∧ pc < 780) ∨ (780 ≤ pc ∧ pc < 840) ∨ (840 ≤ pc ∧ pc < 900) ∨ (900 ≤ pc ∧ pc < 960) ∨ (960 ≤ pc ∧ pc < 1020) ∨ (1020 ≤ pc ∧ pc < 1080) ∨ (1080 ≤ pc ∧ pc < 1140) ∨ (1140 ≤ pc ∧ pc < 1200) ∨ (1200 ≤ pc ∧ pc < 1260) ∨ (1260 ≤ pc ∧ pc < 1320) ∨ (1320 ≤ pc ∧ pc < 1380) ∨ (1380 ≤ pc ∧ pc < 1440) ∨ (1440 ≤ pc ∧ pc < 1500) ∨ (1500 ≤ pc ∧ pc < 1560) ∨ (1560 ≤ pc ∧ pc < 1620) ∨ (1620 ≤ pc ∧ pc < 1680) := by omega
  rcases h with h | h | h | h | h | h | h | h | h | h | h | h | h | h | h | h | h | h | h | h | h | h | h | h | h | h | h | h
  · exact okL_chunk okL_0 h.1 h.2 hi
  · exact okL_chunk okL_1 h.1 h.2 hi
  · exact okL_chunk okL_2 h.1 h.2 hi
  · exact okL_chunk okL_3 h.1 h.2 hi
  · exact okL_chunk okL_4 h.1 h.2 hi
  · exact okL_chunk okL_5 h.1 h.2 hi
  · exact okL_chunk okL_6 h.1 h.2 hi
  · exact okL_chunk okL_7 h.1 h.2 hi
  · exact okL_chunk okL_8 h.1 h.2 hi
  · exact okL_chunk okL_9 h.1 h.2 hi
  · exact okL_chunk okL_10 h.1 h.2 hi
  · exact okL_chunk okL_11 h.1 h.2 hi
  · exact okL_chunk okL_12 h.1 h.2 hi
  · exact okL_chunk okL_13 h.1 h.2 hi
  · exact okL_chunk okL_14 h.1 h.2 hi
  · exact okL_chunk okL_15 h.1 h.2 hi
  · exact okL_chunk okL_16 h.1 h.2 hi
  · exact okL_chunk okL_17 h.1 h.2 hi
  · exact okL_chunk okL_18 h.1 h.2 hi
  · exact okL_chunk okL_19 h.1 h.2 hi
  · exact okL_chunk okL_20 h.1 h.2 hi
  · exact okL_chunk okL_21 h.1 h.2 hi
  · exact okL_chunk okL_22 h.1 h.2 hi
  · exact okL_chunk okL_23 h.1 h.2 hi
  · exact okL_chunk okL_24 h.1 h.2 hi
  · exact okL_chunk okL_25 h.1 h.2 hi
  · exact okL_chunk okL_26 h.1 h.2 hi
  · exact okL_chunk okL_27 h.1 h.2 hi
theorem bh_ok_of {m : Nat} (hm : m < 261) (pc : Nat) : bh_ok m pc (bh_cod m pc) = true := by
  by_cases hL : m = 259
  · subst hL
    show bh_ok 259 pc (cd_L_law.getD pc bz) = true
    rw [List.getD_eq_getElem?_getD]
    cases hi : cd_L_law[pc]? with
    | none => rfl
    | some i => exact okL_all hi
  · have h0 : bh_okm m = true := by
      by_cases h2 : m = 260
      · subst h2; exact okm_260
      · exact okm_all (by omega)
    unfold bh_okm at h0
    unfold bh_cod
    generalize bh_codes.getD m [] = l at h0 ⊢
    by_cases h : pc < l.length
    · have h1 := List.all_eq_true.mp h0 (l[pc], pc) (List.mem_zipIdx_iff_getElem?.mpr (List.getElem?_eq_getElem h))
      rw [List.getD_eq_getElem?_getD, List.getElem?_eq_getElem h]
      exact h1
    · rw [List.getD_eq_getElem?_getD, List.getElem?_eq_none (by omega)]
      rfl
end
section
/-! links of fields -/
set_option maxRecDepth 100000 in
theorem bh_fok_all : (List.range bh_FL.length).all bh_fok = true := by decide +kernel
theorem bh_fok_of {i : Nat} {q : String × Nat × Nat × Nat} (h : bh_FL[i]? = some q) : ∃ t, bh_cls[q.2.2.1]? = some t ∧ q.2.2.2 < t.2.2 ∧ Jvm.Cond.fieldLink q.1 q.2.1 (t.2.1 q.2.2.2).1 (t.2.1 q.2.2.2).2.1 (t.2.1 q.2.2.2).2.2.1 ∈ bh_WS := by
  have h1 := List.all_eq_true.mp bh_fok_all i (List.mem_range.mpr (List.getElem?_eq_some_iff.mp h).1)
  unfold bh_fok at h1
  rw [h] at h1
  cases hp : bh_FLp[i]? with
  | none => rw [hp] at h1; cases h1
  | some p =>
    rw [hp] at h1
    simp only [Bool.and_eq_true] at h1
    obtain ⟨h2, h3⟩ := h1
    have h4 := bh_at_WS h2
    unfold bh_fw at h4
    cases ht : bh_cls[q.2.2.1]? with
    | none => rw [ht] at h3; cases h3
    | some t =>
      rw [ht] at h3 h4
      exact ⟨t, rfl, of_decide_eq_true h3, h4⟩
/-! links of methods -/
set_option maxRecDepth 100000 in
theorem mok_0 : (List.range' 0 10).all bh_mok = true := by decide +kernel
set_option maxRecDepth 100000 in
theorem mok_1 : (List.range' 10 10).all bh_mok = true := by decide +kernel
set_option maxRecDepth 100000 in
theorem mok_2 : (List.range' 20 10).all bh_mok = true := by decide +kernel
set_option maxRecDepth 100000 in
theorem mok_3 : (List.range' 30 10).all bh_mok = true := by decide +kernel
set_option maxRecDepth 100000 in
theorem mok_4 : (List.range' 40 10).all bh_mok = true := by decide +kernel
set_option maxRecDepth 100000 in
theorem mok_5 : (List.range' 50 10).all bh_mok = true := by decide +kernel
set_option maxRecDepth 100000 in
theorem mok_6 : (List.range' 60 10).all bh_mok = true := by decide +kernel
set_option maxRecDepth 100000 in
theorem mok_7 : (List.range' 70 10).all bh_mok = true := by decide +kernel
set_option maxRecDepth 100000 in
theorem mok_8 : (List.range' 80 10).all bh_mok = true := by decide +kernel
set_option maxRecDepth 100000 in
theorem mok_9 : (List.range' 90 10).all bh_mok = true := by decide +kernel
set_option maxRecDepth 100000 in
theorem mok_10 : (List.range' 100 10).all bh_mok = true := by decide +kernel
set_option maxRecDepth 100000 in
theorem mok_11 : (List.range' 110 10).all bh_mok = true := by decide +kernel
set_option maxRecDepth 100000 in
theorem mok_12 : (List.range' 120 10).all bh_mok = true := by decide +kernel
set_option maxRecDepth 100000 in
theorem mok_13 : (List.range' 130 10).all bh_mok = true := by decide +kernel
set_option maxRecDepth 100000 in
theorem mok_14 : (List.range' 140 10).all bh_mok = true := by decide +kernel
set_option maxRecDepth 100000 in
theorem mok_15 : (List.range' 150 10).all bh_mok = true := by decide +kernel
set_option maxRecDepth 100000 in
theorem mok_16 : (List.range' 160 10).all bh_mok = true := by decide +kernel
set_option maxRecDepth 100000 in
theorem mok_17 : (List.range' 170 10).all bh_mok = true := by decide +kernel
set_option maxRecDepth 100000 in
theorem mok_18 : (List.range' 180 10).all bh_mok = true := by decide +kernel
set_option maxRecDepth 100000 in
theorem mok_19 : (List.range' 190 10).all bh_mok = true := by decide +kernel
set_option maxRecDepth 100000 in
theorem mok_20 : (List.range' 200 10).all bh_mok = true := by decide +kernel
set_option maxRecDepth 100000 in
theorem mok_21 : (List.range' 210 10).all bh_mok = true := by decide +kernel
set_option maxRecDepth 100000 in
theorem mok_22 : (List.range' 220 10).all bh_mok = true := by decide +kernel
set_option maxRecDepth 100000 in
theorem mok_23 : (List.range' 230 10).all bh_mok = true := by decide +kernel
set_option maxRecDepth 100000 in
theorem mok_24 : (List.range' 240 10).all bh_mok = true := by decide +kernel
set_option maxRecDepth 100000 in
theorem mok_25 : (List.range' 250 10).all bh_mok = true := by decide +kernel
set_option maxRecDepth 100000 in
theorem mok_26 : (List.range' 260 10).all bh_mok = true := by decide +kernel
set_option maxRecDepth 100000 in
theorem mok_27 : (List.range' 270 10).all bh_mok = true := by decide +kernel
set_option maxRecDepth 100000 in
theorem mok_28 : (List.range' 280 10).all bh_mok = true := by decide +kernel
set_option maxRecDepth 100000 in
theorem mok_29 : (List.range' 290 1).all bh_mok = true := by decide +kernel
theorem mok_all {m : Nat} (hm : m < 291) : bh_mok m = true := by
  have h : (0 ≤ m ∧ m < 10) ∨ (10 ≤ m ∧ m < 20) ∨ (20 ≤ m ∧ m < 30) ∨ (30 ≤ m ∧ m < 40) ∨ (40 ≤ m ∧ m < 50) ∨ (50 ≤ m ∧ m < 60) ∨ (60 ≤ m ∧ m < 70) ∨ (70 ≤ m ∧ m < 80) ∨ (80 ≤ m ∧ m < 90) ∨ (90 ≤ m ∧ m < 100) ∨ (100 ≤ m ∧ m < 110) ∨ (110 ≤ m ∧ m < 120) ∨ (120 ≤ m ∧ m < 130) ∨ (130 ≤ m ∧ m < 140) ∨ (140 ≤ m ∧ m < 150) ∨ (150 ≤ m ∧ m < 160) ∨ (160 ≤ m ∧ m < 170) ∨ (170 ≤ m ∧ m < 180) ∨ (180 ≤ m ∧ m < 190) ∨ (190 ≤ m ∧ m < 200) ∨ (200 ≤ m ∧ m < 210) ∨ (210 ≤ m ∧ m < 220) ∨ (220 ≤ m ∧ m < 230) ∨ (230 ≤ m ∧ m < 240) ∨ (240 ≤ m ∧ m < 250) ∨ (250 ≤ m ∧ m < 260) ∨ (260 ≤ m ∧ m < 270) ∨ (270 ≤ m ∧ m < 280) ∨ (280 ≤ m ∧ m < 290) ∨ (290 ≤ m ∧ m < 291) := by omega
  rcases h with h | h | h | h | h | h | h | h | h | h | h | h | h | h | h | h | h | h | h | h | h | h | h | h | h | h | h | h | h | h
  · exact List.all_eq_true.mp mok_0 m (List.mem_range'_1.mpr (by omega))
  · exact List.all_eq_true.mp mok_1 m (List.mem_range'_1.mpr (by omega))
  · exact List.all_eq_true.mp mok_2 m (List.mem_range'_1.mpr (by omega))
  · exact List.all_eq_true.mp mok_3 m (List.mem_range'_1.mpr (by omega))
  · exact List.all_eq_true.mp mok_4 m (List.mem_range'_1.mpr (by omega))
  · exact List.all_eq_true.mp mok_5 m (List.mem_range'_1.mpr (by omega))
  · exact List.all_eq_true.mp mok_6 m (List.mem_range'_1.mpr (by omega))
  · exact List.all_eq_true.mp mok_7 m (List.mem_range'_1.mpr (by omega))
  · exact List.all_eq_true.mp mok_8 m (List.mem_range'_1.mpr (by omega))
  · exact List.all_eq_true.mp mok_9 m (List.mem_range'_1.mpr (by omega))
  · exact List.all_eq_true.mp mok_10 m (List.mem_range'_1.mpr (by omega))
  · exact List.all_eq_true.mp mok_11 m (List.mem_range'_1.mpr (by omega))
  · exact List.all_eq_true.mp mok_12 m (List.mem_range'_1.mpr (by omega))
  · exact List.all_eq_true.mp mok_13 m (List.mem_range'_1.mpr (by omega))
  · exact List.all_eq_true.mp mok_14 m (List.mem_range'_1.mpr (by omega))
  · exact List.all_eq_true.mp mok_15 m (List.mem_range'_1.mpr (by omega))
  · exact List.all_eq_true.mp mok_16 m (List.mem_range'_1.mpr (by omega))
  · exact List.all_eq_true.mp mok_17 m (List.mem_range'_1.mpr (by omega))
  · exact List.all_eq_true.mp mok_18 m (List.mem_range'_1.mpr (by omega))
  · exact List.all_eq_true.mp mok_19 m (List.mem_range'_1.mpr (by omega))
  · exact List.all_eq_true.mp mok_20 m (List.mem_range'_1.mpr (by omega))
  · exact List.all_eq_true.mp mok_21 m (List.mem_range'_1.mpr (by omega))
  · exact List.all_eq_true.mp mok_22 m (List.mem_range'_1.mpr (by omega))
  · exact List.all_eq_true.mp mok_23 m (List.mem_range'_1.mpr (by omega))
  · exact List.all_eq_true.mp mok_24 m (List.mem_range'_1.mpr (by omega))
  · exact List.all_eq_true.mp mok_25 m (List.mem_range'_1.mpr (by omega))
  · exact List.all_eq_true.mp mok_26 m (List.mem_range'_1.mpr (by omega))
  · exact List.all_eq_true.mp mok_27 m (List.mem_range'_1.mpr (by omega))
  · exact List.all_eq_true.mp mok_28 m (List.mem_range'_1.mpr (by omega))
  · exact List.all_eq_true.mp mok_29 m (List.mem_range'_1.mpr (by omega))
/-! the code of each method, but the law's, stands in the words; no name is a strange one; locals are few -/
set_option maxRecDepth 100000 in
theorem cok_0 : (List.range' 0 10).all bh_cok = true := by decide +kernel
set_option maxRecDepth 100000 in
theorem cok_1 : (List.range' 10 10).all bh_cok = true := by decide +kernel
set_option maxRecDepth 100000 in
theorem cok_2 : (List.range' 20 10).all bh_cok = true := by decide +kernel
set_option maxRecDepth 100000 in
theorem cok_3 : (List.range' 30 10).all bh_cok = true := by decide +kernel
set_option maxRecDepth 100000 in
theorem cok_4 : (List.range' 40 10).all bh_cok = true := by decide +kernel
set_option maxRecDepth 100000 in
theorem cok_5 : (List.range' 50 10).all bh_cok = true := by decide +kernel
set_option maxRecDepth 100000 in
theorem cok_6 : (List.range' 60 10).all bh_cok = true := by decide +kernel
set_option maxRecDepth 100000 in
theorem cok_7 : (List.range' 70 10).all bh_cok = true := by decide +kernel
set_option maxRecDepth 100000 in
theorem cok_8 : (List.range' 80 10).all bh_cok = true := by decide +kernel
set_option maxRecDepth 100000 in
theorem cok_9 : (List.range' 90 10).all bh_cok = true := by decide +kernel
set_option maxRecDepth 100000 in
theorem cok_10 : (List.range' 100 10).all bh_cok = true := by decide +kernel
set_option maxRecDepth 100000 in
theorem cok_11 : (List.range' 110 10).all bh_cok = true := by decide +kernel
set_option maxRecDepth 100000 in
theorem cok_12 : (List.range' 120 10).all bh_cok = true := by decide +kernel
set_option maxRecDepth 100000 in
theorem cok_13 : (List.range' 130 10).all bh_cok = true := by decide +kernel
set_option maxRecDepth 100000 in
theorem cok_14 : (List.range' 140 10).all bh_cok = true := by decide +kernel
set_option maxRecDepth 100000 in
theorem cok_15 : (List.range' 150 10).all bh_cok = true := by decide +kernel
set_option maxRecDepth 100000 in
theorem cok_16 : (List.range' 160 10).all bh_cok = true := by decide +kernel
set_option maxRecDepth 100000 in
theorem cok_17 : (List.range' 170 10).all bh_cok = true := by decide +kernel
set_option maxRecDepth 100000 in
theorem cok_18 : (List.range' 180 10).all bh_cok = true := by decide +kernel
set_option maxRecDepth 100000 in
theorem cok_19 : (List.range' 190 10).all bh_cok = true := by decide +kernel
set_option maxRecDepth 100000 in
theorem cok_20 : (List.range' 200 10).all bh_cok = true := by decide +kernel
set_option maxRecDepth 100000 in
theorem cok_21 : (List.range' 210 10).all bh_cok = true := by decide +kernel
set_option maxRecDepth 100000 in
theorem cok_22 : (List.range' 220 10).all bh_cok = true := by decide +kernel
set_option maxRecDepth 100000 in
theorem cok_23 : (List.range' 230 10).all bh_cok = true := by decide +kernel
set_option maxRecDepth 100000 in
theorem cok_24 : (List.range' 240 10).all bh_cok = true := by decide +kernel
set_option maxRecDepth 100000 in
theorem cok_25 : (List.range' 250 10).all bh_cok = true := by decide +kernel
set_option maxRecDepth 100000 in
theorem cok_26 : (List.range' 260 1).all bh_cok = true := by decide +kernel
theorem cok_all {m : Nat} (hm : m < 261) : bh_cok m = true := by
  have h : (0 ≤ m ∧ m < 10) ∨ (10 ≤ m ∧ m < 20) ∨ (20 ≤ m ∧ m < 30) ∨ (30 ≤ m ∧ m < 40) ∨ (40 ≤ m ∧ m < 50) ∨ (50 ≤ m ∧ m < 60) ∨ (60 ≤ m ∧ m < 70) ∨ (70 ≤ m ∧ m < 80) ∨ (80 ≤ m ∧ m < 90) ∨ (90 ≤ m ∧ m < 100) ∨ (100 ≤ m ∧ m < 110) ∨ (110 ≤ m ∧ m < 120) ∨ (120 ≤ m ∧ m < 130) ∨ (130 ≤ m ∧ m < 140) ∨ (140 ≤ m ∧ m < 150) ∨ (150 ≤ m ∧ m < 160) ∨ (160 ≤ m ∧ m < 170) ∨ (170 ≤ m ∧ m < 180) ∨ (180 ≤ m ∧ m < 190) ∨ (190 ≤ m ∧ m < 200) ∨ (200 ≤ m ∧ m < 210) ∨ (210 ≤ m ∧ m < 220) ∨ (220 ≤ m ∧ m < 230) ∨ (230 ≤ m ∧ m < 240) ∨ (240 ≤ m ∧ m < 250) ∨ (250 ≤ m ∧ m < 260) ∨ (260 ≤ m ∧ m < 261) := by omega
  rcases h with h | h | h | h | h | h | h | h | h | h | h | h | h | h | h | h | h | h | h | h | h | h | h | h | h | h | h
  · exact List.all_eq_true.mp cok_0 m (List.mem_range'_1.mpr (by omega))
  · exact List.all_eq_true.mp cok_1 m (List.mem_range'_1.mpr (by omega))
  · exact List.all_eq_true.mp cok_2 m (List.mem_range'_1.mpr (by omega))
  · exact List.all_eq_true.mp cok_3 m (List.mem_range'_1.mpr (by omega))
  · exact List.all_eq_true.mp cok_4 m (List.mem_range'_1.mpr (by omega))
  · exact List.all_eq_true.mp cok_5 m (List.mem_range'_1.mpr (by omega))
  · exact List.all_eq_true.mp cok_6 m (List.mem_range'_1.mpr (by omega))
  · exact List.all_eq_true.mp cok_7 m (List.mem_range'_1.mpr (by omega))
  · exact List.all_eq_true.mp cok_8 m (List.mem_range'_1.mpr (by omega))
  · exact List.all_eq_true.mp cok_9 m (List.mem_range'_1.mpr (by omega))
  · exact List.all_eq_true.mp cok_10 m (List.mem_range'_1.mpr (by omega))
  · exact List.all_eq_true.mp cok_11 m (List.mem_range'_1.mpr (by omega))
  · exact List.all_eq_true.mp cok_12 m (List.mem_range'_1.mpr (by omega))
  · exact List.all_eq_true.mp cok_13 m (List.mem_range'_1.mpr (by omega))
  · exact List.all_eq_true.mp cok_14 m (List.mem_range'_1.mpr (by omega))
  · exact List.all_eq_true.mp cok_15 m (List.mem_range'_1.mpr (by omega))
  · exact List.all_eq_true.mp cok_16 m (List.mem_range'_1.mpr (by omega))
  · exact List.all_eq_true.mp cok_17 m (List.mem_range'_1.mpr (by omega))
  · exact List.all_eq_true.mp cok_18 m (List.mem_range'_1.mpr (by omega))
  · exact List.all_eq_true.mp cok_19 m (List.mem_range'_1.mpr (by omega))
  · exact List.all_eq_true.mp cok_20 m (List.mem_range'_1.mpr (by omega))
  · exact List.all_eq_true.mp cok_21 m (List.mem_range'_1.mpr (by omega))
  · exact List.all_eq_true.mp cok_22 m (List.mem_range'_1.mpr (by omega))
  · exact List.all_eq_true.mp cok_23 m (List.mem_range'_1.mpr (by omega))
  · exact List.all_eq_true.mp cok_24 m (List.mem_range'_1.mpr (by omega))
  · exact List.all_eq_true.mp cok_25 m (List.mem_range'_1.mpr (by omega))
  · exact List.all_eq_true.mp cok_26 m (List.mem_range'_1.mpr (by omega))
/-! fields of each class: their words, their types -/
theorem bh_cls_of {ci : Nat} {t : vw_C} (h : bh_cls[ci]? = some t) : ci < 11 := by
  have := (List.getElem?_eq_some_iff.mp h).1
  exact this
set_option maxRecDepth 100000 in
theorem bh_uok_all : (List.range 11).all bh_uok = true := by decide +kernel
theorem bh_uok_of {ci : Nat} {t : vw_C} (h : bh_cls[ci]? = some t) : (∀ w ∈ u_ws t.1 t.2.1 t.2.2, w ∈ bh_WS) ∧ (∀ k, k < t.2.2 → parseFieldDescriptor (t.2.1 k).2.2.1 = some (bh_ty ci k)) ∧ (∀ k, k < t.2.2 → (bh_fr ci k = true → bh_ty ci k ≠ .int ∧ defaultValue (bh_ty ci k) = .null) ∧ (bh_fr ci k = false → bh_ty ci k = .int)) ∧ ∀ a, a < t.2.2 → ∀ b, b < t.2.2 → a ≠ b → (t.2.1 a).2.1 ≠ (t.2.1 b).2.1 := by
  have h1 := List.all_eq_true.mp bh_uok_all ci (List.mem_range.mpr (bh_cls_of h))
  unfold bh_uok at h1
  rw [h] at h1
  simp only [Bool.and_eq_true] at h1
  obtain ⟨⟨h2, h3⟩, h4⟩ := h1
  refine ⟨fun w hw => of_decide_eq_true (List.all_eq_true.mp h2 w hw), fun k hk => ?_, fun k hk => ?_, fun a ha b hb hab => ?_⟩
  · have := List.all_eq_true.mp h3 k (List.mem_range.mpr hk)
    simp only [Bool.and_eq_true] at this
    exact of_decide_eq_true this.1
  · have := List.all_eq_true.mp h3 k (List.mem_range.mpr hk)
    simp only [Bool.and_eq_true] at this
    have h5 := this.2
    refine ⟨fun e => ?_, fun e => ?_⟩
    · rw [if_pos e] at h5
      simp only [Bool.and_eq_true] at h5
      exact ⟨of_decide_eq_true h5.1, of_decide_eq_true h5.2⟩
    · rw [if_neg (by rw [e]; decide)] at h5
      exact of_decide_eq_true h5
  · have := List.all_eq_true.mp (List.all_eq_true.mp h4 a (List.mem_range.mpr ha)) b (List.mem_range.mpr hb)
    simp only [Bool.or_eq_true] at this
    rcases this with h5 | h5
    · exact absurd (of_decide_eq_true h5) hab
    · exact of_decide_eq_true h5
/-! the plan -/
set_option maxRecDepth 100000 in
theorem bh_pok_all : (List.range bh_plan.length).all bh_pok = true := by decide +kernel
theorem bh_plan_len : bh_plan.length = 228 := by decide +kernel
end
section
def bh_up2 {α : Type} (f : Nat → Nat → α) (k j : Nat) (x : α) : Nat → Nat → α := fun a => if a = k then (fun b => if b = j then x else f k b) else f a
def bh_upr {α : Type} (f : Nat → Nat → α) (k : Nat) (g : Nat → α) : Nat → Nat → α := fun a => if a = k then g else f a
def bh_cut (lv : List Value) (i : Nat) : List Value := match i with
  | 0 => lv
  | k + 1 => match lv[k]? with
    | some v => if v.category = 2 then lv.set k .null else lv
    | none => lv
def bh_sto (lv : List Value) (i : Nat) (v : Value) : List Value := (bh_cut lv i).set i v
def bh_stoL (lv : List Value) (i : Nat) (v : Value) : List Value := ((bh_cut lv i).set (i + 1) .null).set i v
def bh_ib (a : Nat) (x y : Int32) : Int32 := match a with
  | 0 => x + y
  | 1 => x - y
  | 2 => x * y
  | 3 => x &&& y
  | 4 => x ||| y
  | 5 => x ^^^ y
  | 6 => x <<< (y &&& 31)
  | 7 => x >>> (y &&& 31)
  | _ => (x.toUInt32 >>> (y.toUInt32 &&& Int32.toUInt32 31)).toInt32
def bh_lb (a : Nat) (x y : Int64) : Int64 := match a with
  | 0 => x + y
  | 1 => x * y
  | _ => x ||| y
def bh_cmp (c : Int) (x y : Int32) : Prop := match c with
  | 0 => x = y
  | 1 => ¬ x = y
  | 2 => x < y
  | 3 => y ≤ x
  | 4 => y < x
  | _ => x ≤ y
/-- next; returned; called -/
abbrev bh_N : Type := Nat × List Value × List Value × (Nat × Nat) × bh_H
abbrev bh_C : Type := Nat × List Value × Nat × List Value × List Value × (Nat × Nat)
abbrev bh_P : Type := Nat → List Value → List Value → Nat × Nat → bh_H → Prop
abbrev bh_Q : Type := Option Value → bh_H → Prop
def bh_in (i : Int32) (n : Nat) : Prop := vp_in i n
def bh_sl (j : Nat) : Nat := ((bh_ST.getD j ("", 0, "")).2.2).length
def bh_sc (j i : Nat) : Int32 := nI ((((bh_ST.getD j ("", 0, "")).2.2).toList.getD i 'a').toNat)
def bh_catsum (l : List Value) : Nat := (l.map fun v => v.category).sum
/-- one step, to one of three ends -/
def bh_st (m : Nat) (call : Nat → List Value → bh_H → bh_Q → Prop) (P : bh_P) (Q : bh_Q) (pc : Nat) (lv st : List Value) (u : Nat × Nat) (h : bh_H) : Prop :=
  match bh_cod m pc with
  | (op, len, a, c, l) =>
    match op with
    | 1 => P (pc + len) lv (.int (Int32.ofInt c) :: st) u h
    | 2 => P (pc + len) lv (.long (Int64.ofInt c) :: st) u h
    | 3 => ∃ x, lv[a]? = some (.int x) ∧ P (pc + len) lv (.int x :: st) u h
    | 4 => ∃ x, lv[a]? = some (.long x) ∧ P (pc + len) lv (.long x :: st) u h
    | 5 => ∃ x, lv[a]? = some (.ref x) ∧ P (pc + len) lv (.ref x :: st) u h
    | 6 => ∃ x s, st = .int x :: s ∧ a < bh_mL m ∧ P (pc + len) (bh_sto lv a (.int x)) s u h
    | 7 => ∃ x s, st = .long x :: s ∧ a + 1 < bh_mL m ∧ P (pc + len) (bh_stoL lv a (.long x)) s u h
    | 8 => ∃ x s, st = .ref x :: s ∧ a < bh_mL m ∧ P (pc + len) (bh_sto lv a (.ref x)) s u h
    | 9 => ∃ x, lv[a]? = some (.int x) ∧ a < bh_mL m ∧ P (pc + len) (bh_sto lv a (.int (x + Int32.ofInt c))) st u h
    | 10 => ∃ x y s, st = .int y :: .int x :: s ∧ P (pc + len) lv (.int (bh_ib a x y) :: s) u h
    | 11 => ∃ x y s, st = .int y :: .int x :: s ∧ ¬ y = 0 ∧ P (pc + len) lv (.int (x / y) :: s) u h
    | 12 => ∃ x y s, st = .int y :: .int x :: s ∧ ¬ y = 0 ∧ P (pc + len) lv (.int (x - x / y * y) :: s) u h
    | 13 => ∃ x y s, st = .long y :: .long x :: s ∧ P (pc + len) lv (.long (bh_lb a x y) :: s) u h
    | 14 => ∃ (x : Int64) (y : Int32) (s : List Value), st = .int y :: .long x :: s ∧ P (pc + len) lv (.long (x <<< (y.toInt64 &&& 63)) :: s) u h
    | 15 => ∃ (x : Int32) (s : List Value), st = .int x :: s ∧ P (pc + len) lv (.long x.toInt64 :: s) u h
    | 16 => ∃ (x : Int32) (s : List Value), st = .int x :: s ∧ P (pc + len) lv (.int x.toInt8.toInt32 :: s) u h
    | 17 => ∃ x y s, st = .long y :: .long x :: s ∧ P (pc + len) lv (.int (lg_cmp x y) :: s) u h
    | 18 => ∃ v s, st = v :: s ∧ v.category = 1 ∧ P (pc + len) lv (v :: v :: s) u h
    | 19 => ∃ v s, st = v :: s ∧ v.category = 1 ∧ P (pc + len) lv s u h
    | 20 => ∃ v w s, st = v :: w :: s ∧ v.category = 1 ∧ w.category = 1 ∧ P (pc + len) lv (v :: w :: v :: w :: s) u h
    | 21 => ∃ x s, st = .int x :: s ∧ (bh_cmp c x 0 → P a lv s u h) ∧ (¬ bh_cmp c x 0 → P (pc + len) lv s u h)
    | 22 => ∃ x y s, st = .int y :: .int x :: s ∧ (bh_cmp c x y → P a lv s u h) ∧ (¬ bh_cmp c x y → P (pc + len) lv s u h)
    | 23 => P a lv st u h
    | 24 => ∃ x s, st = .int x :: s ∧ ((¬ x.toInt < c ∧ ¬ c + l.length - 1 < x.toInt) → ∃ t, l[(x.toInt - c).toNat]? = some t ∧ P t lv s u h) ∧ ((x.toInt < c ∨ c + l.length - 1 < x.toInt) → P a lv s u h)
    | 25 => ∃ k s, st = .ref k :: s ∧ k < h.1 ∧ ∃ q, bh_FL[a]? = some q ∧ bh_tg k = q.2.2.1 ∧ q.2.2.2 < bh_ln k ∧
        ((bh_fr q.2.2.1 q.2.2.2 = true ∧ ∃ r, h.2.1 k q.2.2.2 = some r ∧ P (pc + len) lv (.ref r :: s) u h) ∨ (bh_fr q.2.2.1 q.2.2.2 = false ∧ P (pc + len) lv (.int (h.2.2.1 k q.2.2.2) :: s) u h))
    | 26 => ∃ q, bh_FL[a]? = some q ∧
        ((bh_fr q.2.2.1 q.2.2.2 = true ∧ ∃ r k s, st = .ref r :: .ref k :: s ∧ k < h.1 ∧ r < h.1 ∧ bh_tg k = q.2.2.1 ∧ q.2.2.2 < bh_ln k ∧ P (pc + len) lv s u (h.1, bh_up2 h.2.1 k q.2.2.2 (some r), h.2.2.1, h.2.2.2)) ∨
         (bh_fr q.2.2.1 q.2.2.2 = false ∧ ∃ x k s, st = .int x :: .ref k :: s ∧ k < h.1 ∧ bh_tg k = q.2.2.1 ∧ q.2.2.2 < bh_ln k ∧ P (pc + len) lv s u (h.1, h.2.1, bh_up2 h.2.2.1 k q.2.2.2 x, h.2.2.2)))
    | 27 => ∃ i k s, st = .int i :: .ref k :: s ∧
        ((k < h.1 ∧ bh_tg k = 20 ∧ vp_in i (bh_ln k) ∧ P (pc + len) lv (.int (h.2.2.1 k i.toNatClampNeg) :: s) u h) ∨ (k = 1000 ∧ vp_in i (h.2.2.1 1001 0).toNatClampNeg ∧ P (pc + len) lv (.int (h.2.2.1 1000 i.toNatClampNeg) :: s) u h))
    | 28 => ∃ x i k s, st = .int x :: .int i :: .ref k :: s ∧ k < h.1 ∧ bh_tg k = 20 ∧ vp_in i (bh_ln k) ∧ P (pc + len) lv s u (h.1, h.2.1, bh_up2 h.2.2.1 k i.toNatClampNeg x, h.2.2.2)
    | 29 => ∃ i k s, st = .int i :: .ref k :: s ∧ k < h.1 ∧ (bh_tg k = 22 ∨ bh_tg k = 23) ∧ vp_in i (bh_ln k) ∧ P (pc + len) lv (.int (h.2.2.1 k i.toNatClampNeg) :: s) u h
    | 30 => ∃ x i k s, st = .int x :: .int i :: .ref k :: s ∧ k < h.1 ∧ vp_in i (bh_ln k) ∧
        ((bh_tg k = 22 ∧ P (pc + len) lv s u (h.1, h.2.1, bh_up2 h.2.2.1 k i.toNatClampNeg (vp_nar .byte x), h.2.2.2)) ∨ (bh_tg k = 23 ∧ P (pc + len) lv s u (h.1, h.2.1, bh_up2 h.2.2.1 k i.toNatClampNeg (vp_nar .boolean x), h.2.2.2)))
    | 31 => ∃ i k s, st = .int i :: .ref k :: s ∧ k < h.1 ∧ bh_tg k = 21 ∧ vp_in i (bh_ln k) ∧ P (pc + len) lv (.long (h.2.2.2 k i.toNatClampNeg) :: s) u h
    | 32 => ∃ x i k s, st = .long x :: .int i :: .ref k :: s ∧ k < h.1 ∧ bh_tg k = 21 ∧ vp_in i (bh_ln k) ∧ P (pc + len) lv s u (h.1, h.2.1, h.2.2.1, bh_up2 h.2.2.2 k i.toNatClampNeg x)
    | 33 => ∃ i k s r, st = .int i :: .ref k :: s ∧ k < h.1 ∧ bh_tg k = 24 ∧ vp_in i (bh_ln k) ∧ h.2.1 k i.toNatClampNeg = some r ∧ P (pc + len) lv (.ref r :: s) u h
    | 34 => ∃ r i k s, st = .ref r :: .int i :: .ref k :: s ∧ k < h.1 ∧ r < h.1 ∧ bh_tg k = 24 ∧ bh_tg r = 7 ∧ vp_in i (bh_ln k) ∧ P (pc + len) lv s u (h.1, bh_up2 h.2.1 k i.toNatClampNeg (some r), h.2.2.1, h.2.2.2)
    | 35 => ∃ k s, st = .ref k :: s ∧ ((k < h.1 ∧ 20 ≤ bh_tg k ∧ bh_tg k ≤ 24 ∧ P (pc + len) lv (.int (nI (bh_ln k)) :: s) u h) ∨ (k = 1000 ∧ P (pc + len) lv (.int (h.2.2.1 1001 0) :: s) u h))
    | 36 => h.1 < 1000 ∧ bh_tg h.1 = a ∧ a < 20 ∧ u.1 + 1 ≤ bh_mc m ∧ u.2 + bh_ln h.1 ≤ bh_ms m ∧
        P (pc + len) lv (.ref h.1 :: st) (u.1 + 1, u.2 + bh_ln h.1) (h.1 + 1, bh_upr h.2.1 h.1 (fun _ => none), bh_upr h.2.2.1 h.1 (fun _ => 0), h.2.2.2)
    | 37 => ∃ n s, st = .int n :: s ∧ h.1 < 1000 ∧ bh_tg h.1 = a ∧ ¬ n < 0 ∧ n.toNatClampNeg = bh_ln h.1 ∧ bh_ln h.1 < 10000 ∧ u.1 + 1 ≤ bh_mc m ∧ u.2 + bh_ln h.1 ≤ bh_ms m ∧
        P (pc + len) lv (.ref h.1 :: s) (u.1 + 1, u.2 + bh_ln h.1) (h.1 + 1, h.2.1, bh_upr h.2.2.1 h.1 (fun _ => 0), bh_upr h.2.2.2 h.1 (fun _ => 0))
    | 38 => ∃ n s, st = .int n :: s ∧ h.1 < 1000 ∧ bh_tg h.1 = 24 ∧ ¬ n < 0 ∧ n.toNatClampNeg = bh_ln h.1 ∧ bh_ln h.1 < 10000 ∧ u.1 + 1 ≤ bh_mc m ∧ u.2 + bh_ln h.1 ≤ bh_ms m ∧
        P (pc + len) lv (.ref h.1 :: s) (u.1 + 1, u.2 + bh_ln h.1) (h.1 + 1, bh_upr h.2.1 h.1 (fun _ => none), h.2.2.1, h.2.2.2)
    | 39 => ∃ k s, st = .ref k :: s ∧ bh_catsum s ≤ 8 ∧ P (pc + len) lv s u h
    | 40 => ∃ q As s, bh_ML[a]? = some q ∧ st = As.reverse ++ s ∧ As.length = bh_na q.2.2.1 ∧ bh_catsum s ≤ 8 ∧ u.1 + bh_mc q.2.2.1 ≤ bh_mc m ∧ u.2 + bh_ms q.2.2.1 ≤ bh_ms m ∧
        (q.2.2.2 = 0 → ∃ k Bs, As = .ref k :: Bs ∧ k < h.1 ∧ bh_tg k = bh_ci q.2.2.1) ∧ (q.2.2.2 = 2 ∨ q.2.2.2 = 4 → ∃ k Bs, As = .ref k :: Bs) ∧
        call q.2.2.1 As h (fun r h' => h'.1 = h.1 + bh_mc q.2.2.1 ∧ P (pc + len) lv (r.toList ++ s) (u.1 + bh_mc q.2.2.1, u.2 + bh_ms q.2.2.1) h')
    | 41 => ∃ x, st = [.int x] ∧ (u.1 ≤ bh_mc m ∧ u.2 ≤ bh_ms m) ∧ (bh_rt m = some .int ∨ (bh_rt m = some .boolean ∧ (x = 0 ∨ x = 1))) ∧ Q (some (.int x)) h
    | 42 => ∃ x, st = [.long x] ∧ (u.1 ≤ bh_mc m ∧ u.2 ≤ bh_ms m) ∧ bh_rt m = some .long ∧ Q (some (.long x)) h
    | 43 => ∃ x, st = [.ref x] ∧ (u.1 ≤ bh_mc m ∧ u.2 ≤ bh_ms m) ∧ bh_rt m = some (.object "java/lang/String") ∧ Q (some (.ref x)) h
    | 44 => st = [] ∧ (u.1 ≤ bh_mc m ∧ u.2 ≤ bh_ms m) ∧ bh_rt m = none ∧ Q none h
    | 45 => P (pc + len) lv (.ref (1100 + a) :: st) u h
    | 46 => ∃ j s, st = .ref (1100 + j) :: s ∧ j < bh_ST.length ∧ bh_catsum s ≤ 8 ∧ (u.1 ≤ bh_mc m ∧ u.2 ≤ bh_ms m) ∧ P (pc + len) lv (.int (nI (bh_sl j)) :: s) u h
    | 47 => ∃ i j s, st = .int i :: .ref (1100 + j) :: s ∧ j < bh_ST.length ∧ bh_catsum s ≤ 8 ∧ (u.1 ≤ bh_mc m ∧ u.2 ≤ bh_ms m) ∧ vp_in i (bh_sl j) ∧ P (pc + len) lv (.int (bh_sc j i.toNatClampNeg) :: s) u h
    | 48 => ∃ n k s, st = .int n :: .int 0 :: .ref k :: .int 0 :: s ∧ ∃ k0 s0, s = .ref k0 :: s0 ∧ bh_catsum s0 ≤ 8 ∧ k < h.1 ∧ k0 < h.1 ∧ bh_tg k = 20 ∧ bh_tg k0 = 20 ∧ ¬ n < 0 ∧ n.toNatClampNeg ≤ bh_ln k ∧ n.toNatClampNeg ≤ bh_ln k0 ∧ k ≠ k0 ∧
        P (pc + len) lv s0 u (h.1, h.2.1, bh_upr h.2.2.1 k (va_cpy (h.2.2.1 k0) (h.2.2.1 k) 0 0 n.toNatClampNeg), h.2.2.2)
    | 49 => ∃ x y s, st = .int y :: .int x :: s ∧ bh_catsum s ≤ 8 ∧ (u.1 ≤ bh_mc m ∧ u.2 ≤ bh_ms m) ∧ P (pc + len) lv (.int (if x < y then y else x) :: s) u h
    | 50 => ∃ x y s, st = .int y :: .int x :: s ∧ bh_catsum s ≤ 8 ∧ (u.1 ≤ bh_mc m ∧ u.2 ≤ bh_ms m) ∧ P (pc + len) lv (.int (if y < x then y else x) :: s) u h
    | _ => False
/-- the least one that is closed under a step -/
def bh_wf (m : Nat) (call : Nat → List Value → bh_H → bh_Q → Prop) (Q : bh_Q) (pc : Nat) (lv st : List Value) (u : Nat × Nat) (h : bh_H) : Prop :=
  ∀ P : bh_P, (∀ pc lv st u h, bh_st m call P Q pc lv st u h → P pc lv st u h) → P pc lv st u h
def bh_lay : List Value → List Value
  | [] => []
  | .long x :: l => .long x :: .null :: bh_lay l
  | .double x :: l => .double x :: .null :: bh_lay l
  | v :: l => v :: bh_lay l
def bh_ent (m : Nat) (As : List Value) : List Value := bh_lay As ++ List.replicate (bh_mL m - (bh_lay As).length) .null
/-- a method called with these values on this heap comes to an end with Q, at most so many calls deep -/
def bh_wc : Nat → Nat → List Value → bh_H → bh_Q → Prop
  | 0, _, _, _, _ => False
  | d + 1, m, As, h, Q => (bh_lay As).length ≤ bh_mL m ∧ bh_wf m (bh_wc d) Q 0 (bh_ent m As) [] (0, 0) h
/-! ===== it grows with what it must come to ===== -/
theorem bh_st_mono {m : Nat} {c1 c2 : Nat → List Value → bh_H → bh_Q → Prop} {P1 P2 : bh_P} {Q1 Q2 : bh_Q} (hc : ∀ m As h q1 q2, (∀ r t, q1 r t → q2 r t) → c1 m As h q1 → c2 m As h q2) (hP : ∀ pc lv st u h, P1 pc lv st u h → P2 pc lv st u h) (hQ : ∀ r h, Q1 r h → Q2 r h)
    {pc : Nat} {lv st : List Value} {u : Nat × Nat} {h : bh_H} (H : bh_st m c1 P1 Q1 pc lv st u h) : bh_st m c2 P2 Q2 pc lv st u h := by
  unfold bh_st at H ⊢
  generalize bh_cod m pc = q at H ⊢
  obtain ⟨op, len, a, c, l⟩ := q
  dsimp only at H ⊢
  split at H
  case h_24 => obtain ⟨x, s, h1, h2, h3⟩ := H; exact ⟨x, s, h1, fun z => by obtain ⟨t, h4, h5⟩ := h2 z; exact ⟨t, h4, hP _ _ _ _ _ h5⟩, fun z => hP _ _ _ _ _ (h3 z)⟩
  case h_25 =>
    obtain ⟨k, s, h1, h2, q, h3, h4, h5, h6⟩ := H
    refine ⟨k, s, h1, h2, q, h3, h4, h5, ?_⟩
    rcases h6 with ⟨h7, r, h8, h9⟩ | ⟨h7, h8⟩
    · exact Or.inl ⟨h7, r, h8, hP _ _ _ _ _ h9⟩
    · exact Or.inr ⟨h7, hP _ _ _ _ _ h8⟩
  case h_26 =>
    obtain ⟨q, h1, h2⟩ := H
    refine ⟨q, h1, ?_⟩
    rcases h2 with ⟨h3, r, k, s, h4, h5, h6, h7, h8, h9⟩ | ⟨h3, x, k, s, h4, h5, h6, h7, h8⟩
    · exact Or.inl ⟨h3, r, k, s, h4, h5, h6, h7, h8, hP _ _ _ _ _ h9⟩
    · exact Or.inr ⟨h3, x, k, s, h4, h5, h6, h7, hP _ _ _ _ _ h8⟩
  case h_27 =>
    obtain ⟨i, k, s, h1, h2⟩ := H
    refine ⟨i, k, s, h1, ?_⟩
    rcases h2 with ⟨h3, h4, h5, h6⟩ | ⟨h3, h4, h5⟩
    · exact Or.inl ⟨h3, h4, h5, hP _ _ _ _ _ h6⟩
    · exact Or.inr ⟨h3, h4, hP _ _ _ _ _ h5⟩
  case h_30 =>
    obtain ⟨x, i, k, s, h1, h2, h3, h4⟩ := H
    refine ⟨x, i, k, s, h1, h2, h3, ?_⟩
    rcases h4 with ⟨h5, h6⟩ | ⟨h5, h6⟩
    · exact Or.inl ⟨h5, hP _ _ _ _ _ h6⟩
    · exact Or.inr ⟨h5, hP _ _ _ _ _ h6⟩
  case h_35 =>
    obtain ⟨k, s, h1, h2⟩ := H
    refine ⟨k, s, h1, ?_⟩
    rcases h2 with ⟨h3, h4, h5, h6⟩ | ⟨h3, h4⟩
    · exact Or.inl ⟨h3, h4, h5, hP _ _ _ _ _ h6⟩
    · exact Or.inr ⟨h3, hP _ _ _ _ _ h4⟩
  case h_40 =>
    obtain ⟨q, As, s, h1, h2, h3, h4, h5, h6, h7, h8, h9⟩ := H
    exact ⟨q, As, s, h1, h2, h3, h4, h5, h6, h7, h8, hc _ _ _ _ _ (fun r t z => ⟨z.1, hP _ _ _ _ _ z.2⟩) h9⟩
  case h_41 => obtain ⟨x, h1, h0, h2, h3⟩ := H; exact ⟨x, h1, h0, h2, hQ _ _ h3⟩
  case h_42 => obtain ⟨x, h1, h0, h2, h3⟩ := H; exact ⟨x, h1, h0, h2, hQ _ _ h3⟩
  case h_43 => obtain ⟨x, h1, h0, h2, h3⟩ := H; exact ⟨x, h1, h0, h2, hQ _ _ h3⟩
  case h_44 => obtain ⟨h1, h0, h2, h3⟩ := H; exact ⟨h1, h0, h2, hQ _ _ h3⟩
  case h_46 => obtain ⟨x, s, h1, h2, h3, h4, h5⟩ := H; exact ⟨x, s, h1, h2, h3, h4, hP _ _ _ _ _ h5⟩
  case h_47 => obtain ⟨x, y, s, h1, h2, h3, h4, h5, h6⟩ := H; exact ⟨x, y, s, h1, h2, h3, h4, h5, hP _ _ _ _ _ h6⟩
  case h_48 =>
    obtain ⟨n, k, s, h1, k0, s0, h2, h3, h4, h5, h6, h7, h8, h9, h10, h11, h12⟩ := H
    exact ⟨n, k, s, h1, k0, s0, h2, h3, h4, h5, h6, h7, h8, h9, h10, h11, hP _ _ _ _ _ h12⟩
  all_goals first
    | exact hP _ _ _ _ _ H
    | (obtain ⟨x, h1, h2⟩ := H; exact ⟨x, h1, hP _ _ _ _ _ h2⟩)
    | (obtain ⟨x, h1, h2, h3⟩ := H; exact ⟨x, h1, h2, hP _ _ _ _ _ h3⟩)
    | (obtain ⟨x, s, h1, h2⟩ := H; exact ⟨x, s, h1, hP _ _ _ _ _ h2⟩)
    | (obtain ⟨x, s, h1, h2, h3⟩ := H; exact ⟨x, s, h1, h2, hP _ _ _ _ _ h3⟩)
    | (obtain ⟨x, s, h1, h2, h3⟩ := H; exact ⟨x, s, h1, fun z => hP _ _ _ _ _ (h2 z), fun z => hP _ _ _ _ _ (h3 z)⟩)
    | (obtain ⟨x, y, s, h1, h2⟩ := H; exact ⟨x, y, s, h1, hP _ _ _ _ _ h2⟩)
    | (obtain ⟨x, y, s, h1, h2, h3⟩ := H; exact ⟨x, y, s, h1, h2, hP _ _ _ _ _ h3⟩)
    | (obtain ⟨x, y, s, h1, h2, h3⟩ := H; exact ⟨x, y, s, h1, fun z => hP _ _ _ _ _ (h2 z), fun z => hP _ _ _ _ _ (h3 z)⟩)
    | (obtain ⟨x, y, s, h1, h2, h3, h4⟩ := H; exact ⟨x, y, s, h1, h2, h3, hP _ _ _ _ _ h4⟩)
    | (obtain ⟨x, y, s, h1, h2, h3, h4, h5⟩ := H; exact ⟨x, y, s, h1, h2, h3, h4, hP _ _ _ _ _ h5⟩)
    | (obtain ⟨x, y, k, s, h1, h2, h3, h4, h5⟩ := H; exact ⟨x, y, k, s, h1, h2, h3, h4, hP _ _ _ _ _ h5⟩)
    | (obtain ⟨x, y, k, s, h1, h2, h3, h4, h5, h6⟩ := H; exact ⟨x, y, k, s, h1, h2, h3, h4, h5, hP _ _ _ _ _ h6⟩)
    | (obtain ⟨x, y, k, s, h1, h2, h3, h4, h5, h6, h7⟩ := H; exact ⟨x, y, k, s, h1, h2, h3, h4, h5, h6, hP _ _ _ _ _ h7⟩)
    | (obtain ⟨h1, h2, h3, h4, h5, h6⟩ := H; exact ⟨h1, h2, h3, h4, h5, hP _ _ _ _ _ h6⟩)
    | (obtain ⟨n, s, h1, h2, h3, h4, h5, h6, h7, h8, h9⟩ := H; exact ⟨n, s, h1, h2, h3, h4, h5, h6, h7, h8, hP _ _ _ _ _ h9⟩)
    | exact H
theorem bh_wf_mono {m : Nat} {c1 c2 : Nat → List Value → bh_H → bh_Q → Prop} {Q1 Q2 : bh_Q} (hc : ∀ m As h q1 q2, (∀ r t, q1 r t → q2 r t) → c1 m As h q1 → c2 m As h q2) (hQ : ∀ r h, Q1 r h → Q2 r h) {pc : Nat} {lv st : List Value} {u : Nat × Nat} {h : bh_H} (H : bh_wf m c1 Q1 pc lv st u h) : bh_wf m c2 Q2 pc lv st u h :=
  fun P hP => H P fun pc lv st u h z => hP _ _ _ _ _ (bh_st_mono hc (fun _ _ _ _ _ y => y) hQ z)
theorem bh_wc_mono {d : Nat} : ∀ {m : Nat} {As : List Value} {h : bh_H} {Q1 Q2 : bh_Q}, (∀ r h, Q1 r h → Q2 r h) → bh_wc d m As h Q1 → bh_wc d m As h Q2 := by
  induction d with
  | zero => intro m As h Q1 Q2 _ H; exact H
  | succ d ih => intro m As h Q1 Q2 hQ H; exact ⟨H.1, bh_wf_mono (c1 := bh_wc d) (c2 := bh_wc d) (fun _ _ _ _ _ hq z => ih hq z) hQ H.2⟩
theorem bh_wc_deep {d : Nat} : ∀ {m : Nat} {As : List Value} {h : bh_H} {Q : bh_Q}, bh_wc d m As h Q → bh_wc (d + 1) m As h Q := by
  induction d with
  | zero => intro m As h Q H; exact H.elim
  | succ d ih => intro m As h Q H; exact ⟨H.1, bh_wf_mono (c1 := bh_wc d) (c2 := bh_wc (d + 1)) (fun _ _ _ _ _ hq z => bh_wc_mono hq (ih z)) (fun _ _ z => z) H.2⟩
theorem bh_wc_le {d d' : Nat} (hd : d ≤ d') {m : Nat} {As : List Value} {h : bh_H} {Q : bh_Q} (H : bh_wc d m As h Q) : bh_wc d' m As h Q := by
  induction hd with
  | refl => exact H
  | step _ ih => exact bh_wc_deep ih
/-- a step -/
theorem bh_go {m d : Nat} {Q : bh_Q} {pc : Nat} {lv st : List Value} {u : Nat × Nat} {h : bh_H} (H : bh_st m (bh_wc d) (bh_wf m (bh_wc d) Q) Q pc lv st u h) : bh_wf m (bh_wc d) Q pc lv st u h :=
  fun P hP => hP _ _ _ _ _ (bh_st_mono (c1 := bh_wc d) (c2 := bh_wc d) (P1 := bh_wf m (bh_wc d) Q) (P2 := P) (Q1 := Q) (Q2 := Q) (fun _ _ _ _ _ hq z => bh_wc_mono hq z) (fun _ _ _ _ _ z => z P hP) (fun _ _ z => z) H)
end
section
/-! ===== the picture's cells on the machine's heap ===== -/
/-- numbers of the classes, of their slots, of the array classes; the first address; addresses of what lies outside (the script 1000, strings 1100 on); the script: its length, its ints -/
abbrev bh_G : Type := (Nat → ClassId) × (Nat → Nat → Nat) × (Nat → ClassId) × Nat × (Nat → Nat) × Nat × (Nat → Int32)
abbrev bh_gD (g : bh_G) : va_G := (g.1, g.2.1)
abbrev bh_gA (g : bh_G) : Nat → ClassId := g.2.2.1
abbrev bh_gB (g : bh_G) : Nat := g.2.2.2.1
abbrev bh_gX (g : bh_G) : Nat → Nat := g.2.2.2.2.1
abbrev bh_gL (g : bh_G) : Nat := g.2.2.2.2.2.1
abbrev bh_gS (g : bh_G) : Nat → Int32 := g.2.2.2.2.2.2
def bh_ad (g : bh_G) (k : Nat) : Nat := if k < 1000 then bh_gB g + k else bh_gX g k
def bh_tr (g : bh_G) (v : Value) : Value := match v with
  | .ref k => .ref (bh_ad g k)
  | v => v
theorem bh_tr_cat (g : bh_G) (v : Value) : (bh_tr g v).category = v.category := by cases v <;> rfl
abbrev bh_rg (g : bh_G) : Nat → Prop := fun q => bh_gB g ≤ q
def bh_fv (g : bh_G) (h : bh_H) (ci k j : Nat) : Value := if bh_fr ci j = true then va_rf ((h.2.1 k j).map (bh_ad g)) else .int (h.2.2.1 k j)
def bh_ar (g : bh_G) (h : bh_H) (k : Nat) : vp_A := (bh_ln k, if bh_tg k = 21 then .inr (.inl (h.2.2.2 k)) else if bh_tg k = 24 then .inr (.inr (.inr (.inr (fun j => (h.2.1 k j).map (bh_ad g))))) else .inl (h.2.2.1 k))
def bh_E (g : bh_G) (h : bh_H) (k : Nat) : va_E :=
  if bh_tg k < 20 then .inr (bh_tg k, (List.range (bh_ln k)).map (bh_fv g h (bh_tg k) k)) else .inl (bh_gA g (bh_tg k), bh_ar g h k)
def bh_ws (g : bh_G) (h : bh_H) : va_W := (List.range h.1).map (fun k => (bh_gB g + k, bh_E g h k))
def bh_tys (g : bh_G) : List (ClassId × FieldType) := [(bh_gA g 20, .int), (bh_gA g 21, .long), (bh_gA g 22, .byte), (bh_gA g 23, .boolean), (bh_gA g 24, .object "BorrowedHands$Town")]
theorem bh_ws_at (g : bh_G) {h : bh_H} {k : Nat} (hk : k < h.1) : (bh_ws g h)[k]? = some (bh_gB g + k, bh_E g h k) := by
  unfold bh_ws
  rw [List.getElem?_map, List.getElem?_range hk]
  rfl
theorem bh_ws_len (g : bh_G) (h : bh_H) : (bh_ws g h).length = h.1 := by simp [bh_ws]
theorem bh_ws_inv {g : bh_G} {h : bh_H} {k : Nat} {q : Nat × va_E} (hq : (bh_ws g h)[k]? = some q) : k < h.1 ∧ q = (bh_gB g + k, bh_E g h k) := by
  have hk : k < h.1 := by
    have := (List.getElem?_eq_some_iff.mp hq).1
    rw [bh_ws_len] at this
    exact this
  rw [bh_ws_at g hk] at hq
  exact ⟨hk, (Option.some.inj hq).symm⟩
theorem bh_ws_D (g : bh_G) (h : bh_H) : va_D (bh_rg g) (bh_ws g h) := by
  refine ⟨fun i j p q hi hj hpq => ?_, fun k q hk => ?_⟩
  · obtain ⟨-, rfl⟩ := bh_ws_inv hi
    obtain ⟨-, rfl⟩ := bh_ws_inv hj
    have : bh_gB g + i = bh_gB g + j := hpq
    omega
  · obtain ⟨-, rfl⟩ := bh_ws_inv hk
    exact Nat.le_add_right _ _
/-- a change of one cell -/
theorem bh_ws_set {g : bh_G} {h h' : bh_H} {k : Nat} {e : va_E} (hn : h'.1 = h.1) (hk : k < h.1) (he : bh_E g h' k = e) (ho : ∀ j, j ≠ k → bh_E g h' j = bh_E g h j) : (bh_ws g h).set k (bh_gB g + k, e) = bh_ws g h' := by
  apply List.ext_getElem?
  intro i
  by_cases hi : i = k
  · subst hi
    rw [List.getElem?_set_self (by rw [bh_ws_len]; exact hk), bh_ws_at g (by rw [hn]; exact hk), he]
  · rw [List.getElem?_set_ne (Ne.symm hi)]
    by_cases hl : i < h.1
    · rw [bh_ws_at g hl, bh_ws_at g (by rw [hn]; exact hl), ho i hi]
    · rw [List.getElem?_eq_none (by rw [bh_ws_len]; omega), List.getElem?_eq_none (by rw [bh_ws_len, hn]; omega)]
/-- one more cell -/
theorem bh_ws_push {g : bh_G} {h h' : bh_H} {e : va_E} (hn : h'.1 = h.1 + 1) (he : bh_E g h' h.1 = e) (ho : ∀ j, j < h.1 → bh_E g h' j = bh_E g h j) : bh_ws g h ++ [(bh_gB g + h.1, e)] = bh_ws g h' := by
  unfold bh_ws
  rw [hn, List.range_succ, List.map_append]
  congr 1
  · exact List.map_congr_left fun j hj => by rw [ho j (List.mem_range.mp hj)]
  · rw [← he]; rfl
theorem bh_E_obj {g : bh_G} {h : bh_H} {k ci : Nat} (ht : bh_tg k = ci) (hc : ci < 20) : bh_E g h k = .inr (ci, (List.range (bh_ln k)).map (bh_fv g h ci k)) := by
  unfold bh_E
  rw [ht, if_pos hc]
theorem bh_E_int {g : bh_G} {h : bh_H} {k t : Nat} (ht : bh_tg k = t) (hc : t = 20 ∨ t = 22 ∨ t = 23) : bh_E g h k = .inl (bh_gA g t, bh_ln k, .inl (h.2.2.1 k)) := by
  unfold bh_E bh_ar
  rw [ht]
  rcases hc with rfl | rfl | rfl <;> rfl
theorem bh_E_long {g : bh_G} {h : bh_H} {k : Nat} (ht : bh_tg k = 21) : bh_E g h k = .inl (bh_gA g 21, bh_ln k, .inr (.inl (h.2.2.2 k))) := by
  unfold bh_E bh_ar
  rw [ht]
  rfl
theorem bh_E_ref {g : bh_G} {h : bh_H} {k : Nat} (ht : bh_tg k = 24) : bh_E g h k = .inl (bh_gA g 24, bh_ln k, .inr (.inr (.inr (.inr (fun j => (h.2.1 k j).map (bh_ad g)))))) := by
  unfold bh_E bh_ar
  rw [ht]
  rfl
/-- a cell is what its rows are -/
theorem bh_E_congr {g : bh_G} {h h' : bh_H} {k : Nat} (h1 : h'.2.1 k = h.2.1 k) (h2 : h'.2.2.1 k = h.2.2.1 k) (h3 : h'.2.2.2 k = h.2.2.2 k) : bh_E g h' k = bh_E g h k := by
  unfold bh_E bh_ar bh_fv
  rw [h1, h2, h3]
theorem bh_fs_at {g : bh_G} {h : bh_H} {ci k j : Nat} (hj : j < bh_ln k) : ((List.range (bh_ln k)).map (bh_fv g h ci k))[j]? = some (bh_fv g h ci k j) := by
  rw [List.getElem?_map, List.getElem?_range hj]
  rfl
theorem bh_fs_set {g : bh_G} {h h' : bh_H} {ci k j : Nat} {v : Value} (hj : bh_fv g h' ci k j = v) (ho : ∀ i, i ≠ j → bh_fv g h' ci k i = bh_fv g h ci k i) : ((List.range (bh_ln k)).map (bh_fv g h ci k)).set j v = (List.range (bh_ln k)).map (bh_fv g h' ci k) := by
  apply List.ext_getElem?
  intro i
  by_cases hl : i < bh_ln k
  · by_cases hi : i = j
    · subst hi
      rw [List.getElem?_set_self (by simpa using hl), bh_fs_at hl, hj]
    · rw [List.getElem?_set_ne (Ne.symm hi), bh_fs_at hl, bh_fs_at hl, ho i hi]
  · rw [List.getElem?_eq_none (by simp; omega), List.getElem?_eq_none (by simp; omega)]
theorem bh_up2_self {α : Type} (f : Nat → Nat → α) (k j : Nat) (x : α) : bh_up2 f k j x k j = x := by simp [bh_up2]
theorem bh_up2_k {α : Type} (f : Nat → Nat → α) (k j : Nat) (x : α) : bh_up2 f k j x k = fun b => if b = j then x else f k b := by simp [bh_up2]
theorem bh_up2_ne {α : Type} (f : Nat → Nat → α) {k a : Nat} (j : Nat) (x : α) (h : a ≠ k) : bh_up2 f k j x a = f a := by simp [bh_up2, h]
theorem bh_upr_self {α : Type} (f : Nat → Nat → α) (k : Nat) (r : Nat → α) : bh_upr f k r k = r := by simp [bh_upr]
theorem bh_upr_ne {α : Type} (f : Nat → Nat → α) {k a : Nat} (r : Nat → α) (h : a ≠ k) : bh_upr f k r a = f a := by simp [bh_upr, h]
/-! locals -/
def bh_pr1 (g : bh_G) (i : Nat) (o : Option Value) : Option (Nat × Value) := match o with
  | some Value.null => none
  | some v => some (i, bh_tr g v)
  | none => none
theorem bh_pr1_some {g : bh_G} {i : Nat} {o : Option Value} {q : Nat × Value} : bh_pr1 g i o = some q ↔ ∃ v, o = some v ∧ v ≠ .null ∧ q = (i, bh_tr g v) := by
  constructor
  · intro h
    unfold bh_pr1 at h
    split at h
    · cases h
    next v hv => 
      cases h
      exact ⟨v, rfl, fun e => by subst e; exact hv rfl, rfl⟩
    · cases h
  · rintro ⟨v, rfl, hn, rfl⟩
    unfold bh_pr1
    split
    next h => cases h; exact absurd rfl hn
    next h => cases h; rfl
    next h => cases h
def bh_pr (g : bh_G) (lv : List Value) : List (Nat × Value) := (List.range lv.length).filterMap (fun i => bh_pr1 g i lv[i]?)
theorem bh_pr_mem {g : bh_G} {lv : List Value} {q : Nat × Value} : q ∈ bh_pr g lv ↔ ∃ v, lv[q.1]? = some v ∧ v ≠ .null ∧ q.2 = bh_tr g v := by
  unfold bh_pr
  rw [List.mem_filterMap]
  constructor
  · rintro ⟨i, hi, h⟩
    obtain ⟨v, h1, h2, rfl⟩ := bh_pr1_some.mp h
    exact ⟨v, h1, h2, rfl⟩
  · rintro ⟨v, hv, hn, he⟩
    exact ⟨q.1, List.mem_range.mpr (List.getElem?_eq_some_iff.mp hv).1, bh_pr1_some.mpr ⟨v, hv, hn, by rw [← he]⟩⟩
theorem bh_pr_at {g : bh_G} {lv : List Value} {ls : Array Slot} {n i : Nat} {v : Value} (h : lv_has ls n (bh_pr g lv)) (hi : lv[i]? = some v) (hv : v ≠ .null) : ls[i]? = some (.val (bh_tr g v)) :=
  h.2.2 (i, bh_tr g v) (bh_pr_mem.mpr ⟨v, hi, hv, rfl⟩)
theorem bh_cut_len (lv : List Value) (i : Nat) : (bh_cut lv i).length = lv.length := by
  unfold bh_cut
  split
  · rfl
  · split
    · split
      · simp
      · rfl
    · rfl
theorem bh_cut_at {lv : List Value} {i j : Nat} {v : Value} (h : (bh_cut lv i)[j]? = some v) (hv : v ≠ .null) : lv[j]? = some v ∧ (j + 1 = i → v.category ≠ 2) := by
  unfold bh_cut at h
  split at h
  · exact ⟨h, fun e => by omega⟩
  next k =>
    split at h
    next x hx =>
      split at h
      next hc =>
        by_cases hj : j = k
        · subst hj
          rw [List.getElem?_set_self (List.getElem?_eq_some_iff.mp hx).1] at h
          cases h
          exact absurd rfl hv
        · rw [List.getElem?_set_ne (Ne.symm hj)] at h
          exact ⟨h, fun e => by omega⟩
      next hc =>
        refine ⟨h, fun e => ?_⟩
        have hj : j = k := by omega
        subst hj
        rw [hx] at h
        cases h
        exact hc
    next hx =>
      refine ⟨h, fun e => ?_⟩
      have hj : j = k := by omega
      subst hj
      rw [hx] at h
      cases h
/-- a value of one slot, stored -/
theorem bh_sto_has {g : bh_G} {lv : List Value} {ls : Array Slot} {n i : Nat} {v : Value} (hc : v.category = 1) (h : lv_has ls n ((i, bh_tr g v) :: (bh_pr g lv).filter (fun q => !(q.1 == i) && !(q.1 + 1 == i && q.2.category == 2)))) : lv_has ls n (bh_pr g (bh_sto lv i v)) := by
  refine ⟨h.1, h.2.1, fun q hq => h.2.2 q ?_⟩
  obtain ⟨w, hw, hn, he⟩ := bh_pr_mem.mp hq
  obtain ⟨j, b⟩ := q
  dsimp only at hw he
  subst he
  unfold bh_sto at hw
  by_cases hj : j = i
  · subst hj
    have hl : j < (bh_cut lv j).length := by
      have := (List.getElem?_eq_some_iff.mp hw).1
      rwa [List.length_set] at this
    rw [List.getElem?_set_self hl] at hw
    cases hw
    exact List.mem_cons_self
  · rw [List.getElem?_set_ne (Ne.symm hj)] at hw
    obtain ⟨h1, h2⟩ := bh_cut_at hw hn
    refine List.mem_cons_of_mem _ (List.mem_filter.mpr ⟨bh_pr_mem.mpr ⟨w, h1, hn, rfl⟩, ?_⟩)
    simp only [Bool.and_eq_true, Bool.not_eq_true', beq_eq_false_iff_ne, ne_eq, hj, not_false_eq_true, true_and, Bool.and_eq_false_imp, beq_iff_eq, bh_tr_cat]
    exact fun e => h2 e
/-- a value of two slots, stored -/
theorem bh_stoL_has {g : bh_G} {lv : List Value} {ls : Array Slot} {n i : Nat} {v : Value} (h : lv_has ls n ((i, bh_tr g v) :: (bh_pr g lv).filter (fun q => !(q.1 == i) && (!(q.1 == i + 1) && !(q.1 + 1 == i && q.2.category == 2))))) : lv_has ls n (bh_pr g (bh_stoL lv i v)) := by
  refine ⟨h.1, h.2.1, fun q hq => h.2.2 q ?_⟩
  obtain ⟨w, hw, hn, he⟩ := bh_pr_mem.mp hq
  obtain ⟨j, b⟩ := q
  dsimp only at hw he
  subst he
  unfold bh_stoL at hw
  by_cases hj : j = i
  · subst hj
    have hl := (List.getElem?_eq_some_iff.mp hw).1
    rw [List.length_set] at hl
    rw [List.getElem?_set_self hl] at hw
    cases hw
    exact List.mem_cons_self
  · rw [List.getElem?_set_ne (Ne.symm hj)] at hw
    by_cases hj2 : j = i + 1
    · subst hj2
      have hl := (List.getElem?_eq_some_iff.mp hw).1
      rw [List.length_set] at hl
      rw [List.getElem?_set_self hl] at hw
      cases hw
      exact absurd rfl hn
    · rw [List.getElem?_set_ne (Ne.symm hj2)] at hw
      obtain ⟨h1, h2⟩ := bh_cut_at hw hn
      refine List.mem_cons_of_mem _ (List.mem_filter.mpr ⟨bh_pr_mem.mpr ⟨w, h1, hn, rfl⟩, ?_⟩)
      simp only [Bool.and_eq_true, Bool.not_eq_true', beq_eq_false_iff_ne, ne_eq, hj, hj2, not_false_eq_true, true_and, Bool.and_eq_false_imp, beq_iff_eq, bh_tr_cat]
      exact fun e => h2 e
/-- the locals with which a method begins -/
theorem bh_lay_at (g : bh_G) : ∀ (As : List Value) (i : Nat) (v : Value) (n : Nat), (bh_lay As)[i]? = some v → v ≠ .null → (n + i, bh_tr g v) ∈ lv_args n (As.map (bh_tr g)) := by
  intro As
  induction As with
  | nil => intro i v n h; simp [bh_lay] at h
  | cons a l ih =>
    intro i v n h hv
    have one : ∀ (hc : a.category = 1), (a :: bh_lay l)[i]? = some v → (n + i, bh_tr g v) ∈ lv_args n ((a :: l).map (bh_tr g)) := by
      intro hc h
      show _ ∈ (n, bh_tr g a) :: lv_args (if (bh_tr g a).category = 2 then n + 2 else n + 1) (l.map (bh_tr g))
      rw [bh_tr_cat, hc, if_neg (by decide)]
      cases i with
      | zero =>
        cases h
        exact List.mem_cons_self
      | succ i =>
        have := ih i v (n + 1) h hv
        rw [show n + (i + 1) = n + 1 + i by omega]
        exact List.mem_cons_of_mem _ this
    cases a with
    | long x =>
      show _ ∈ (n, Value.long x) :: lv_args (n + 2) (l.map (bh_tr g))
      match i, h with
      | 0, h => cases h; exact List.mem_cons_self
      | 1, h => cases h; exact absurd rfl hv
      | i + 2, h =>
        have := ih i v (n + 2) h hv
        rw [show n + (i + 2) = n + 2 + i by omega]
        exact List.mem_cons_of_mem _ this
    | double x =>
      show _ ∈ (n, Value.double x) :: lv_args (n + 2) (l.map (bh_tr g))
      match i, h with
      | 0, h => cases h; exact List.mem_cons_self
      | 1, h => cases h; exact absurd rfl hv
      | i + 2, h =>
        have := ih i v (n + 2) h hv
        rw [show n + (i + 2) = n + 2 + i by omega]
        exact List.mem_cons_of_mem _ this
    | int x => exact one rfl h
    | float x => exact one rfl h
    | null => exact one rfl h
    | ref x => exact one rfl h
    | retAddr x => exact one rfl h
end
section
/-! ===== strings: what stands in them, and the library's two methods ===== -/
theorem bh_sw1 : Jvm.Cond.initialized "java/lang/String" ∈ bh_WS := bh_WS_of (i := 113) (by decide +kernel) (by decide +kernel)
theorem bh_sw2 : Jvm.Cond.initialized "java/lang/StringLatin1" ∈ bh_WS := bh_WS_of (i := 114) (by decide +kernel) (by decide +kernel)
theorem bh_sw3 : Jvm.Cond.initialized "jdk/internal/util/Preconditions" ∈ bh_WS := bh_WS_of (i := 115) (by decide +kernel) (by decide +kernel)
theorem bh_sw4 : Jvm.Cond.instanceMethod Str.length.name ∈ bh_WS := bh_WS_of (i := 465) (by decide +kernel) (by decide +kernel)
theorem bh_sw5 : Jvm.Cond.selects "java/lang/String" Str.length.name Str.length.name ∈ bh_WS := bh_WS_of (i := 466) (by decide +kernel) (by decide +kernel)
theorem bh_sw6 : Jvm.Cond.code Str.length.name Lib.String.length.code 1 (some .int) ∈ bh_WS := bh_WS_of (i := 467) (by decide +kernel) (by decide +kernel)
theorem bh_sw7 : Jvm.Cond.methodLink "java/lang/String" 335 Lib.String.coder.name ∈ bh_WS := bh_WS_of (i := 468) (by decide +kernel) (by decide +kernel)
theorem bh_sw8 : Jvm.Cond.instanceMethod Lib.String.coder.name ∈ bh_WS := bh_WS_of (i := 469) (by decide +kernel) (by decide +kernel)
theorem bh_sw9 : Jvm.Cond.selects "java/lang/String" Lib.String.coder.name Lib.String.coder.name ∈ bh_WS := bh_WS_of (i := 470) (by decide +kernel) (by decide +kernel)
theorem bh_sw10 : Jvm.Cond.code Lib.String.coder.name Lib.String.coder.code 1 (some .byte) ∈ bh_WS := bh_WS_of (i := 471) (by decide +kernel) (by decide +kernel)
theorem bh_sw11 : Jvm.Cond.fieldLink "java/lang/String" 38 "java/lang/String" "COMPACT_STRINGS" "Z" ∈ bh_WS := bh_WS_of (i := 472) (by decide +kernel) (by decide +kernel)
theorem bh_sw12 : Jvm.Cond.instanceMethod Str.charAt.name ∈ bh_WS := bh_WS_of (i := 475) (by decide +kernel) (by decide +kernel)
theorem bh_sw13 : Jvm.Cond.selects "java/lang/String" Str.charAt.name Str.charAt.name ∈ bh_WS := bh_WS_of (i := 476) (by decide +kernel) (by decide +kernel)
theorem bh_sw14 : Jvm.Cond.code Str.charAt.name Str.charAt.code 2 (some .char) ∈ bh_WS := bh_WS_of (i := 477) (by decide +kernel) (by decide +kernel)
theorem bh_sw15 : Jvm.Cond.methodLink "java/lang/String" 492 Str.isLatin1.name ∈ bh_WS := bh_WS_of (i := 478) (by decide +kernel) (by decide +kernel)
theorem bh_sw16 : Jvm.Cond.instanceMethod Str.isLatin1.name ∈ bh_WS := bh_WS_of (i := 479) (by decide +kernel) (by decide +kernel)
theorem bh_sw17 : Jvm.Cond.selects "java/lang/String" Str.isLatin1.name Str.isLatin1.name ∈ bh_WS := bh_WS_of (i := 480) (by decide +kernel) (by decide +kernel)
theorem bh_sw18 : Jvm.Cond.code Str.isLatin1.name Lib.String.isLatin1.code 1 (some .boolean) ∈ bh_WS := bh_WS_of (i := 481) (by decide +kernel) (by decide +kernel)
theorem bh_sw19 : Jvm.Cond.methodLink "java/lang/String" 495 SL1.charAt.name ∈ bh_WS := bh_WS_of (i := 482) (by decide +kernel) (by decide +kernel)
theorem bh_sw20 : Jvm.Cond.static SL1.charAt.name ∈ bh_WS := bh_WS_of (i := 483) (by decide +kernel) (by decide +kernel)
theorem bh_sw21 : Jvm.Cond.code SL1.charAt.name SL1.charAt.code 2 (some .char) ∈ bh_WS := bh_WS_of (i := 484) (by decide +kernel) (by decide +kernel)
theorem bh_sw22 : Jvm.Cond.methodLink "java/lang/StringLatin1" 9 Str.checkIndex.name ∈ bh_WS := bh_WS_of (i := 485) (by decide +kernel) (by decide +kernel)
theorem bh_sw23 : Jvm.Cond.static Str.checkIndex.name ∈ bh_WS := bh_WS_of (i := 486) (by decide +kernel) (by decide +kernel)
theorem bh_sw24 : Jvm.Cond.code Str.checkIndex.name Str.checkIndex.code 2 none ∈ bh_WS := bh_WS_of (i := 487) (by decide +kernel) (by decide +kernel)
theorem bh_sw25 : Jvm.Cond.fieldLink "java/lang/String" 1053 "jdk/internal/util/Preconditions" "SIOOBE_FORMATTER" "Ljava/util/function/BiFunction;" ∈ bh_WS := bh_WS_of (i := 488) (by decide +kernel) (by decide +kernel)
theorem bh_sw26 : Jvm.Cond.methodLink "java/lang/String" 1059 Preconditions.checkIndex.name ∈ bh_WS := bh_WS_of (i := 490) (by decide +kernel) (by decide +kernel)
theorem bh_sw27 : Jvm.Cond.static Preconditions.checkIndex.name ∈ bh_WS := bh_WS_of (i := 491) (by decide +kernel) (by decide +kernel)
theorem bh_sw28 : Jvm.Cond.code Preconditions.checkIndex.name Preconditions.checkIndex.code Preconditions.checkIndex.maxLocals (some .int) ∈ bh_WS := bh_WS_of (i := 492) (by decide +kernel) (by decide +kernel)
theorem bh_sw29 : Jvm.Cond.fieldLink "java/lang/String" 9 "java/lang/String" "value" "[B" ∈ bh_WS := bh_WS_of (i := 1639) (by decide +kernel) (by decide +kernel)
theorem bh_sw30 : Jvm.Cond.fieldLink "java/lang/String" 15 "java/lang/String" "coder" "B" ∈ bh_WS := bh_WS_of (i := 1640) (by decide +kernel) (by decide +kernel)
/-- a word of the tables at any later state -/
theorem bh_wAt {args A : Array Value} {S0 V : State} (hts : ∀ w ∈ bh_WS, w.before args S0 = true) (hW : S0.WarmedH V.vm) {w : Jvm.Cond} (hw : w ∈ bh_WS) : w.before A V = true :=
  word_at hW (good_of_word (bh_WS_good hw)) (hts w hw)
theorem fo_tr {S V : State} (hv : S.vm.Alike V.vm) {a : Addr} (hh : V.heap[a]? = S.heap[a]?) (c n d : String) : V.fieldOf? a c n d = S.fieldOf? a c n d := by
  rw [← State.fieldOf?_setVm hv a c n d]
  simp only [State.fieldOf?, State.heap_setVm, hh]
  rfl
theorem ex_tr {S V : State} (hv : S.vm.Alike V.vm) {a : Addr} (hh : V.heap[a]? = S.heap[a]?) {c : String} {A B : Array Value} (hA : A[0]? = some (.ref a)) (hB : B[0]? = some (.ref a)) (h : (Jvm.Cond.exactly (.arg 0) c).before A S = true) : (Jvm.Cond.exactly (.arg 0) c).before B V = true := by
  rw [← Cond.exactly_arg_setVm hv] at h
  simp only [Jvm.Cond.before, Jvm.Cond.holds, Jvm.Cond.value, Jvm.Term.eval, State.vm_setVm, State.heap_setVm, hA, hB] at h ⊢
  cases hc : V.vm.findClass c with
  | none => rw [hc] at h; exact h
  | some k =>
    rw [hc] at h
    dsimp only at h ⊢
    rw [hh]
    exact h
theorem si_tr {S V : State} {cls name desc : String} {v : Value} {B : Nat} (h : Cold.StaticIs S cls name desc v) (hv : S.vm.Alike V.vm) (hsz : S.heap.size ≤ B) (hh : ∀ q, q < B → V.heap[q]? = S.heap[q]?) : Cold.StaticIs V cls name desc v := by
  obtain ⟨cf, i, k, f, a₁, cell₁, h1, h2, h3, h4, h5, h6, h7⟩ := h
  obtain ⟨k', hk', he⟩ := State.fieldFound?_setVm hv h1
  refine ⟨cf, i, k', f, a₁, cell₁, hk', h2, by rw [he]; exact h3, by rw [he]; exact h4, ?_, h6, h7⟩
  rw [hh a₁ (Nat.lt_of_lt_of_le (Array.getElem?_eq_some_iff.mp h5).1 hsz)]
  exact h5
theorem sig_of {V : State} {A : Array Value} {y : MethodName} {b : ByteArray} {n : Nat} {r : Option FieldType} (h1 : (Jvm.Cond.static y).before A V = true) (h2 : (Jvm.Cond.code y b n r).before A V = true) : Cold.Sig V y := by
  obtain ⟨mk, hn⟩ : ∃ mk, V.methodNamed? y = some mk := by
    cases h : V.methodNamed? y with
    | none => simp [Jvm.Cond.before, Jvm.Cond.holds, Jvm.Cond.value, h] at h1
    | some mk => exact ⟨mk, rfl⟩
  obtain ⟨meth', c, hm', -, -, -, -, -, -, hs⟩ := Cond.code_spec hn h2
  exact ⟨mk, meth', hn, hm', hs⟩
theorem dec_of {V : State} {A : Array Value} {y : MethodName} {b : ByteArray} {n : Nat} {r : Option FieldType} (h1 : (Jvm.Cond.instanceMethod y).before A V = true) (h2 : (Jvm.Cond.code y b n r).before A V = true) : (Jvm.Cond.declares y).before A V = true := by
  obtain ⟨mk, meth, hn, hm, hst, -⟩ := Cond.instanceMethod_spec h1
  obtain ⟨meth', c, hm', -, -, -, -, -, -, hs⟩ := Cond.code_spec hn h2
  cases hm.symm.trans hm'
  simp [Jvm.Cond.before, Jvm.Cond.holds, Jvm.Cond.value, hn, hm, hst, hs]
/-- what stands in the strings and in the library's two fields, at a state -/
def bh_SF (g : bh_G) (S : State) : Prop := (∀ j, j < 20 → ∃ (d : Addr) (arr : Cell), (Jvm.Cond.exactly (.arg 0) "java/lang/String").before #[.ref (bh_gX g (1100 + j))] S = true ∧ S.fieldOf? (bh_gX g (1100 + j)) "java/lang/String" "coder" "B" = some (.int 0) ∧ S.fieldOf? (bh_gX g (1100 + j)) "java/lang/String" "value" "[B" = some (.ref d) ∧ S.heap[d]? = some arr ∧ S.isArrayOf arr .byte ∧ arr.vm ≠ .unknown ∧ bh_sl j ≤ arr.slots.size ∧ arr.slots.size.toInt32 = nI (bh_sl j) ∧ ∀ i, i < bh_sl j → arr.slots[i]? = some (.int (bh_sc j i))) ∧
  Cold.StaticIs S "java/lang/String" "COMPACT_STRINGS" "Z" (.int 1) ∧ ∃ fmt : Value, ((∃ q, fmt = .ref q) ∨ fmt = .null) ∧ Cold.StaticIs S "jdk/internal/util/Preconditions" "SIOOBE_FORMATTER" "Ljava/util/function/BiFunction;" fmt
def bh_SXd (g : bh_G) (U : State) (H : Heap) : Prop := ∃ S : State, S.WarmedH U.vm ∧ (∀ q, q < bh_gB g → H[q]? = S.heap[q]?) ∧ S.heap.size ≤ bh_gB g ∧ bh_SF g S
theorem bh_SXd_warm {g : bh_G} {s U : State} {H : Heap} (hW : s.WarmedH U.vm) (h : bh_SXd g s H) : bh_SXd g U H := by
  obtain ⟨S, h1, h2⟩ := h
  exact ⟨S, State.WarmedH.trans h1 hW, h2⟩
theorem bh_SXd_same {g : bh_G} {s U : State} {H : Heap} (hv : U.vm = s.vm) (h : bh_SXd g s H) : bh_SXd g U H := by
  obtain ⟨S, h1, h2⟩ := h
  exact ⟨S, by rw [hv]; exact h1, h2⟩
theorem bh_SXd_kept {g : bh_G} {U : State} {H H1 : Heap} (hk : ∀ q, q < bh_gB g → H1[q]? = H[q]?) (h : bh_SXd g U H) : bh_SXd g U H1 := by
  obtain ⟨S, h1, h2, h3⟩ := h
  exact ⟨S, h1, fun q hq => (hk q hq).trans (h2 q hq), h3⟩
theorem bh_SXat {g : bh_G} {V : State} (h : bh_SXd g V V.heap) : bh_SF g V := by
  obtain ⟨S, hW, hh, hsz, hF, hC, fmt, hf, hP⟩ := h
  have ha := hW.alike
  have hlt : ∀ {q : Nat} {c : Cell}, S.heap[q]? = some c → V.heap[q]? = some c := fun {q} {c} hq => by
    rw [hh q (Nat.lt_of_lt_of_le (Array.getElem?_eq_some_iff.mp hq).1 hsz)]; exact hq
  refine ⟨fun j hj => ?_, si_tr hC ha hsz hh, fmt, hf, si_tr hP ha hsz hh⟩
  obtain ⟨d, arr, h1, h2, h3, h4, h5, h6, h7, h8, h9⟩ := hF j hj
  have hq : V.heap[bh_gX g (1100 + j)]? = S.heap[bh_gX g (1100 + j)]? := by
    obtain ⟨a, c, cell, k, q1, q2, q3, -⟩ := Cond.exactly_spec h1
    have e : a = bh_gX g (1100 + j) := by
      have : some (Value.ref (bh_gX g (1100 + j))) = some (.ref a) := q1
      cases this; rfl
    rw [e] at q3
    rw [hlt q3, q3]
  exact ⟨d, arr, ex_tr ha hq rfl rfl h1, (fo_tr ha hq _ _ _).trans h2, (fo_tr ha hq _ _ _).trans h3, hlt h4, State.isArrayOf_alike ha h5, h6, h7, h8, h9⟩
theorem bh_lenA {g : bh_G} {args : Array Value} {S0 V : State} (hts : ∀ w ∈ bh_WS, w.before args S0 = true) (hW : S0.WarmedH V.vm) (hF : bh_SF g V) {j : Nat} (hj : j < 20) : ∃ d arr, Cold.length.spec.pre.before #[.ref (bh_gX g (1100 + j))] V = true ∧ Cold.length.P (bh_gX g (1100 + j)) d 1 arr #[.ref (bh_gX g (1100 + j))] V ∧ arr.slots.size.toInt32 = nI (bh_sl j) := by
  obtain ⟨d, arr, h1, h2, h3, h4, h5, h6, h7, h8, h9⟩ := hF.1 j hj
  have W := fun {A : Array Value} {w : Jvm.Cond} (hw : w ∈ bh_WS) => bh_wAt (A := A) hts hW hw
  refine ⟨d, arr, ?_, ⟨rfl, (va_fe rfl).trans h3, h4, h5, ?_, rfl, hF.2.1, by decide, (va_fe rfl).trans h2⟩, h8⟩
  · simp only [Cold.length.spec, Cond.before_and, Bool.and_eq_true]
    exact ⟨W bh_sw6, rfl, h1, W bh_sw29, W bh_sw7, dec_of (W bh_sw8) (W bh_sw10), W bh_sw9, W bh_sw8, W bh_sw1⟩
  · simp only [Cold.coder.spec, Cond.before_and, Bool.and_eq_true]
    exact ⟨W bh_sw10, rfl, W bh_sw11, W bh_sw30⟩
theorem bh_sl_small : ∀ j, j < 20 → bh_sl j < 100 := by decide +kernel
theorem bh_sc_again : ∀ j, j < 20 → ∀ i, i < bh_sl j → ((bh_sc j i &&& 255).toUInt32.toUInt16.toUInt32.toInt32) = bh_sc j i := by decide +kernel
theorem bh_charA {g : bh_G} {args : Array Value} {S0 V : State} (hts : ∀ w ∈ bh_WS, w.before args S0 = true) (hW : S0.WarmedH V.vm) (hF : bh_SF g V) {j i : Nat} (hj : j < 20) (hi : i < bh_sl j) : ∃ d fmt arr, Cold.charAt.spec.pre.before #[.ref (bh_gX g (1100 + j)), .int (nI i)] V = true ∧ Cold.charAt.P (bh_gX g (1100 + j)) d (nI i) (bh_sc j i) 1 fmt arr #[.ref (bh_gX g (1100 + j)), .int (nI i)] V := by
  obtain ⟨hS, hC, fmt, hf, hP⟩ := hF
  obtain ⟨d, arr, h1, h2, h3, h4, h5, h6, h7, h8, h9⟩ := hS j hj
  have hs := bh_sl_small j hj
  have W := fun {A : Array Value} {w : Jvm.Cond} (hw : w ∈ bh_WS) => bh_wAt (A := A) hts hW hw
  have ei : (nI i).toNatClampNeg = i := nI_clamp (by omega)
  refine ⟨d, fmt, arr, ?_, rfl, (va_fe rfl).trans h3, sig_of (W (A := #[]) bh_sw20) (W bh_sw21), ?_, ⟨rfl, hC, by decide, (va_fe rfl).trans h2⟩, ?_, rfl, h4, h5, h6, ?_, by rw [ei]; exact h9 i hi, sig_of (W (A := #[]) bh_sw23) (W bh_sw24), ?_, rfl, hP, sig_of (W (A := #[]) bh_sw27) (W bh_sw28), ?_⟩
  · simp only [Cold.charAt.spec, Cond.before_and, Bool.and_eq_true]
    exact ⟨W bh_sw14, rfl, ex_tr (Vm.Alike.refl _) rfl rfl rfl h1, W bh_sw15, dec_of (W bh_sw16) (W bh_sw18), W bh_sw17, W bh_sw16, W bh_sw29, W bh_sw19, W bh_sw20, W bh_sw2, W bh_sw1⟩
  · simp only [Cold.isLatin1.spec, Cond.before_and, Bool.and_eq_true]
    exact ⟨W bh_sw18, rfl, W bh_sw11, W bh_sw30⟩
  · simp only [Cold.latin1.spec, Cond.before_and, Bool.and_eq_true]
    exact ⟨W bh_sw21, rfl, W bh_sw22, W bh_sw23, W bh_sw1⟩
  · rw [ei]
    rintro (h | h)
    · exact nI_pos (by omega) h
    · omega
  · simp only [Cold.checkIndex.spec, Cond.before_and, Bool.and_eq_true]
    exact ⟨W bh_sw24, rfl, W bh_sw25, W bh_sw26, W bh_sw27, W bh_sw3⟩
  · rw [h8]
    simp only [Preconditions.checkIndex.spec, Cond.before_and, Bool.and_eq_true]
    refine ⟨W bh_sw28, rfl, rfl, rfl, ?_, ?_, ?_⟩
    · rcases hf with ⟨q, rfl⟩ | rfl <;> rfl
    · show (some (decide ((0 : Int32) ≤ nI i)) == some true) = true
      rw [decide_eq_true (Int32.not_lt.mp (nI_pos (by omega)))]; rfl
    · show (some (decide (nI i < nI (bh_sl j))) == some true) = true
      rw [decide_eq_true (nI_lt hi (by omega))]; rfl
end
section
/-! ===== what stands outside the picture ===== -/
/-- strings: what the library's own methods need of them -/
def bh_SX (g : bh_G) (U : State) (H : Heap) : Prop := bh_SXd g U H
theorem bh_SX_warm {g : bh_G} {s U : State} {H : Heap} (hW : s.WarmedH U.vm) (h : bh_SX g s H) : bh_SX g U H := bh_SXd_warm hW h
theorem bh_SX_same {g : bh_G} {s U : State} {H : Heap} (hv : U.vm = s.vm) (h : bh_SX g s H) : bh_SX g U H := bh_SXd_same hv h
theorem bh_SX_kept {g : bh_G} {U : State} {H H1 : Heap} (hk : ∀ q, q < bh_gB g → H1[q]? = H[q]?) (h : bh_SX g U H) : bh_SX g U H1 := bh_SXd_kept hk h
def bh_Ext (g : bh_G) (U : State) (H : Heap) : Prop :=
  va_K (bh_gD g) bh_cls (bh_tys g) U ∧ (∀ q ∈ bh_ML, q.2.2.2 = 3 ∨ q.2.2.2 = 4 → va_Nw (.methodLinkNest q.1 q.2.1 (bh_Y q.2.2.1) "BorrowedHands") U) ∧ va_AO "BorrowedHands$Town" U ∧
  (∀ (j : Nat) (q : String × Nat × String), bh_ST[j]? = some q → vk_R q.1 q.2.1 q.2.2 (bh_gX g (1100 + j)) U) ∧ va_X (bh_gX g 1000) (bh_gL g) (bh_gS g) U H ∧ bh_gX g 1000 < bh_gB g ∧ bh_gL g ≤ 3072 ∧ bh_SX g U H
theorem bh_Ext_warm {g : bh_G} {s U : State} {H : Heap} (hW : s.WarmedH U.vm) (h : bh_Ext g s H) : bh_Ext g U H := by
  obtain ⟨h1, h2, h3, h4, h5, h6, h7, h8⟩ := h
  exact ⟨h1.moved hW.alike, fun q hq hk => va_Nw.warmM hW (h2 q hq hk), h3.moved hW.alike, fun j q hj => (h4 j q hj).warm hW, h5.moved hW.alike, h6, h7, bh_SX_warm hW h8⟩
theorem bh_Ext_same {g : bh_G} {s U : State} {H : Heap} (hv : U.vm = s.vm) (h : bh_Ext g s H) : bh_Ext g U H := by
  obtain ⟨h1, h2, h3, h4, h5, h6, h7, h8⟩ := h
  have ha : s.vm.Alike U.vm := by rw [hv]; exact Vm.Alike.refl _
  exact ⟨h1.moved ha, fun q hq hk => va_Nw.same rfl hv.symm (h2 q hq hk), h3.moved ha, fun j q hj => (h4 j q hj).same hv, h5.moved ha, h6, h7, bh_SX_same hv h8⟩
theorem bh_Ext_kept {g : bh_G} {U : State} {H H1 : Heap} (hk : ∀ q, q < bh_gB g → H1[q]? = H[q]?) (h : bh_Ext g U H) : bh_Ext g U H1 := by
  obtain ⟨h1, h2, h3, h4, h5, h6, h7, h8⟩ := h
  exact ⟨h1, h2, h3, h4, h5.kept (hk _ h6), h6, h7, bh_SX_kept hk h8⟩
/-- the script in the picture -/
def bh_scr (g : bh_G) (h : bh_H) : Prop := h.2.2.1 1000 = bh_gS g ∧ h.2.2.1 1001 0 = nI (bh_gL g) ∧ h.1 ≤ 1000
def bh_rm (d m : Nat) : Room := { frames := d + 8, cells := bh_mc m, slots := bh_ms m, locals := 64 * (d + 8) }
def bh_wsm (m : Nat) : List Jvm.Cond := Jvm.Cond.code (bh_Y m) (bh_B m) (bh_mL m) (bh_rt m) :: bh_WS
def bh_Pc (g : bh_G) (As : List Value) (h : bh_H) : Array Value → State → Prop := fun v U => v = (As.map (bh_tr g)).toArray ∧ bh_gB g + h.1 = U.heap.size ∧ va_P (bh_gD g) bh_cls (bh_ws g h) U.heap ∧ bh_Ext g U U.heap ∧ bh_scr g h
def bh_Qc (g : bh_G) (Q : bh_Q) : Array Value → State → Outcome → State → Prop := fun _ st oc t => (∃ (r : Option Value) (h : bh_H), oc = .returned (r.map (bh_tr g)) ∧ Q r h ∧ va_P (bh_gD g) bh_cls (bh_ws g h) t.heap ∧ bh_scr g h) ∧ va_F (bh_rg g) st t
/-- what 'bh_wc' says of the machine -/
def bh_Mt (g : bh_G) (l : Launch) (d m : Nat) (As : List Value) (h : bh_H) (Q : bh_Q) : Prop := Met l (bh_Y m) (bh_wsm m) (bh_rm d m) (bh_Pc g As h) (bh_Qc g Q) (bh_mc m) (bh_ms m) (bh_rg g)
theorem bh_Pc_blind (g : bh_G) (As : List Value) (h : bh_H) : FrameBlind (bh_Pc g As h) := by
  rintro a U f mk ⟨h1, h2, h3, h4, h5⟩
  exact ⟨h1, h2, h3, bh_Ext_same (s := U) rfl h4, h5⟩
section bh_ctx
variable {p : Program} {l : Launch} {e : Env} {R : Room} {s : State} {m : MethodId} {args : Array Value} {below : List Frame} {meth : Method} {c : Code} {H : Heap} {locs : List Loc} {cells slots : Nat} {Qf : State → Prop}
/-- where a method stands -/
def bh_Cx (g : bh_G) (m0 d : Nat) (p : Program) (R : Room) (s : State) (m : MethodId) (args : Array Value) (meth : Method) (c : Code) : Prop :=
  p.tables.exec = Jvm.exec ∧ c.code = bh_B m0 ∧ c.maxLocals = bh_mL m0 ∧ s.vm.findClass (bh_O m0) = some m.cls ∧ (∀ w ∈ bh_WS, w.before args s = true) ∧ m0 < 261 ∧ bh_Ext g s s.heap ∧ (d ≤ R.frames ∧ 64 * d ≤ R.locals ∧ R.cells = bh_mc m0 ∧ R.slots = bh_ms m0) ∧ bh_gB g ≤ s.heap.size ∧ ((bh_Y m0).name = "<init>" → meth.name = "<init>")
def bh_MP (g : bh_G) (m0 : Nat) (p : Program) (l : Launch) (e : Env) (R : Room) (s : State) (m : MethodId) (args : Array Value) (below : List Frame) (meth : Method) (c : Code) (Qf : State → Prop) : bh_P := fun pc lv st u h =>
  ∀ (H : Heap) (locs : List Loc) (ls : Array Slot), va_P (bh_gD g) bh_cls (bh_ws g h) H → va_S (bh_rg g) s.heap H locs → bh_gB g + h.1 = s.heap.size + u.1 → bh_scr g h → lv_has ls (bh_mL m0) (bh_pr g lv) → W p l e R s m args below meth c H locs u.1 u.2 Qf (F0 m pc ls (st.map (bh_tr g)))
/-- the heap is as large as the picture says -/
theorem bh_size {g : bh_G} {h : bh_H} {f : JFrame} (hP : va_P (bh_gD g) bh_cls (bh_ws g h) H) (hS : va_S (bh_rg g) s.heap H locs) (hB : bh_gB g ≤ s.heap.size) (hN : bh_gB g + h.1 = s.heap.size + cells) (k : H.size = bh_gB g + h.1 → W p l e R s m args below meth c H locs cells slots Qf f) : W p l e R s m args below meth c H locs cells slots Qf f := by
  intro T hT X
  have h1 := X.heapSize
  have h2 : bh_gB g + h.1 ≤ H.size := by
    by_cases h0 : h.1 = 0
    · have := hS.1
      omega
    · have h3 := (hP (h.1 - 1) _ (bh_ws_at g (by omega))).lt
      have h4 : bh_gB g + (h.1 - 1) < H.size := h3
      omega
  exact k (by rw [hT] at h1; omega) T hT X
/-- behind a call -/
theorem bh_callW {g : bh_G} {Q : bh_Q} {mc ms pc : Nat} {ls : Array Slot} {st0 rest : List Value} {a : Array Value} (hr : va_Run p l e R s m args below meth c H locs cells slots mc ms (F0 m pc ls st0) rest (bh_Qc g Q a) (bh_rg g)) (hS : va_S (bh_rg g) s.heap H locs)
    (kk : ∀ (r : Option Value) (h : bh_H) (H1 : Heap) (locs1 : List Loc), Q r h → va_P (bh_gD g) bh_cls (bh_ws g h) H1 → bh_scr g h → va_S (bh_rg g) s.heap H1 locs1 → W p l e R s m args below meth c H1 locs1 (cells + mc) (slots + ms) Qf (F0 m (pc + 3) ls ((r.map (bh_tr g)).toList ++ rest))) : W p l e R s m args below meth c H locs cells slots Qf (F0 m pc ls st0) := by
  intro T hT X
  obtain ⟨v, st₀, t, T', L, h0, X', hL, e1, e2, ⟨⟨r, h, hv, hq, hp, hx⟩, hz, hk⟩, st⟩ := hr T hT X
  cases hv
  rw [h0] at hz hk
  obtain ⟨t2, a1, b1⟩ := kk r h T'.heap (locs ++ L) hq (by rw [e1]; exact hp) hx ⟨Nat.le_trans hS.1 (by rw [e1]; exact hz), fun q h1 h2 => by rw [e1, hk q (Nat.lt_of_lt_of_le h1 hS.1) h2]; exact hS.2.1 q h1 h2, fun q hq => by
      rcases List.mem_append.mp hq with h | h
      · exact hS.2.2 q h
      · exact hL q h⟩ T' rfl X'
  exact ⟨t2, st t2 a1, b1⟩
end bh_ctx
theorem bh_good (m : Nat) (hm : m < 261) (hL : m ≠ m_L_law) : GoodIn bh_WS (bh_wsm m) := by
  intro w hw
  rcases List.mem_cons.mp hw with rfl | hw
  · have h1 := cok_all hm
    unfold bh_cok at h1
    simp only [Bool.and_eq_true, Bool.or_eq_true, decide_eq_true_eq] at h1
    rcases h1.2 with h2 | h2
    · exact absurd h2 hL
    · exact ⟨bh_at_WS h2, good_of_word (bh_WS_good (bh_at_WS h2))⟩
  · exact ⟨hw, good_of_word (bh_WS_good hw)⟩
theorem bh_native_good : goodWord (Jvm.Cond.native arraycopyName) = true := by decide +kernel
end
section
/-! ===== a step of the picture is steps of the machine ===== -/
theorem bh_ad_own {g : bh_G} {h : bh_H} {k : Nat} (hk : k < h.1) (hX : bh_scr g h) : bh_ad g k = bh_gB g + k := by
  have := hX.2.2
  unfold bh_ad
  rw [if_pos (by omega)]
theorem bh_ne_own {g : bh_G} {h : bh_H} {k : Nat} (hk : k < h.1) (hX : bh_scr g h) : 1000 ≠ k ∧ 1001 ≠ k := by
  have := hX.2.2
  omega
section bh_sound
variable {g : bh_G} {m0 d : Nat} {p : Program} {l : Launch} {e : Env} {R : Room} {S0 : State} {m : MethodId} {args : Array Value} {below : List Frame} {meth : Method} {c : Code} {Qf : State → Prop} {pc len a : Nat} {cn : Int} {l9 : List Nat} {lv st : List Value} {u : Nat × Nat} {h : bh_H}
set_option maxHeartbeats 1000000 in
theorem bs_1_0 (cx : bh_Cx g m0 d p R S0 m args meth c) (hok : bh_d1 m0 pc len (.iconst cn) = true) (H1 : (bh_MP g m0 p l e R S0 m args below meth c Qf) (pc + len) lv (.int (Int32.ofInt cn) :: st) u h) : bh_MP g m0 p l e R S0 m args below meth c Qf pc lv st u h := by
  obtain ⟨hx, hb, hml, hown, hts, hm0, hE, hR, hB, hini⟩ := id cx
  simp only [bh_d1, bh_dc, Bool.and_eq_true, decide_eq_true_eq] at hok
  obtain ⟨rfl, hd⟩ := hok
  intro H locs ls hP hS hN hX hl
  exact lv_iconst hx hb hd rfl (H1 H locs ls hP hS hN hX hl)
set_option maxHeartbeats 1000000 in
theorem bs_1_1 (cx : bh_Cx g m0 d p R S0 m args meth c) (hok : (decide (len = 2) && bh_dc m0 pc (.bipush cn) 2 && decide ((Int8.ofInt cn).toInt32 = Int32.ofInt cn)) = true) (H1 : (bh_MP g m0 p l e R S0 m args below meth c Qf) (pc + len) lv (.int (Int32.ofInt cn) :: st) u h) : bh_MP g m0 p l e R S0 m args below meth c Qf pc lv st u h := by
  obtain ⟨hx, hb, hml, hown, hts, hm0, hE, hR, hB, hini⟩ := id cx
  simp only [bh_dc, Bool.and_eq_true, decide_eq_true_eq] at hok
  obtain ⟨⟨rfl, hd⟩, hv⟩ := hok
  intro H locs ls hP hS hN hX hl
  exact lv_bipush hx hb hd hv (H1 H locs ls hP hS hN hX hl)
set_option maxHeartbeats 1000000 in
theorem bs_1_2 (cx : bh_Cx g m0 d p R S0 m args meth c) (hok : (decide (len = 3) && bh_dc m0 pc (.sipush cn) 3 && decide ((Int16.ofInt cn).toInt32 = Int32.ofInt cn)) = true) (H1 : (bh_MP g m0 p l e R S0 m args below meth c Qf) (pc + len) lv (.int (Int32.ofInt cn) :: st) u h) : bh_MP g m0 p l e R S0 m args below meth c Qf pc lv st u h := by
  obtain ⟨hx, hb, hml, hown, hts, hm0, hE, hR, hB, hini⟩ := id cx
  simp only [bh_dc, Bool.and_eq_true, decide_eq_true_eq] at hok
  obtain ⟨⟨rfl, hd⟩, hv⟩ := hok
  intro H locs ls hP hS hN hX hl
  exact lv_sipush hx hb hd hv (H1 H locs ls hP hS hN hX hl)
set_option maxHeartbeats 1000000 in
theorem bs_1_3 (cx : bh_Cx g m0 d p R S0 m args meth c) (hok : (decide (len = 2) && bh_dc m0 pc (.ldc (l9.getD 0 0)) 2 && bh_at (l9.getD 1 0) (.constant (bh_O m0) (l9.getD 0 0) (Int32.ofInt cn))) = true) (H1 : (bh_MP g m0 p l e R S0 m args below meth c Qf) (pc + len) lv (.int (Int32.ofInt cn) :: st) u h) : bh_MP g m0 p l e R S0 m args below meth c Qf pc lv st u h := by
  obtain ⟨hx, hb, hml, hown, hts, hm0, hE, hR, hB, hini⟩ := id cx
  simp only [bh_dc, Bool.and_eq_true, decide_eq_true_eq] at hok
  obtain ⟨⟨rfl, hd⟩, hv⟩ := hok
  intro H locs ls hP hS hN hX hl
  exact W.ldc hx hb hown (hts _ (bh_at_WS hv)) (g := F0 m pc ls (st.map (bh_tr g))) rfl hd (H1 H locs ls hP hS hN hX hl)
set_option maxHeartbeats 1000000 in
theorem bs_1_4 (cx : bh_Cx g m0 d p R S0 m args meth c) (hok : (bh_d3 m0 pc len (.ldc_w (l9.getD 0 0)) && bh_at (l9.getD 1 0) (.constant (bh_O m0) (l9.getD 0 0) (Int32.ofInt cn))) = true) (H1 : (bh_MP g m0 p l e R S0 m args below meth c Qf) (pc + len) lv (.int (Int32.ofInt cn) :: st) u h) : bh_MP g m0 p l e R S0 m args below meth c Qf pc lv st u h := by
  obtain ⟨hx, hb, hml, hown, hts, hm0, hE, hR, hB, hini⟩ := id cx
  simp only [bh_d3, bh_dc, Bool.and_eq_true, decide_eq_true_eq] at hok
  obtain ⟨⟨rfl, hd⟩, hv⟩ := hok
  intro H locs ls hP hS hN hX hl
  exact lv_ldcw hx hb hown (hts _ (bh_at_WS hv)) hd (H1 H locs ls hP hS hN hX hl)
set_option maxHeartbeats 1000000 in
theorem bs_2_0 (cx : bh_Cx g m0 d p R S0 m args meth c) (hok : bh_d1 m0 pc len (.lconst 0) = true) (H1 : (bh_MP g m0 p l e R S0 m args below meth c Qf) (pc + len) lv (.long (Int64.ofInt 0) :: st) u h) : bh_MP g m0 p l e R S0 m args below meth c Qf pc lv st u h := by
  obtain ⟨hx, hb, hml, hown, hts, hm0, hE, hR, hB, hini⟩ := id cx
  simp only [bh_d1, bh_dc, Bool.and_eq_true, decide_eq_true_eq] at hok
  obtain ⟨rfl, hd⟩ := hok
  intro H locs ls hP hS hN hX hl
  exact lv_lconst hx hb hd rfl (H1 H locs ls hP hS hN hX hl)
set_option maxHeartbeats 1000000 in
theorem bs_2_1 (cx : bh_Cx g m0 d p R S0 m args meth c) (hok : bh_d1 m0 pc len (.lconst 1) = true) (H1 : (bh_MP g m0 p l e R S0 m args below meth c Qf) (pc + len) lv (.long (Int64.ofInt 1) :: st) u h) : bh_MP g m0 p l e R S0 m args below meth c Qf pc lv st u h := by
  obtain ⟨hx, hb, hml, hown, hts, hm0, hE, hR, hB, hini⟩ := id cx
  simp only [bh_d1, bh_dc, Bool.and_eq_true, decide_eq_true_eq] at hok
  obtain ⟨rfl, hd⟩ := hok
  intro H locs ls hP hS hN hX hl
  exact lv_lconst hx hb hd rfl (H1 H locs ls hP hS hN hX hl)
set_option maxHeartbeats 1000000 in
theorem bs_2_2 (cx : bh_Cx g m0 d p R S0 m args meth c) (hok : (bh_d3 m0 pc len (.ldc2_w (l9.getD 0 0)) && bh_at (l9.getD 1 0) (.constantLong (bh_O m0) (l9.getD 0 0) (Int64.ofInt cn))) = true) (H1 : (bh_MP g m0 p l e R S0 m args below meth c Qf) (pc + len) lv (.long (Int64.ofInt cn) :: st) u h) : bh_MP g m0 p l e R S0 m args below meth c Qf pc lv st u h := by
  obtain ⟨hx, hb, hml, hown, hts, hm0, hE, hR, hB, hini⟩ := id cx
  simp only [bh_d3, bh_dc, Bool.and_eq_true, decide_eq_true_eq] at hok
  obtain ⟨⟨rfl, hd⟩, hv⟩ := hok
  intro H locs ls hP hS hN hX hl
  exact W.ldc2 hx hb hown (hts _ (bh_at_WS hv)) (g := F0 m pc ls (st.map (bh_tr g))) rfl hd (H1 H locs ls hP hS hN hX hl)
set_option maxHeartbeats 1000000 in
theorem bs_3 (cx : bh_Cx g m0 d p R S0 m args meth c) (hok : bh_d4 m0 pc len a cn .iload_n .iload = true) (H1 : ∃ x, lv[a]? = some (.int x) ∧ (bh_MP g m0 p l e R S0 m args below meth c Qf) (pc + len) lv (.int x :: st) u h) : bh_MP g m0 p l e R S0 m args below meth c Qf pc lv st u h := by
  obtain ⟨hx, hb, hml, hown, hts, hm0, hE, hR, hB, hini⟩ := id cx
  obtain ⟨x, hxv, H1⟩ := H1
  unfold bh_d4 at hok
  intro H locs ls hP hS hN hX hl
  have hat := bh_pr_at hl hxv (by intro h; cases h)
  split at hok
  · split at hok
    next ha =>
      simp only [bh_dc, Bool.and_eq_true, decide_eq_true_eq] at hok
      obtain ⟨rfl, hd⟩ := hok
      exact lv_iload_n hx hb hd rfl hat (H1 H locs ls hP hS hN hX hl)
    next => cases hok
  · simp only [bh_dc, Bool.and_eq_true, decide_eq_true_eq] at hok
    obtain ⟨rfl, hd⟩ := hok
    exact lv_iload hx hb hd hat (H1 H locs ls hP hS hN hX hl)
set_option maxHeartbeats 1000000 in
theorem bs_4 (cx : bh_Cx g m0 d p R S0 m args meth c) (hok : bh_d4 m0 pc len a cn .lload_n .lload = true) (H1 : ∃ x, lv[a]? = some (.long x) ∧ (bh_MP g m0 p l e R S0 m args below meth c Qf) (pc + len) lv (.long x :: st) u h) : bh_MP g m0 p l e R S0 m args below meth c Qf pc lv st u h := by
  obtain ⟨hx, hb, hml, hown, hts, hm0, hE, hR, hB, hini⟩ := id cx
  obtain ⟨x, hxv, H1⟩ := H1
  unfold bh_d4 at hok
  intro H locs ls hP hS hN hX hl
  have hat := bh_pr_at hl hxv (by intro h; cases h)
  split at hok
  · split at hok
    next ha =>
      simp only [bh_dc, Bool.and_eq_true, decide_eq_true_eq] at hok
      obtain ⟨rfl, hd⟩ := hok
      exact lv_lload_n hx hb hd rfl hat (H1 H locs ls hP hS hN hX hl)
    next => cases hok
  · simp only [bh_dc, Bool.and_eq_true, decide_eq_true_eq] at hok
    obtain ⟨rfl, hd⟩ := hok
    exact lv_lload hx hb hd hat (H1 H locs ls hP hS hN hX hl)
set_option maxHeartbeats 1000000 in
theorem bs_5 (cx : bh_Cx g m0 d p R S0 m args meth c) (hok : bh_d4 m0 pc len a cn .aload_n .aload = true) (H1 : ∃ x, lv[a]? = some (.ref x) ∧ (bh_MP g m0 p l e R S0 m args below meth c Qf) (pc + len) lv (.ref x :: st) u h) : bh_MP g m0 p l e R S0 m args below meth c Qf pc lv st u h := by
  obtain ⟨hx, hb, hml, hown, hts, hm0, hE, hR, hB, hini⟩ := id cx
  obtain ⟨x, hxv, H1⟩ := H1
  unfold bh_d4 at hok
  intro H locs ls hP hS hN hX hl
  have hat := bh_pr_at hl hxv (by intro h; cases h)
  split at hok
  · split at hok
    next ha =>
      simp only [bh_dc, Bool.and_eq_true, decide_eq_true_eq] at hok
      obtain ⟨rfl, hd⟩ := hok
      exact lv_aload_n hx hb hd rfl hat (H1 H locs ls hP hS hN hX hl)
    next => cases hok
  · simp only [bh_dc, Bool.and_eq_true, decide_eq_true_eq] at hok
    obtain ⟨rfl, hd⟩ := hok
    exact lv_aload hx hb hd hat (H1 H locs ls hP hS hN hX hl)
set_option maxHeartbeats 1000000 in
theorem bs_6 (cx : bh_Cx g m0 d p R S0 m args meth c) (hok : bh_d4 m0 pc len a cn .istore_n .istore = true) (H1 : ∃ x s, st = .int x :: s ∧ a < bh_mL m0 ∧ (bh_MP g m0 p l e R S0 m args below meth c Qf) (pc + len) (bh_sto lv a (.int x)) s u h) : bh_MP g m0 p l e R S0 m args below meth c Qf pc lv st u h := by
  obtain ⟨hx, hb, hml, hown, hts, hm0, hE, hR, hB, hini⟩ := id cx
  obtain ⟨x, sk, rfl, hlt, H1⟩ := H1
  unfold bh_d4 at hok
  intro H locs ls hP hS hN hX hl
  split at hok
  · split at hok
    next ha =>
      simp only [bh_dc, Bool.and_eq_true, decide_eq_true_eq] at hok
      obtain ⟨rfl, hd⟩ := hok
      exact lv_istore_n hx hb hd rfl hl hlt rfl (fun ls' hl' => H1 H locs ls' hP hS hN hX (bh_sto_has rfl hl'))
    next => cases hok
  · simp only [bh_dc, Bool.and_eq_true, decide_eq_true_eq] at hok
    obtain ⟨rfl, hd⟩ := hok
    exact lv_istore hx hb hd hl hlt rfl (fun ls' hl' => H1 H locs ls' hP hS hN hX (bh_sto_has rfl hl'))
set_option maxHeartbeats 1000000 in
theorem bs_7 (cx : bh_Cx g m0 d p R S0 m args meth c) (hok : bh_d4 m0 pc len a cn .lstore_n .lstore = true) (H1 : ∃ x s, st = .long x :: s ∧ a + 1 < bh_mL m0 ∧ (bh_MP g m0 p l e R S0 m args below meth c Qf) (pc + len) (bh_stoL lv a (.long x)) s u h) : bh_MP g m0 p l e R S0 m args below meth c Qf pc lv st u h := by
  obtain ⟨hx, hb, hml, hown, hts, hm0, hE, hR, hB, hini⟩ := id cx
  obtain ⟨x, sk, rfl, hlt, H1⟩ := H1
  unfold bh_d4 at hok
  intro H locs ls hP hS hN hX hl
  split at hok
  · split at hok
    next ha =>
      simp only [bh_dc, Bool.and_eq_true, decide_eq_true_eq] at hok
      obtain ⟨rfl, hd⟩ := hok
      exact lv_lstore_n hx hb hd rfl hl hlt rfl (fun ls' hl' => H1 H locs ls' hP hS hN hX (bh_stoL_has hl'))
    next => cases hok
  · simp only [bh_dc, Bool.and_eq_true, decide_eq_true_eq] at hok
    obtain ⟨rfl, hd⟩ := hok
    exact lv_lstore hx hb hd hl hlt rfl (fun ls' hl' => H1 H locs ls' hP hS hN hX (bh_stoL_has hl'))
set_option maxHeartbeats 1000000 in
theorem bs_8 (cx : bh_Cx g m0 d p R S0 m args meth c) (hok : bh_d4 m0 pc len a cn .astore_n .astore = true) (H1 : ∃ x s, st = .ref x :: s ∧ a < bh_mL m0 ∧ (bh_MP g m0 p l e R S0 m args below meth c Qf) (pc + len) (bh_sto lv a (.ref x)) s u h) : bh_MP g m0 p l e R S0 m args below meth c Qf pc lv st u h := by
  obtain ⟨hx, hb, hml, hown, hts, hm0, hE, hR, hB, hini⟩ := id cx
  obtain ⟨x, sk, rfl, hlt, H1⟩ := H1
  unfold bh_d4 at hok
  intro H locs ls hP hS hN hX hl
  split at hok
  · split at hok
    next ha =>
      simp only [bh_dc, Bool.and_eq_true, decide_eq_true_eq] at hok
      obtain ⟨rfl, hd⟩ := hok
      exact lv_astore_n hx hb hd rfl hl hlt rfl (fun ls' hl' => H1 H locs ls' hP hS hN hX (bh_sto_has rfl hl'))
    next => cases hok
  · simp only [bh_dc, Bool.and_eq_true, decide_eq_true_eq] at hok
    obtain ⟨rfl, hd⟩ := hok
    exact lv_astore hx hb hd hl hlt rfl (fun ls' hl' => H1 H locs ls' hP hS hN hX (bh_sto_has rfl hl'))
set_option maxHeartbeats 1000000 in
theorem bs_9 (cx : bh_Cx g m0 d p R S0 m args meth c) (hok : bh_d3 m0 pc len (.iinc a cn) = true) (H1 : ∃ x, lv[a]? = some (.int x) ∧ a < bh_mL m0 ∧ (bh_MP g m0 p l e R S0 m args below meth c Qf) (pc + len) (bh_sto lv a (.int (x + Int32.ofInt cn))) st u h) : bh_MP g m0 p l e R S0 m args below meth c Qf pc lv st u h := by
  obtain ⟨hx, hb, hml, hown, hts, hm0, hE, hR, hB, hini⟩ := id cx
  simp only [bh_d3, bh_dc, Bool.and_eq_true, decide_eq_true_eq] at hok
  obtain ⟨rfl, hd⟩ := hok
  obtain ⟨x, hxv, hlt, H1⟩ := H1
  intro H locs ls hP hS hN hX hl
  obtain ⟨k, hk⟩ := List.getElem?_of_mem (bh_pr_mem.mpr ⟨.int x, hxv, by (intro h; cases h), rfl⟩ : (a, Value.int x) ∈ bh_pr g lv)
  exact lv_iinc hx hb hd hl hk rfl hlt rfl (fun ls' hl' => H1 H locs ls' hP hS hN hX (bh_sto_has rfl hl'))
set_option maxHeartbeats 1000000 in
theorem bs_10 (cx : bh_Cx g m0 d p R S0 m args meth c) (hok : bh_d1 m0 pc len (bh_ibI a) = true) (H1 : ∃ x y s, st = .int y :: .int x :: s ∧ (bh_MP g m0 p l e R S0 m args below meth c Qf) (pc + len) lv (.int (bh_ib a x y) :: s) u h) : bh_MP g m0 p l e R S0 m args below meth c Qf pc lv st u h := by
  obtain ⟨hx, hb, hml, hown, hts, hm0, hE, hR, hB, hini⟩ := id cx
  simp only [bh_d1, bh_dc, Bool.and_eq_true, decide_eq_true_eq] at hok
  obtain ⟨rfl, hd⟩ := hok
  obtain ⟨x, y, sk, rfl, H1⟩ := H1
  intro H locs ls hP hS hN hX hl
  have H2 := H1 H locs ls hP hS hN hX hl
  match a, hd, H2 with
  | 0, hd, H2 => exact lv_iadd hx hb hd H2
  | 1, hd, H2 => exact lv_isub hx hb hd H2
  | 2, hd, H2 => exact lv_imul hx hb hd H2
  | 3, hd, H2 => exact lv_iand hx hb hd H2
  | 4, hd, H2 => exact lv_ior hx hb hd H2
  | 5, hd, H2 => exact lv_ixor hx hb hd H2
  | 6, hd, H2 => exact lv_ishl hx hb hd H2
  | 7, hd, H2 => exact lv_ishr hx hb hd H2
  | n + 8, hd, H2 => exact lv_iushr hx hb hd rfl H2
set_option maxHeartbeats 1000000 in
theorem bs_11 (cx : bh_Cx g m0 d p R S0 m args meth c) (hok : bh_d1 m0 pc len .idiv = true) (H1 : ∃ x y s, st = .int y :: .int x :: s ∧ ¬ y = 0 ∧ (bh_MP g m0 p l e R S0 m args below meth c Qf) (pc + len) lv (.int (x / y) :: s) u h) : bh_MP g m0 p l e R S0 m args below meth c Qf pc lv st u h := by
  obtain ⟨hx, hb, hml, hown, hts, hm0, hE, hR, hB, hini⟩ := id cx
  simp only [bh_d1, bh_dc, Bool.and_eq_true, decide_eq_true_eq] at hok
  obtain ⟨rfl, hd⟩ := hok
  obtain ⟨x, y, sk, rfl, hy, H1⟩ := H1
  intro H locs ls hP hS hN hX hl
  exact lv_idiv hx hb hd hy (H1 H locs ls hP hS hN hX hl)
set_option maxHeartbeats 1000000 in
theorem bs_12 (cx : bh_Cx g m0 d p R S0 m args meth c) (hok : bh_d1 m0 pc len .irem = true) (H1 : ∃ x y s, st = .int y :: .int x :: s ∧ ¬ y = 0 ∧ (bh_MP g m0 p l e R S0 m args below meth c Qf) (pc + len) lv (.int (x - x / y * y) :: s) u h) : bh_MP g m0 p l e R S0 m args below meth c Qf pc lv st u h := by
  obtain ⟨hx, hb, hml, hown, hts, hm0, hE, hR, hB, hini⟩ := id cx
  simp only [bh_d1, bh_dc, Bool.and_eq_true, decide_eq_true_eq] at hok
  obtain ⟨rfl, hd⟩ := hok
  obtain ⟨x, y, sk, rfl, hy, H1⟩ := H1
  intro H locs ls hP hS hN hX hl
  exact lv_irem hx hb hd hy (H1 H locs ls hP hS hN hX hl)
set_option maxHeartbeats 1000000 in
theorem bs_13 (cx : bh_Cx g m0 d p R S0 m args meth c) (hok : bh_d1 m0 pc len (bh_lbI a) = true) (H1 : ∃ x y s, st = .long y :: .long x :: s ∧ (bh_MP g m0 p l e R S0 m args below meth c Qf) (pc + len) lv (.long (bh_lb a x y) :: s) u h) : bh_MP g m0 p l e R S0 m args below meth c Qf pc lv st u h := by
  obtain ⟨hx, hb, hml, hown, hts, hm0, hE, hR, hB, hini⟩ := id cx
  simp only [bh_d1, bh_dc, Bool.and_eq_true, decide_eq_true_eq] at hok
  obtain ⟨rfl, hd⟩ := hok
  obtain ⟨x, y, sk, rfl, H1⟩ := H1
  intro H locs ls hP hS hN hX hl
  have H2 := H1 H locs ls hP hS hN hX hl
  match a, hd, H2 with
  | 0, hd, H2 => exact lv_ladd hx hb hd H2
  | 1, hd, H2 => exact lv_lmul hx hb hd H2
  | n + 2, hd, H2 => exact lv_lor hx hb hd H2
set_option maxHeartbeats 1000000 in
theorem bs_14 (cx : bh_Cx g m0 d p R S0 m args meth c) (hok : bh_d1 m0 pc len .lshl = true) (H1 : ∃ (x : Int64) (y : Int32) (s : List Value), st = .int y :: .long x :: s ∧ (bh_MP g m0 p l e R S0 m args below meth c Qf) (pc + len) lv (.long (x <<< (y.toInt64 &&& 63)) :: s) u h) : bh_MP g m0 p l e R S0 m args below meth c Qf pc lv st u h := by
  obtain ⟨hx, hb, hml, hown, hts, hm0, hE, hR, hB, hini⟩ := id cx
  simp only [bh_d1, bh_dc, Bool.and_eq_true, decide_eq_true_eq] at hok
  obtain ⟨rfl, hd⟩ := hok
  obtain ⟨x, y, sk, rfl, H1⟩ := H1
  intro H locs ls hP hS hN hX hl
  exact lv_lshl hx hb hd rfl (H1 H locs ls hP hS hN hX hl)
set_option maxHeartbeats 1000000 in
theorem bs_15 (cx : bh_Cx g m0 d p R S0 m args meth c) (hok : bh_d1 m0 pc len .i2l = true) (H1 : ∃ (x : Int32) (s : List Value), st = .int x :: s ∧ (bh_MP g m0 p l e R S0 m args below meth c Qf) (pc + len) lv (.long x.toInt64 :: s) u h) : bh_MP g m0 p l e R S0 m args below meth c Qf pc lv st u h := by
  obtain ⟨hx, hb, hml, hown, hts, hm0, hE, hR, hB, hini⟩ := id cx
  simp only [bh_d1, bh_dc, Bool.and_eq_true, decide_eq_true_eq] at hok
  obtain ⟨rfl, hd⟩ := hok
  obtain ⟨x, sk, rfl, H1⟩ := H1
  intro H locs ls hP hS hN hX hl
  exact lv_i2l hx hb hd rfl (H1 H locs ls hP hS hN hX hl)
set_option maxHeartbeats 1000000 in
theorem bs_16 (cx : bh_Cx g m0 d p R S0 m args meth c) (hok : bh_d1 m0 pc len .i2b = true) (H1 : ∃ (x : Int32) (s : List Value), st = .int x :: s ∧ (bh_MP g m0 p l e R S0 m args below meth c Qf) (pc + len) lv (.int x.toInt8.toInt32 :: s) u h) : bh_MP g m0 p l e R S0 m args below meth c Qf pc lv st u h := by
  obtain ⟨hx, hb, hml, hown, hts, hm0, hE, hR, hB, hini⟩ := id cx
  simp only [bh_d1, bh_dc, Bool.and_eq_true, decide_eq_true_eq] at hok
  obtain ⟨rfl, hd⟩ := hok
  obtain ⟨x, sk, rfl, H1⟩ := H1
  intro H locs ls hP hS hN hX hl
  exact lv_i2b hx hb hd rfl (H1 H locs ls hP hS hN hX hl)
set_option maxHeartbeats 1000000 in
theorem bs_17 (cx : bh_Cx g m0 d p R S0 m args meth c) (hok : bh_d1 m0 pc len .lcmp = true) (H1 : ∃ x y s, st = .long y :: .long x :: s ∧ (bh_MP g m0 p l e R S0 m args below meth c Qf) (pc + len) lv (.int (lg_cmp x y) :: s) u h) : bh_MP g m0 p l e R S0 m args below meth c Qf pc lv st u h := by
  obtain ⟨hx, hb, hml, hown, hts, hm0, hE, hR, hB, hini⟩ := id cx
  simp only [bh_d1, bh_dc, Bool.and_eq_true, decide_eq_true_eq] at hok
  obtain ⟨rfl, hd⟩ := hok
  obtain ⟨x, y, sk, rfl, H1⟩ := H1
  intro H locs ls hP hS hN hX hl
  exact W.lcmp hx hb hd (H1 H locs ls hP hS hN hX hl)
set_option maxHeartbeats 1000000 in
theorem bs_18 (cx : bh_Cx g m0 d p R S0 m args meth c) (hok : bh_d1 m0 pc len .dup = true) (H1 : ∃ v s, st = v :: s ∧ v.category = 1 ∧ (bh_MP g m0 p l e R S0 m args below meth c Qf) (pc + len) lv (v :: v :: s) u h) : bh_MP g m0 p l e R S0 m args below meth c Qf pc lv st u h := by
  obtain ⟨hx, hb, hml, hown, hts, hm0, hE, hR, hB, hini⟩ := id cx
  simp only [bh_d1, bh_dc, Bool.and_eq_true, decide_eq_true_eq] at hok
  obtain ⟨rfl, hd⟩ := hok
  obtain ⟨v, sk, rfl, hc, H1⟩ := H1
  intro H locs ls hP hS hN hX hl
  exact lv_dup hx hb hd ((bh_tr_cat g v).trans hc) (H1 H locs ls hP hS hN hX hl)
set_option maxHeartbeats 1000000 in
theorem bs_19 (cx : bh_Cx g m0 d p R S0 m args meth c) (hok : bh_d1 m0 pc len .pop = true) (H1 : ∃ v s, st = v :: s ∧ v.category = 1 ∧ (bh_MP g m0 p l e R S0 m args below meth c Qf) (pc + len) lv s u h) : bh_MP g m0 p l e R S0 m args below meth c Qf pc lv st u h := by
  obtain ⟨hx, hb, hml, hown, hts, hm0, hE, hR, hB, hini⟩ := id cx
  simp only [bh_d1, bh_dc, Bool.and_eq_true, decide_eq_true_eq] at hok
  obtain ⟨rfl, hd⟩ := hok
  obtain ⟨v, sk, rfl, hc, H1⟩ := H1
  intro H locs ls hP hS hN hX hl
  exact lv_pop hx hb hd ((bh_tr_cat g v).trans hc) (H1 H locs ls hP hS hN hX hl)
set_option maxHeartbeats 1000000 in
theorem bs_20 (cx : bh_Cx g m0 d p R S0 m args meth c) (hok : bh_d1 m0 pc len .dup2 = true) (H1 : ∃ v w s, st = v :: w :: s ∧ v.category = 1 ∧ w.category = 1 ∧ (bh_MP g m0 p l e R S0 m args below meth c Qf) (pc + len) lv (v :: w :: v :: w :: s) u h) : bh_MP g m0 p l e R S0 m args below meth c Qf pc lv st u h := by
  obtain ⟨hx, hb, hml, hown, hts, hm0, hE, hR, hB, hini⟩ := id cx
  simp only [bh_d1, bh_dc, Bool.and_eq_true, decide_eq_true_eq] at hok
  obtain ⟨rfl, hd⟩ := hok
  obtain ⟨v, w, sk, rfl, hc, hc2, H1⟩ := H1
  intro H locs ls hP hS hN hX hl
  exact lv_dup2_11 hx hb hd ((bh_tr_cat g v).trans hc) ((bh_tr_cat g w).trans hc2) (H1 H locs ls hP hS hN hX hl)
set_option maxHeartbeats 1000000 in
theorem bs_21 (cx : bh_Cx g m0 d p R S0 m args meth c) (hok : bh_d3 m0 pc len (.ifCond (bh_cc cn) ((a : Int) - pc)) = true) (H1 : ∃ x s, st = .int x :: s ∧ (bh_cmp cn x 0 → (bh_MP g m0 p l e R S0 m args below meth c Qf) a lv s u h) ∧ (¬ bh_cmp cn x 0 → (bh_MP g m0 p l e R S0 m args below meth c Qf) (pc + len) lv s u h)) : bh_MP g m0 p l e R S0 m args below meth c Qf pc lv st u h := by
  obtain ⟨hx, hb, hml, hown, hts, hm0, hE, hR, hB, hini⟩ := id cx
  simp only [bh_d3, bh_dc, Bool.and_eq_true, decide_eq_true_eq] at hok
  obtain ⟨rfl, hd⟩ := hok
  obtain ⟨x, sk, rfl, H1, H2⟩ := H1
  intro H locs ls hP hS hN hX hl
  have kt := fun z => H1 z H locs ls hP hS hN hX hl
  have kf := fun z => H2 z H locs ls hP hS hN hX hl
  have ht : (pc : Int) + ((a : Int) - pc) = (a : Int) := by omega
  by_cases h0 : cn = 0
  · subst h0
    exact lv_if_eq hx hb hd ht kt kf
  by_cases h1 : cn = 1
  · subst h1
    exact lv_if_ne hx hb hd ht kt (fun z => kf (fun q => q z))
  by_cases h2 : cn = 2
  · subst h2
    exact lv_if_lt hx hb hd ht kt kf
  by_cases h3 : cn = 3
  · subst h3
    exact lv_if_ge hx hb hd ht kt kf
  by_cases h4 : cn = 4
  · subst h4
    exact lv_if_gt hx hb hd ht kt kf
  have e1 : bh_cc cn = .le := by unfold bh_cc; split <;> first | contradiction | rfl
  have e2 : ∀ v w : Int32, bh_cmp cn v w = (v ≤ w) := fun v w => by unfold bh_cmp; split <;> first | contradiction | rfl
  rw [e1] at hd
  rw [e2] at kt kf
  exact lv_if_le hx hb hd ht kt kf
set_option maxHeartbeats 1000000 in
theorem bs_22 (cx : bh_Cx g m0 d p R S0 m args meth c) (hok : bh_d3 m0 pc len (.if_icmp (bh_cc cn) ((a : Int) - pc)) = true) (H1 : ∃ x y s, st = .int y :: .int x :: s ∧ (bh_cmp cn x y → (bh_MP g m0 p l e R S0 m args below meth c Qf) a lv s u h) ∧ (¬ bh_cmp cn x y → (bh_MP g m0 p l e R S0 m args below meth c Qf) (pc + len) lv s u h)) : bh_MP g m0 p l e R S0 m args below meth c Qf pc lv st u h := by
  obtain ⟨hx, hb, hml, hown, hts, hm0, hE, hR, hB, hini⟩ := id cx
  simp only [bh_d3, bh_dc, Bool.and_eq_true, decide_eq_true_eq] at hok
  obtain ⟨rfl, hd⟩ := hok
  obtain ⟨x, y, sk, rfl, H1, H2⟩ := H1
  intro H locs ls hP hS hN hX hl
  have kt := fun z => H1 z H locs ls hP hS hN hX hl
  have kf := fun z => H2 z H locs ls hP hS hN hX hl
  have ht : (pc : Int) + ((a : Int) - pc) = (a : Int) := by omega
  by_cases h0 : cn = 0
  · subst h0
    exact lv_icmp_eq hx hb hd ht kt kf
  by_cases h1 : cn = 1
  · subst h1
    exact lv_icmp_ne hx hb hd ht kt (fun z => kf (fun q => q z))
  by_cases h2 : cn = 2
  · subst h2
    exact lv_icmp_lt hx hb hd ht kt kf
  by_cases h3 : cn = 3
  · subst h3
    exact lv_icmp_ge hx hb hd ht kt kf
  by_cases h4 : cn = 4
  · subst h4
    exact lv_icmp_gt hx hb hd ht kt kf
  have e1 : bh_cc cn = .le := by unfold bh_cc; split <;> first | contradiction | rfl
  have e2 : ∀ v w : Int32, bh_cmp cn v w = (v ≤ w) := fun v w => by unfold bh_cmp; split <;> first | contradiction | rfl
  rw [e1] at hd
  rw [e2] at kt kf
  exact lv_icmp_le hx hb hd ht kt kf
set_option maxHeartbeats 1000000 in
theorem bs_23 (cx : bh_Cx g m0 d p R S0 m args meth c) (hok : bh_d3 m0 pc len (.goto ((a : Int) - pc)) = true) (H1 : (bh_MP g m0 p l e R S0 m args below meth c Qf) a lv st u h) : bh_MP g m0 p l e R S0 m args below meth c Qf pc lv st u h := by
  obtain ⟨hx, hb, hml, hown, hts, hm0, hE, hR, hB, hini⟩ := id cx
  simp only [bh_d3, bh_dc, Bool.and_eq_true, decide_eq_true_eq] at hok
  obtain ⟨rfl, hd⟩ := hok
  intro H locs ls hP hS hN hX hl
  exact lv_goto hx hb hd (by omega) (H1 H locs ls hP hS hN hX hl)
set_option maxHeartbeats 1000000 in
theorem bs_24 (cx : bh_Cx g m0 d p R S0 m args meth c) (hok : bh_dc m0 pc (.tableswitch ((a : Int) - pc) cn (cn + l9.length - 1) (l9.map (fun t : Nat => (t : Int) - pc)).toArray) len = true) (H1 : ∃ x s, st = .int x :: s ∧ ((¬ x.toInt < cn ∧ ¬ cn + l9.length - 1 < x.toInt) → ∃ t, l9[(x.toInt - cn).toNat]? = some t ∧ (bh_MP g m0 p l e R S0 m args below meth c Qf) t lv s u h) ∧ ((x.toInt < cn ∨ cn + l9.length - 1 < x.toInt) → (bh_MP g m0 p l e R S0 m args below meth c Qf) a lv s u h)) : bh_MP g m0 p l e R S0 m args below meth c Qf pc lv st u h := by
  obtain ⟨hx, hb, hml, hown, hts, hm0, hE, hR, hB, hini⟩ := id cx
  simp only [bh_dc, decide_eq_true_eq] at hok
  obtain ⟨x, sk, rfl, H1, H2⟩ := H1
  intro H locs ls hP hS hN hX hl
  by_cases hq : x.toInt < cn ∨ cn + l9.length - 1 < x.toInt
  · exact lv_tableOut hx hb hok hq (by omega) (H2 hq H locs ls hP hS hN hX hl)
  · have h1 : ¬ x.toInt < cn := fun z => hq (Or.inl z)
    have h2 : ¬ cn + l9.length - 1 < x.toInt := fun z => hq (Or.inr z)
    obtain ⟨t, ht, H3⟩ := H1 ⟨h1, h2⟩
    exact lv_tableIn (off := (t : Int) - pc) hx hb hok h1 h2 (by simp [ht]) (by omega) (H3 H locs ls hP hS hN hX hl)
set_option maxHeartbeats 1000000 in
theorem bs_25 (cx : bh_Cx g m0 d p R S0 m args meth c) (hok : (match bh_FL[a]? with
      | some q => bh_d3 m0 pc len (.getfield q.2.1) && decide (q.1 = bh_O m0)
      | none => false) = true) (H1 : ∃ k s, st = .ref k :: s ∧ k < h.1 ∧ ∃ q, bh_FL[a]? = some q ∧ bh_tg k = q.2.2.1 ∧ q.2.2.2 < bh_ln k ∧ ((bh_fr q.2.2.1 q.2.2.2 = true ∧ ∃ r, h.2.1 k q.2.2.2 = some r ∧ (bh_MP g m0 p l e R S0 m args below meth c Qf) (pc + len) lv (.ref r :: s) u h) ∨ (bh_fr q.2.2.1 q.2.2.2 = false ∧ (bh_MP g m0 p l e R S0 m args below meth c Qf) (pc + len) lv (.int (h.2.2.1 k q.2.2.2) :: s) u h))) : bh_MP g m0 p l e R S0 m args below meth c Qf pc lv st u h := by
  obtain ⟨hx, hb, hml, hown, hts, hm0, hE, hR, hB, hini⟩ := id cx
  obtain ⟨k, sk, rfl, hk, q, hq, htg, hjl, H1⟩ := H1
  rw [hq] at hok
  simp only [bh_d3, bh_dc, Bool.and_eq_true, decide_eq_true_eq] at hok
  obtain ⟨⟨rfl, hd⟩, ho⟩ := hok
  obtain ⟨t, htc, htk, htw⟩ := bh_fok_of hq
  obtain ⟨hu1, hu2, hu3, hu4⟩ := bh_uok_of htc
  intro H locs ls hP hS hN hX hl
  rw [← ho] at hown
  have hci : q.2.2.1 < 20 := Nat.lt_of_lt_of_le (bh_cls_of htc) (by decide)
  have hE0 := bh_E_obj (g := g) (h := h) htg hci
  have he := bh_ws_at g hk
  rw [hE0] at he
  have hX2 := hX.2.2
  show W p l e R S0 m args below meth c H locs u.1 u.2 Qf (F0 m pc ls (.ref (bh_ad g k) :: sk.map (bh_tr g)))
  rw [bh_ad_own hk hX]
  refine va_get (C := t.1) (T := t.2.1) (N := t.2.2) (v := bh_fv g h q.2.2.1 k q.2.2.2) hx hb hts hu1 hown hE.1 hP k he htc q.2.2.2 htk (hts _ htw) (fun _ z => z) (bh_fs_at hjl) hd ?_
  rcases H1 with ⟨hf, r, hr, H1⟩ | ⟨hf, H1⟩
  · have e1 : bh_fv g h q.2.2.1 k q.2.2.2 = .ref (bh_ad g r) := by unfold bh_fv; rw [if_pos hf, hr]; rfl
    rw [e1]
    exact H1 H locs ls hP hS hN hX hl
  · have e1 : bh_fv g h q.2.2.1 k q.2.2.2 = .int (h.2.2.1 k q.2.2.2) := by unfold bh_fv; rw [if_neg (by rw [hf]; decide)]
    rw [e1]
    exact H1 H locs ls hP hS hN hX hl
set_option maxHeartbeats 1000000 in
theorem bs_26 (cx : bh_Cx g m0 d p R S0 m args meth c) (hok : (match bh_FL[a]? with
      | some q => bh_d3 m0 pc len (.putfield q.2.1) && decide (q.1 = bh_O m0) && (match bh_cls[q.2.2.1]? with
        | some t => (t.2.1 q.2.2.2).2.2.2 == bh_fr q.2.2.1 q.2.2.2 && (!(bh_fr q.2.2.1 q.2.2.2) || (decide ((bh_Y m0).name = "<init>") && decide ((t.2.1 q.2.2.2).1 = bh_O m0)))
        | none => false)
      | none => false) = true) (H1 : ∃ q, bh_FL[a]? = some q ∧
        ((bh_fr q.2.2.1 q.2.2.2 = true ∧ ∃ r k s, st = .ref r :: .ref k :: s ∧ k < h.1 ∧ r < h.1 ∧ bh_tg k = q.2.2.1 ∧ q.2.2.2 < bh_ln k ∧ (bh_MP g m0 p l e R S0 m args below meth c Qf) (pc + len) lv s u (h.1, bh_up2 h.2.1 k q.2.2.2 (some r), h.2.2.1, h.2.2.2)) ∨
         (bh_fr q.2.2.1 q.2.2.2 = false ∧ ∃ x k s, st = .int x :: .ref k :: s ∧ k < h.1 ∧ bh_tg k = q.2.2.1 ∧ q.2.2.2 < bh_ln k ∧ (bh_MP g m0 p l e R S0 m args below meth c Qf) (pc + len) lv s u (h.1, h.2.1, bh_up2 h.2.2.1 k q.2.2.2 x, h.2.2.2)))) : bh_MP g m0 p l e R S0 m args below meth c Qf pc lv st u h := by
  obtain ⟨hx, hb, hml, hown, hts, hm0, hE, hR, hB, hini⟩ := id cx
  obtain ⟨q, hq, H1⟩ := H1
  rw [hq] at hok
  obtain ⟨t, htc, htk, htw⟩ := bh_fok_of hq
  obtain ⟨hu1, hu2, hu3, hu4⟩ := bh_uok_of htc
  dsimp only at hok
  rw [htc] at hok
  simp only [bh_d3, bh_dc, Bool.and_eq_true, decide_eq_true_eq] at hok
  obtain ⟨⟨⟨rfl, hd⟩, ho⟩, hfin, hin⟩ := hok
  intro H locs ls hP hS hN hX hl
  have hown2 := hown
  rw [← ho] at hown2
  have hX2 := hX.2.2
  have hci : q.2.2.1 < 20 := Nat.lt_of_lt_of_le (bh_cls_of htc) (by decide)
  rcases H1 with ⟨hf, r, k, sk, rfl, hk, hr, htg, hjl, H1⟩ | ⟨hf, x, k, sk, rfl, hk, htg, hjl, H1⟩
  · have hE0 := bh_E_obj (g := g) (h := h) htg hci
    have he := bh_ws_at g hk
    rw [hE0] at he
    rw [hf] at hfin hin
    simp only [Bool.not_true, Bool.false_or, Bool.and_eq_true, decide_eq_true_eq] at hin
    obtain ⟨hn1, hn2⟩ := (hu3 _ htk).1 hf
    show W p l e R S0 m args below meth c H locs u.1 u.2 Qf (F0 m pc ls (.ref (bh_ad g r) :: .ref (bh_ad g k) :: sk.map (bh_tr g)))
    rw [bh_ad_own hk hX]
    have hnar : narrow (bh_ty q.2.2.1 q.2.2.2) (.ref (bh_ad g r)) = .ref (bh_ad g r) := by cases bh_ty q.2.2.1 q.2.2.2 <;> rfl
    have hfit : fits (bh_ty q.2.2.1 q.2.2.2) (.ref (bh_ad g r)) = true := by
      revert hn2
      cases bh_ty q.2.2.1 q.2.2.2 <;> intro hn2 <;> first | rfl | cases hn2
    refine va_putF (C := t.1) (T := t.2.1) (N := t.2.2) hx hb hts hu1 (bh_ty q.2.2.1) hu2 hu4 hown2 hE.1 hP (bh_ws_D g h) hS k he htc q.2.2.2 htk (hts _ htw) (fun _ z => z) (by simpa using hfin) (hini hin.1) (by rw [hin.2, ho]) (hu2 _ htk) hnar hfit (by simpa using hjl) hd (fun H2 locs2 hP2 hD2 hS2 => ?_)
    have e1 : (bh_ws g h).set k (bh_gB g + k, .inr (q.2.2.1, ((List.range (bh_ln k)).map (bh_fv g h q.2.2.1 k)).set q.2.2.2 (.ref (bh_ad g r)))) = bh_ws g (h.1, bh_up2 h.2.1 k q.2.2.2 (some r), h.2.2.1, h.2.2.2) := by
      refine bh_ws_set (by rfl) hk ?_ (fun j hj => bh_E_congr (bh_up2_ne _ _ _ hj) rfl rfl)
      rw [bh_E_obj htg hci]
      congr 2
      refine (bh_fs_set ?_ (fun i hi => ?_)).symm
      · unfold bh_fv
        rw [if_pos hf]
        dsimp only
        rw [bh_up2_self]
        rfl
      · unfold bh_fv
        dsimp only
        rw [bh_up2_k]
        dsimp only
        rw [if_neg hi]
    rw [e1] at hP2
    exact H1 H2 locs2 ls hP2 hS2 hN hX hl
  · have hE0 := bh_E_obj (g := g) (h := h) htg hci
    have he := bh_ws_at g hk
    rw [hE0] at he
    have hfin2 : (t.2.1 q.2.2.2).2.2.2 = false := by rw [hf] at hfin; simpa using hfin
    have hty := (hu3 _ htk).2 hf
    show W p l e R S0 m args below meth c H locs u.1 u.2 Qf (F0 m pc ls (.int x :: .ref (bh_ad g k) :: sk.map (bh_tr g)))
    rw [bh_ad_own hk hX]
    refine va_put (C := t.1) (T := t.2.1) (N := t.2.2) (ty := .int) hx hb hts hu1 (bh_ty q.2.2.1) hu2 hu4 hown2 hE.1 hP (bh_ws_D g h) hS k he htc q.2.2.2 htk (hts _ htw) (fun _ z => z) hfin2 (by rw [hu2 _ htk, hty]) rfl rfl (by simpa using hjl) hd (fun H2 locs2 hP2 hD2 hS2 => ?_)
    have e1 : (bh_ws g h).set k (bh_gB g + k, .inr (q.2.2.1, ((List.range (bh_ln k)).map (bh_fv g h q.2.2.1 k)).set q.2.2.2 (.int x))) = bh_ws g (h.1, h.2.1, bh_up2 h.2.2.1 k q.2.2.2 x, h.2.2.2) := by
      refine bh_ws_set (by rfl) hk ?_ (fun j hj => bh_E_congr rfl (bh_up2_ne _ _ _ hj) rfl)
      rw [bh_E_obj htg hci]
      congr 2
      refine (bh_fs_set ?_ (fun i hi => ?_)).symm
      · unfold bh_fv
        rw [if_neg (by rw [hf]; decide)]
        dsimp only
        rw [bh_up2_self]
      · unfold bh_fv
        dsimp only
        rw [bh_up2_k]
        dsimp only
        rw [if_neg hi]
    rw [e1] at hP2
    have hk2 := bh_ne_own hk hX
    exact H1 H2 locs2 ls hP2 hS2 hN ⟨(bh_up2_ne _ _ _ hk2.1).trans hX.1, by show bh_up2 h.2.2.1 k q.2.2.2 x 1001 0 = _; rw [bh_up2_ne _ _ _ hk2.2]; exact hX.2.1, hX.2.2⟩ hl
set_option maxHeartbeats 1000000 in
theorem bs_27 (cx : bh_Cx g m0 d p R S0 m args meth c) (hok : bh_d1 m0 pc len .iaload = true) (H1 : ∃ i k s, st = .int i :: .ref k :: s ∧ ((k < h.1 ∧ bh_tg k = 20 ∧ vp_in i (bh_ln k) ∧ (bh_MP g m0 p l e R S0 m args below meth c Qf) (pc + len) lv (.int (h.2.2.1 k i.toNatClampNeg) :: s) u h) ∨ (k = 1000 ∧ vp_in i (h.2.2.1 1001 0).toNatClampNeg ∧ (bh_MP g m0 p l e R S0 m args below meth c Qf) (pc + len) lv (.int (h.2.2.1 1000 i.toNatClampNeg) :: s) u h))) : bh_MP g m0 p l e R S0 m args below meth c Qf pc lv st u h := by
  obtain ⟨hx, hb, hml, hown, hts, hm0, hE, hR, hB, hini⟩ := id cx
  simp only [bh_d1, bh_dc, Bool.and_eq_true, decide_eq_true_eq] at hok
  obtain ⟨rfl, hd⟩ := hok
  obtain ⟨i, k, sk, rfl, H1⟩ := H1
  intro H locs ls hP hS hN hX hl
  have hX2 := hX.2.2
  show W p l e R S0 m args below meth c H locs u.1 u.2 Qf (F0 m pc ls (.int i :: .ref (bh_ad g k) :: sk.map (bh_tr g)))
  rcases H1 with ⟨hk, htg, hin, H1⟩ | ⟨rfl, hin, H1⟩
  · have he := bh_ws_at g hk
    rw [bh_E_int htg (Or.inl rfl)] at he
    rw [bh_ad_own hk hX]
    exact va_iald hx hb hE.1 hP k 0 he rfl hin hd (H1 H locs ls hP hS hN hX hl)
  · have hb2 := hE.2.2.2.2.2.1
    rw [show bh_ad g 1000 = bh_gX g 1000 from rfl]
    have h7 := hE.2.2.2.2.2.2.1
    rw [hX.2.1, nI_clamp (by omega)] at hin
    refine va_sld hx hb hE.2.2.2.2.1 (Nat.lt_of_lt_of_le hb2 hB) (show ¬ bh_gB g ≤ bh_gX g 1000 by omega) hS hin hd ?_
    have H2 := H1 H locs ls hP hS hN hX hl
    rw [hX.1] at H2
    exact H2
set_option maxHeartbeats 1000000 in
theorem bs_28 (cx : bh_Cx g m0 d p R S0 m args meth c) (hok : bh_d1 m0 pc len .iastore = true) (H1 : ∃ x i k s, st = .int x :: .int i :: .ref k :: s ∧ k < h.1 ∧ bh_tg k = 20 ∧ vp_in i (bh_ln k) ∧ (bh_MP g m0 p l e R S0 m args below meth c Qf) (pc + len) lv s u (h.1, h.2.1, bh_up2 h.2.2.1 k i.toNatClampNeg x, h.2.2.2)) : bh_MP g m0 p l e R S0 m args below meth c Qf pc lv st u h := by
  obtain ⟨hx, hb, hml, hown, hts, hm0, hE, hR, hB, hini⟩ := id cx
  simp only [bh_d1, bh_dc, Bool.and_eq_true, decide_eq_true_eq] at hok
  obtain ⟨rfl, hd⟩ := hok
  obtain ⟨x, i, k, sk, rfl, hk, htg, hin, H1⟩ := H1
  intro H locs ls hP hS hN hX hl
  have hX2 := hX.2.2
  show W p l e R S0 m args below meth c H locs u.1 u.2 Qf (F0 m pc ls (.int x :: .int i :: .ref (bh_ad g k) :: sk.map (bh_tr g)))
  have he := bh_ws_at g hk
  rw [bh_E_int htg (Or.inl rfl)] at he
  rw [bh_ad_own hk hX]
  refine va_iast hx hb hE.1 hP (bh_ws_D g h) hS k 0 he rfl hin hd (fun H2 locs2 hP2 hD2 hS2 => ?_)
  rw [bh_ws_set (h' := (h.1, h.2.1, bh_up2 h.2.2.1 k i.toNatClampNeg x, h.2.2.2)) (by rfl) hk (by rw [bh_E_int htg (Or.inl rfl)]; dsimp only; rw [bh_up2_k]; rfl) (fun j hj => bh_E_congr rfl (bh_up2_ne _ _ _ hj) rfl)] at hP2
  have hk2 := bh_ne_own hk hX
  exact H1 H2 locs2 ls hP2 hS2 hN ⟨(bh_up2_ne _ _ _ hk2.1).trans hX.1, by show bh_up2 h.2.2.1 k _ x 1001 0 = _; rw [bh_up2_ne _ _ _ hk2.2]; exact hX.2.1, hX.2.2⟩ hl
set_option maxHeartbeats 1000000 in
theorem bs_29 (cx : bh_Cx g m0 d p R S0 m args meth c) (hok : bh_d1 m0 pc len .baload = true) (H1 : ∃ i k s, st = .int i :: .ref k :: s ∧ k < h.1 ∧ (bh_tg k = 22 ∨ bh_tg k = 23) ∧ vp_in i (bh_ln k) ∧ (bh_MP g m0 p l e R S0 m args below meth c Qf) (pc + len) lv (.int (h.2.2.1 k i.toNatClampNeg) :: s) u h) : bh_MP g m0 p l e R S0 m args below meth c Qf pc lv st u h := by
  obtain ⟨hx, hb, hml, hown, hts, hm0, hE, hR, hB, hini⟩ := id cx
  simp only [bh_d1, bh_dc, Bool.and_eq_true, decide_eq_true_eq] at hok
  obtain ⟨rfl, hd⟩ := hok
  obtain ⟨i, k, sk, rfl, hk, htg, hin, H1⟩ := H1
  intro H locs ls hP hS hN hX hl
  have hX2 := hX.2.2
  show W p l e R S0 m args below meth c H locs u.1 u.2 Qf (F0 m pc ls (.int i :: .ref (bh_ad g k) :: sk.map (bh_tr g)))
  have he := bh_ws_at g hk
  rw [bh_ad_own hk hX]
  rcases htg with htg | htg
  · rw [bh_E_int htg (Or.inr (Or.inl rfl))] at he
    exact va_bald hx hb hE.1 hP k 2 he rfl hin hd (H1 H locs ls hP hS hN hX hl)
  · rw [bh_E_int htg (Or.inr (Or.inr rfl))] at he
    exact va_zald hx hb hE.1 hP k 3 he rfl hin hd (H1 H locs ls hP hS hN hX hl)
set_option maxHeartbeats 1000000 in
theorem bs_30 (cx : bh_Cx g m0 d p R S0 m args meth c) (hok : bh_d1 m0 pc len .bastore = true) (H1 : ∃ x i k s, st = .int x :: .int i :: .ref k :: s ∧ k < h.1 ∧ vp_in i (bh_ln k) ∧ ((bh_tg k = 22 ∧ (bh_MP g m0 p l e R S0 m args below meth c Qf) (pc + len) lv s u (h.1, h.2.1, bh_up2 h.2.2.1 k i.toNatClampNeg (vp_nar .byte x), h.2.2.2)) ∨ (bh_tg k = 23 ∧ (bh_MP g m0 p l e R S0 m args below meth c Qf) (pc + len) lv s u (h.1, h.2.1, bh_up2 h.2.2.1 k i.toNatClampNeg (vp_nar .boolean x), h.2.2.2)))) : bh_MP g m0 p l e R S0 m args below meth c Qf pc lv st u h := by
  obtain ⟨hx, hb, hml, hown, hts, hm0, hE, hR, hB, hini⟩ := id cx
  simp only [bh_d1, bh_dc, Bool.and_eq_true, decide_eq_true_eq] at hok
  obtain ⟨rfl, hd⟩ := hok
  obtain ⟨x, i, k, sk, rfl, hk, hin, H1⟩ := H1
  intro H locs ls hP hS hN hX hl
  have hX2 := hX.2.2
  show W p l e R S0 m args below meth c H locs u.1 u.2 Qf (F0 m pc ls (.int x :: .int i :: .ref (bh_ad g k) :: sk.map (bh_tr g)))
  have he := bh_ws_at g hk
  have hk2 := bh_ne_own hk hX
  rw [bh_ad_own hk hX]
  rcases H1 with ⟨htg, H1⟩ | ⟨htg, H1⟩
  · rw [bh_E_int htg (Or.inr (Or.inl rfl))] at he
    refine va_bast hx hb hE.1 hP (bh_ws_D g h) hS k 2 he rfl hin hd (fun H2 locs2 hP2 hD2 hS2 => ?_)
    rw [bh_ws_set (h' := (h.1, h.2.1, bh_up2 h.2.2.1 k i.toNatClampNeg (vp_nar .byte x), h.2.2.2)) (by rfl) hk (by rw [bh_E_int htg (Or.inr (Or.inl rfl))]; dsimp only; rw [bh_up2_k]; rfl) (fun j hj => bh_E_congr rfl (bh_up2_ne _ _ _ hj) rfl)] at hP2
    exact H1 H2 locs2 ls hP2 hS2 hN ⟨(bh_up2_ne _ _ _ hk2.1).trans hX.1, by show bh_up2 h.2.2.1 k _ _ 1001 0 = _; rw [bh_up2_ne _ _ _ hk2.2]; exact hX.2.1, hX.2.2⟩ hl
  · rw [bh_E_int htg (Or.inr (Or.inr rfl))] at he
    refine va_zast hx hb hE.1 hP (bh_ws_D g h) hS k 3 he rfl hin hd (fun H2 locs2 hP2 hD2 hS2 => ?_)
    rw [bh_ws_set (h' := (h.1, h.2.1, bh_up2 h.2.2.1 k i.toNatClampNeg (vp_nar .boolean x), h.2.2.2)) (by rfl) hk (by rw [bh_E_int htg (Or.inr (Or.inr rfl))]; dsimp only; rw [bh_up2_k]; rfl) (fun j hj => bh_E_congr rfl (bh_up2_ne _ _ _ hj) rfl)] at hP2
    exact H1 H2 locs2 ls hP2 hS2 hN ⟨(bh_up2_ne _ _ _ hk2.1).trans hX.1, by show bh_up2 h.2.2.1 k _ _ 1001 0 = _; rw [bh_up2_ne _ _ _ hk2.2]; exact hX.2.1, hX.2.2⟩ hl
set_option maxHeartbeats 1000000 in
theorem bs_31 (cx : bh_Cx g m0 d p R S0 m args meth c) (hok : bh_d1 m0 pc len .laload = true) (H1 : ∃ i k s, st = .int i :: .ref k :: s ∧ k < h.1 ∧ bh_tg k = 21 ∧ vp_in i (bh_ln k) ∧ (bh_MP g m0 p l e R S0 m args below meth c Qf) (pc + len) lv (.long (h.2.2.2 k i.toNatClampNeg) :: s) u h) : bh_MP g m0 p l e R S0 m args below meth c Qf pc lv st u h := by
  obtain ⟨hx, hb, hml, hown, hts, hm0, hE, hR, hB, hini⟩ := id cx
  simp only [bh_d1, bh_dc, Bool.and_eq_true, decide_eq_true_eq] at hok
  obtain ⟨rfl, hd⟩ := hok
  obtain ⟨i, k, sk, rfl, hk, htg, hin, H1⟩ := H1
  intro H locs ls hP hS hN hX hl
  have hX2 := hX.2.2
  show W p l e R S0 m args below meth c H locs u.1 u.2 Qf (F0 m pc ls (.int i :: .ref (bh_ad g k) :: sk.map (bh_tr g)))
  have he := bh_ws_at g hk
  rw [bh_E_long htg] at he
  rw [bh_ad_own hk hX]
  exact va_lald hx hb hE.1 hP k 1 he rfl hin hd (H1 H locs ls hP hS hN hX hl)
set_option maxHeartbeats 1000000 in
theorem bs_32 (cx : bh_Cx g m0 d p R S0 m args meth c) (hok : bh_d1 m0 pc len .lastore = true) (H1 : ∃ x i k s, st = .long x :: .int i :: .ref k :: s ∧ k < h.1 ∧ bh_tg k = 21 ∧ vp_in i (bh_ln k) ∧ (bh_MP g m0 p l e R S0 m args below meth c Qf) (pc + len) lv s u (h.1, h.2.1, h.2.2.1, bh_up2 h.2.2.2 k i.toNatClampNeg x)) : bh_MP g m0 p l e R S0 m args below meth c Qf pc lv st u h := by
  obtain ⟨hx, hb, hml, hown, hts, hm0, hE, hR, hB, hini⟩ := id cx
  simp only [bh_d1, bh_dc, Bool.and_eq_true, decide_eq_true_eq] at hok
  obtain ⟨rfl, hd⟩ := hok
  obtain ⟨x, i, k, sk, rfl, hk, htg, hin, H1⟩ := H1
  intro H locs ls hP hS hN hX hl
  have hX2 := hX.2.2
  show W p l e R S0 m args below meth c H locs u.1 u.2 Qf (F0 m pc ls (.long x :: .int i :: .ref (bh_ad g k) :: sk.map (bh_tr g)))
  have he := bh_ws_at g hk
  rw [bh_E_long htg] at he
  rw [bh_ad_own hk hX]
  refine va_last hx hb hE.1 hP (bh_ws_D g h) hS k 1 he rfl hin hd (fun H2 locs2 hP2 hD2 hS2 => ?_)
  rw [bh_ws_set (h' := (h.1, h.2.1, h.2.2.1, bh_up2 h.2.2.2 k i.toNatClampNeg x)) (by rfl) hk (by rw [bh_E_long htg]; dsimp only; rw [bh_up2_k]; rfl) (fun j hj => bh_E_congr rfl rfl (bh_up2_ne _ _ _ hj))] at hP2
  exact H1 H2 locs2 ls hP2 hS2 hN hX hl
set_option maxHeartbeats 1000000 in
theorem bs_33 (cx : bh_Cx g m0 d p R S0 m args meth c) (hok : bh_d1 m0 pc len .aaload = true) (H1 : ∃ i k s r, st = .int i :: .ref k :: s ∧ k < h.1 ∧ bh_tg k = 24 ∧ vp_in i (bh_ln k) ∧ h.2.1 k i.toNatClampNeg = some r ∧ (bh_MP g m0 p l e R S0 m args below meth c Qf) (pc + len) lv (.ref r :: s) u h) : bh_MP g m0 p l e R S0 m args below meth c Qf pc lv st u h := by
  obtain ⟨hx, hb, hml, hown, hts, hm0, hE, hR, hB, hini⟩ := id cx
  simp only [bh_d1, bh_dc, Bool.and_eq_true, decide_eq_true_eq] at hok
  obtain ⟨rfl, hd⟩ := hok
  obtain ⟨i, k, sk, r, rfl, hk, htg, hin, hr, H1⟩ := H1
  intro H locs ls hP hS hN hX hl
  have hX2 := hX.2.2
  show W p l e R S0 m args below meth c H locs u.1 u.2 Qf (F0 m pc ls (.int i :: .ref (bh_ad g k) :: sk.map (bh_tr g)))
  have he := bh_ws_at g hk
  rw [bh_E_ref htg] at he
  rw [bh_ad_own hk hX]
  refine va_aldq hx hb hE.1 hP k 4 he rfl hin hd ?_
  rw [hr]
  exact H1 H locs ls hP hS hN hX hl
set_option maxHeartbeats 1000000 in
theorem bs_34 (cx : bh_Cx g m0 d p R S0 m args meth c) (hok : bh_d1 m0 pc len .aastore = true) (H1 : ∃ r i k s, st = .ref r :: .int i :: .ref k :: s ∧ k < h.1 ∧ r < h.1 ∧ bh_tg k = 24 ∧ bh_tg r = 7 ∧ vp_in i (bh_ln k) ∧ (bh_MP g m0 p l e R S0 m args below meth c Qf) (pc + len) lv s u (h.1, bh_up2 h.2.1 k i.toNatClampNeg (some r), h.2.2.1, h.2.2.2)) : bh_MP g m0 p l e R S0 m args below meth c Qf pc lv st u h := by
  obtain ⟨hx, hb, hml, hown, hts, hm0, hE, hR, hB, hini⟩ := id cx
  simp only [bh_d1, bh_dc, Bool.and_eq_true, decide_eq_true_eq] at hok
  obtain ⟨rfl, hd⟩ := hok
  obtain ⟨r, i, k, sk, rfl, hk, hr, htg, htr, hin, H1⟩ := H1
  intro H locs ls hP hS hN hX hl
  have hX2 := hX.2.2
  show W p l e R S0 m args below meth c H locs u.1 u.2 Qf (F0 m pc ls (.ref (bh_ad g r) :: .int i :: .ref (bh_ad g k) :: sk.map (bh_tr g)))
  have he := bh_ws_at g hk
  rw [bh_E_ref htg] at he
  have he2 := bh_ws_at g hr
  rw [bh_E_obj htr (by decide)] at he2
  have ear : bh_ad g r = bh_gB g + r := bh_ad_own hr hX
  rw [bh_ad_own hk hX]
  rw [ear]
  refine va_astq (r := (RX7, TX7, 18)) hx hb hE.1 hP (bh_ws_D g h) hS k 4 r 7 he rfl he2 rfl hin hd (fun H2 locs2 hP2 hD2 hS2 => ?_)
  rw [bh_ws_set (h' := (h.1, bh_up2 h.2.1 k i.toNatClampNeg (some r), h.2.2.1, h.2.2.2)) (by rfl) hk (by
    rw [bh_E_ref htg]
    dsimp only
    rw [bh_up2_k]
    congr 7
    funext j
    unfold va_up
    by_cases hj : j = i.toNatClampNeg
    · rw [if_pos hj]; dsimp only; rw [if_pos hj, ← ear]; rfl
    · rw [if_neg hj]; dsimp only; rw [if_neg hj]) (fun j hj => bh_E_congr (bh_up2_ne _ _ _ hj) rfl rfl)] at hP2
  exact H1 H2 locs2 ls hP2 hS2 hN hX hl
set_option maxHeartbeats 1000000 in
theorem bs_35 (cx : bh_Cx g m0 d p R S0 m args meth c) (hok : bh_d1 m0 pc len .arraylength = true) (H1 : ∃ k s, st = .ref k :: s ∧ ((k < h.1 ∧ 20 ≤ bh_tg k ∧ bh_tg k ≤ 24 ∧ (bh_MP g m0 p l e R S0 m args below meth c Qf) (pc + len) lv (.int (nI (bh_ln k)) :: s) u h) ∨ (k = 1000 ∧ (bh_MP g m0 p l e R S0 m args below meth c Qf) (pc + len) lv (.int (h.2.2.1 1001 0) :: s) u h))) : bh_MP g m0 p l e R S0 m args below meth c Qf pc lv st u h := by
  obtain ⟨hx, hb, hml, hown, hts, hm0, hE, hR, hB, hini⟩ := id cx
  simp only [bh_d1, bh_dc, Bool.and_eq_true, decide_eq_true_eq] at hok
  obtain ⟨rfl, hd⟩ := hok
  obtain ⟨k, sk, rfl, H1⟩ := H1
  intro H locs ls hP hS hN hX hl
  have hX2 := hX.2.2
  show W p l e R S0 m args below meth c H locs u.1 u.2 Qf (F0 m pc ls (.ref (bh_ad g k) :: sk.map (bh_tr g)))
  rcases H1 with ⟨hk, ht1, ht2, H1⟩ | ⟨rfl, H1⟩
  · have he := bh_ws_at g hk
    have e1 : bh_E g h k = .inl (bh_gA g (bh_tg k), bh_ar g h k) := by unfold bh_E; rw [if_neg (by omega)]
    rw [e1] at he
    rw [bh_ad_own hk hX]
    have hz : bh_tg k = 20 ∨ bh_tg k = 21 ∨ bh_tg k = 22 ∨ bh_tg k = 23 ∨ bh_tg k = 24 := by omega
    have H2 := H1 H locs ls hP hS hN hX hl
    rcases hz with z | z | z | z | z <;> rw [z] at he
    · exact va_alen hx hb hE.1 hP k 0 he rfl rfl hd H2
    · exact va_alen hx hb hE.1 hP k 1 he rfl rfl hd H2
    · exact va_alen hx hb hE.1 hP k 2 he rfl rfl hd H2
    · exact va_alen hx hb hE.1 hP k 3 he rfl rfl hd H2
    · exact va_alen hx hb hE.1 hP k 4 he rfl rfl hd H2
  · have hb2 := hE.2.2.2.2.2.1
    have H2 := H1 H locs ls hP hS hN hX hl
    rw [hX.2.1] at H2
    exact va_slen hx hb hE.2.2.2.2.1 (Nat.lt_of_lt_of_le hb2 hB) (show ¬ bh_gB g ≤ bh_gX g 1000 by omega) hS hd H2
end bh_sound
end
section
theorem bh_catmap (g : bh_G) (l : List Value) : ((l.map (bh_tr g)).map fun v => v.category).sum = bh_catsum l := by
  unfold bh_catsum
  rw [List.map_map]
  congr 1
  exact List.map_congr_left fun v _ => bh_tr_cat g v
theorem bh_pln {k : Nat} {t : vw_C} (h : bh_cls[bh_tg k]? = some t) : t.2.2 = bh_ln k := by
  by_cases hk : k < 228
  · have h1 := List.all_eq_true.mp bh_pok_all k (List.mem_range.mpr (by rw [bh_plan_len]; exact hk))
    unfold bh_pok at h1
    rw [h] at h1
    simp only [Bool.and_eq_true] at h1
    exact of_decide_eq_true h1.1
  · have e : bh_tg k = 99 := by
      unfold bh_tg
      rw [List.getD_eq_getElem?_getD, List.getElem?_eq_none (by rw [bh_plan_len]; omega)]
      rfl
    rw [e] at h
    cases h
set_option maxRecDepth 100000 in
theorem bh_arwI : Jvm.Cond.arrayClass (newarray.typeOf (bh_nat 20)) ∈ bh_WS := bh_WS_of (i := 226) (by decide +kernel) (by decide +kernel)
set_option maxRecDepth 100000 in
theorem bh_arwJ : Jvm.Cond.arrayClass (newarray.typeOf (bh_nat 21)) ∈ bh_WS := bh_WS_of (i := 415) (by decide +kernel) (by decide +kernel)
set_option maxRecDepth 100000 in
theorem bh_arwB : Jvm.Cond.arrayClass (newarray.typeOf (bh_nat 22)) ∈ bh_WS := bh_WS_of (i := 595) (by decide +kernel) (by decide +kernel)
set_option maxRecDepth 100000 in
theorem bh_arwZ : Jvm.Cond.arrayClass (newarray.typeOf (bh_nat 23)) ∈ bh_WS := bh_WS_of (i := 1164) (by decide +kernel) (by decide +kernel)
set_option maxRecDepth 100000 in
theorem bh_objI : Jvm.Cond.instanceMethod Lib.objectInit ∈ bh_WS := bh_WS_of (i := 127) (by decide +kernel) (by decide +kernel)
set_option maxRecDepth 100000 in
theorem bh_objC : Jvm.Cond.code Lib.objectInit ⟨#[0xb1]⟩ 1 none ∈ bh_WS := bh_WS_of (i := 128) (by decide +kernel) (by decide +kernel)
set_option maxRecDepth 100000 in
theorem bh_maxS : Jvm.Cond.static Lib.Math.max.name ∈ bh_WS := bh_WS_of (i := 1018) (by decide +kernel) (by decide +kernel)
set_option maxRecDepth 100000 in
theorem bh_minS : Jvm.Cond.static Lib.Math.min.name ∈ bh_WS := bh_WS_of (i := 525) (by decide +kernel) (by decide +kernel)
set_option maxRecDepth 100000 in
theorem bh_mathI : Jvm.Cond.initialized "java/lang/Math" ∈ bh_WS := bh_WS_of (i := 117) (by decide +kernel) (by decide +kernel)
set_option maxRecDepth 100000 in
theorem bh_maxC : Jvm.Cond.code Lib.Math.max.name Lib.Math.max.code 2 (some .int) ∈ bh_WS := bh_WS_of (i := 1019) (by decide +kernel) (by decide +kernel)
set_option maxRecDepth 100000 in
theorem bh_minC : Jvm.Cond.code Lib.Math.min.name Lib.Math.min.code 2 (some .int) ∈ bh_WS := bh_WS_of (i := 526) (by decide +kernel) (by decide +kernel)
set_option maxRecDepth 100000 in
theorem bh_acN : Jvm.Cond.native arraycopyName ∈ bh_WS := bh_WS_of (i := 594) (by decide +kernel) (by decide +kernel)
set_option maxRecDepth 100000 in
theorem bh_acS : Jvm.Cond.static arraycopyName ∈ bh_WS := bh_WS_of (i := 593) (by decide +kernel) (by decide +kernel)
set_option maxRecDepth 100000 in
theorem bh_acI : Jvm.Cond.initialized "java/lang/System" ∈ bh_WS := bh_WS_of (i := 119) (by decide +kernel) (by decide +kernel)
theorem bh_acW {n r d : Nat} (h : n ≤ 8) (h2 : 64 * d ≤ r) (h3 : 1 ≤ d) : n + (nativeFrameWords "java/lang/System" "arraycopy" 5 + 11) ≤ r := by
  have e : nativeFrameWords "java/lang/System" "arraycopy" 5 = 7 := by decide +kernel
  rw [e]
  omega
/-! ===== making, calling, the library ===== -/
section bh_sound2
variable {g : bh_G} {m0 d : Nat} {p : Program} {l : Launch} {e : Env} {R : Room} {S0 : State} {m : MethodId} {args : Array Value} {below : List Frame} {meth : Method} {c : Code} {Qf : State → Prop} {pc len a : Nat} {cn : Int} {l9 : List Nat} {lv st : List Value} {u : Nat × Nat} {h : bh_H}
set_option maxHeartbeats 1000000 in
theorem bs_36 (cx : bh_Cx g m0 d p R S0 m args meth c) (hok : (match bh_cls[a]? with
      | some t => bh_d3 m0 pc len (.new cn.toNat) && bh_at (l9.getD 0 0) (.classLink (bh_O m0) cn.toNat t.1) && bh_at (l9.getD 1 0) (.instantiable t.1 t.2.2) && bh_at (l9.getD 2 0) (.initialized t.1)
      | none => false) = true) (H1 : h.1 < 1000 ∧ bh_tg h.1 = a ∧ a < 20 ∧ u.1 + 1 ≤ bh_mc m0 ∧ u.2 + bh_ln h.1 ≤ bh_ms m0 ∧
        (bh_MP g m0 p l e R S0 m args below meth c Qf) (pc + len) lv (.ref h.1 :: st) (u.1 + 1, u.2 + bh_ln h.1) (h.1 + 1, bh_upr h.2.1 h.1 (fun _ => none), bh_upr h.2.2.1 h.1 (fun _ => 0), h.2.2.2)) : bh_MP g m0 p l e R S0 m args below meth c Qf pc lv st u h := by
  obtain ⟨hx, hb, hml, hown, hts, hm0, hE, hR, hB, hini⟩ := id cx
  obtain ⟨h1, htg, hci, hc1, hc2, H1⟩ := H1
  cases htc : bh_cls[a]? with
  | none => rw [htc] at hok; cases hok
  | some t =>
    rw [htc] at hok
    dsimp only at hok
    simp only [bh_d3, bh_dc, Bool.and_eq_true, decide_eq_true_eq] at hok
    obtain ⟨⟨⟨⟨rfl, hd⟩, hw1⟩, hw2⟩, hw3⟩ := hok
    obtain ⟨hu1, hu2, hu3, hu4⟩ := bh_uok_of htc
    have hln : t.2.2 = bh_ln h.1 := bh_pln (by rw [htg]; exact htc)
    intro H locs ls hP hS hN hX hl
    refine bh_size hP hS hB hN (fun hsz => ?_)
    have hKn := hE.1.1 a _ htc
    refine W.newcK hx hb hown (hts _ (bh_at_WS hw1)) (hts _ (bh_at_WS hw2)) (hts _ (bh_at_WS hw3)) rfl hd (by rw [hR.2.2.1]; exact hc1) (by rw [hR.2.2.2, hln]; exact hc2) hKn.2.1 rfl fun H2 kC hkC e1 z1 o1 => ?_
    have hk : ∀ (k : Nat) (x : Nat × va_E), (bh_ws g h)[k]? = some x → H2[x.1]? = H[x.1]? := fun k x hx => o1 x.1 ((hP k x hx).lt)
    have hS2 : va_S (bh_rg g) S0.heap H2 locs := ⟨Nat.le_trans hS.1 (by omega), fun x h1 h2 => (o1 x (Nat.lt_of_lt_of_le h1 hS.1)).trans (hS.2.1 x h1 h2), hS.2.2⟩
    have hP2 : va_P (bh_gD g) bh_cls (bh_ws g (h.1 + 1, bh_upr h.2.1 h.1 (fun _ => none), bh_upr h.2.2.1 h.1 (fun _ => 0), h.2.2.2)) H2 := by
      rw [← bh_ws_push (g := g) (h := h) (h' := (h.1 + 1, bh_upr h.2.1 h.1 (fun _ => none), bh_upr h.2.2.1 h.1 (fun _ => 0), h.2.2.2)) rfl (bh_E_obj htg hci) (fun j hj => bh_E_congr (bh_upr_ne _ _ (by omega)) (bh_upr_ne _ _ (by omega)) rfl)]
      refine (hP.kept hk).app (fun k x hx => ?_)
      have hz : k < 1 := (List.getElem?_eq_some_iff.mp hx).1
      rw [show k = 0 by omega] at hx
      cases hx
      refine ⟨_, htc, ?_⟩
      rw [← hsz]
      refine (u_born (bh_ty a) hts hu1 hKn hkC e1 hu2).to (fun j hj => ?_)
      unfold vp_V
      rw [List.getD_eq_getElem?_getD, bh_fs_at (by rw [← hln]; exact hj)]
      show defaultValue (bh_ty a j) = bh_fv g _ a h.1 j
      unfold bh_fv
      cases hf : bh_fr a j with
      | true => rw [((hu3 j hj).1 hf).2]; dsimp only; rw [if_pos rfl, bh_upr_self]; rfl
      | false => rw [(hu3 j hj).2 hf]; dsimp only; rw [if_neg (by decide), bh_upr_self]; rfl
    have had : Value.ref H.size = bh_tr g (.ref h.1) := by
      show _ = Value.ref (bh_ad g h.1)
      unfold bh_ad
      rw [if_pos h1, hsz]
    rw [had, hln]
    refine H1 H2 locs ls hP2 hS2 (by dsimp only; omega) ⟨(bh_upr_ne _ _ (by omega)).trans hX.1, by show bh_upr h.2.2.1 h.1 _ 1001 0 = _; rw [bh_upr_ne _ _ (by omega)]; exact hX.2.1, by dsimp only; omega⟩ hl
set_option maxHeartbeats 1000000 in
theorem bs_37 (cx : bh_Cx g m0 d p R S0 m args meth c) (hok : (decide (20 ≤ a ∧ a ≤ 23) && decide (len = 2) && bh_dc m0 pc (.newarray (bh_nat a)) 2) = true) (H1 : ∃ n s, st = .int n :: s ∧ h.1 < 1000 ∧ bh_tg h.1 = a ∧ ¬ n < 0 ∧ n.toNatClampNeg = bh_ln h.1 ∧ bh_ln h.1 < 10000 ∧ u.1 + 1 ≤ bh_mc m0 ∧ u.2 + bh_ln h.1 ≤ bh_ms m0 ∧
        (bh_MP g m0 p l e R S0 m args below meth c Qf) (pc + len) lv (.ref h.1 :: s) (u.1 + 1, u.2 + bh_ln h.1) (h.1 + 1, h.2.1, bh_upr h.2.2.1 h.1 (fun _ => 0), bh_upr h.2.2.2 h.1 (fun _ => 0))) : bh_MP g m0 p l e R S0 m args below meth c Qf pc lv st u h := by
  obtain ⟨hx, hb, hml, hown, hts, hm0, hE, hR, hB, hini⟩ := id cx
  obtain ⟨n, sk, rfl, h1, htg, hn, hnl, hlb, hc1, hc2, H1⟩ := H1
  simp only [bh_dc, Bool.and_eq_true, decide_eq_true_eq] at hok
  obtain ⟨⟨har, rfl⟩, hd⟩ := hok
  intro H locs ls hP hS hN hX hl
  refine bh_size hP hS hB hN (fun hsz => ?_)
  have hac : (Jvm.Cond.arrayClass (newarray.typeOf (bh_nat a))).before args S0 = true := by
    have hz : a = 20 ∨ a = 21 ∨ a = 22 ∨ a = 23 := by omega
    rcases hz with rfl | rfl | rfl | rfl
    · exact hts _ bh_arwI
    · exact hts _ bh_arwJ
    · exact hts _ bh_arwB
    · exact hts _ bh_arwZ
  have hcb : bh_ln h.1 * componentBytes (newarray.typeOf (bh_nat a)) ≤ 536870912 := by
    have hz : a = 20 ∨ a = 21 ∨ a = 22 ∨ a = 23 := by omega
    have hc8 : componentBytes (newarray.typeOf (bh_nat a)) ≤ 8 := by rcases hz with rfl | rfl | rfl | rfl <;> decide
    exact Nat.le_trans (Nat.mul_le_mul (Nat.le_of_lt hlb) hc8) (by decide)
  refine va_newaK (g := F0 m pc ls (.int n :: sk.map (bh_tr g))) hx hb hac rfl hd rfl hn hnl hcb (by rw [hR.2.2.1]; exact hc1) (by rw [hR.2.2.2]; exact hc2) rfl fun H2 cA e1 z1 o1 hAr hNm => ?_
  have hk : ∀ (k : Nat) (x : Nat × va_E), (bh_ws g h)[k]? = some x → H2[x.1]? = H[x.1]? := fun k x hx => o1 x.1 ((hP k x hx).lt)
  have hS2 : va_S (bh_rg g) S0.heap H2 locs := ⟨Nat.le_trans hS.1 (by omega), fun x h1 h2 => (o1 x (Nat.lt_of_lt_of_le h1 hS.1)).trans (hS.2.1 x h1 h2), hS.2.2⟩
  have hcA : cA = bh_gA g a := by
    have hz : a = 20 ∨ a = 21 ∨ a = 22 ∨ a = 23 := by omega
    rcases hz with rfl | rfl | rfl | rfl
    · exact Option.some.inj ((show S0.vm.findClass ("[" ++ FieldType.int.toString) = some cA from hNm).symm.trans (hE.1.2 0 (bh_gA g 20, .int) rfl).2)
    · exact Option.some.inj ((show S0.vm.findClass ("[" ++ FieldType.long.toString) = some cA from hNm).symm.trans (hE.1.2 1 (bh_gA g 21, .long) rfl).2)
    · exact Option.some.inj ((show S0.vm.findClass ("[" ++ FieldType.byte.toString) = some cA from hNm).symm.trans (hE.1.2 2 (bh_gA g 22, .byte) rfl).2)
    · exact Option.some.inj ((show S0.vm.findClass ("[" ++ FieldType.boolean.toString) = some cA from hNm).symm.trans (hE.1.2 3 (bh_gA g 23, .boolean) rfl).2)
  have hP2 : va_P (bh_gD g) bh_cls (bh_ws g (h.1 + 1, h.2.1, bh_upr h.2.2.1 h.1 (fun _ => 0), bh_upr h.2.2.2 h.1 (fun _ => 0))) H2 := by
    rw [← bh_ws_push (g := g) (h := h) (h' := (h.1 + 1, h.2.1, bh_upr h.2.2.1 h.1 (fun _ => 0), bh_upr h.2.2.2 h.1 (fun _ => 0))) rfl rfl (fun j hj => bh_E_congr rfl (bh_upr_ne _ _ (by omega)) (bh_upr_ne _ _ (by omega)))]
    refine (hP.kept hk).app (fun k x hx => ?_)
    have hz : k < 1 := (List.getElem?_eq_some_iff.mp hx).1
    rw [show k = 0 by omega] at hx
    cases hx
    have hz : a = 20 ∨ a = 21 ∨ a = 22 ∨ a = 23 := by omega
    rcases hz with rfl | rfl | rfl | rfl
    · rw [bh_E_int htg (Or.inl rfl)]
      show H2[bh_gB g + h.1]? = some (vp_cell _ _)
      rw [← hsz, e1, hcA]
      dsimp only
      rw [bh_upr_self]
      rfl
    · rw [bh_E_long htg]
      show H2[bh_gB g + h.1]? = some (vp_cell _ _)
      rw [← hsz, e1, hcA]
      dsimp only
      rw [bh_upr_self]
      rfl
    · rw [bh_E_int htg (Or.inr (Or.inl rfl))]
      show H2[bh_gB g + h.1]? = some (vp_cell _ _)
      rw [← hsz, e1, hcA]
      dsimp only
      rw [bh_upr_self]
      rfl
    · rw [bh_E_int htg (Or.inr (Or.inr rfl))]
      show H2[bh_gB g + h.1]? = some (vp_cell _ _)
      rw [← hsz, e1, hcA]
      dsimp only
      rw [bh_upr_self]
      rfl
  have had : Value.ref H.size = bh_tr g (.ref h.1) := by
    show _ = Value.ref (bh_ad g h.1)
    unfold bh_ad
    rw [if_pos h1, hsz]
  rw [had]
  refine H1 H2 locs ls hP2 hS2 (by dsimp only; omega) ⟨(bh_upr_ne _ _ (by omega)).trans hX.1, by show bh_upr h.2.2.1 h.1 _ 1001 0 = _; rw [bh_upr_ne _ _ (by omega)]; exact hX.2.1, by dsimp only; omega⟩ hl
set_option maxHeartbeats 1000000 in
theorem bs_38 (cx : bh_Cx g m0 d p R S0 m args meth c) (hok : (bh_d3 m0 pc len (.anewarray cn.toNat) && bh_at (l9.getD 0 0) (.classLink (bh_O m0) cn.toNat "BorrowedHands$Town")) = true) (H1 : ∃ n s, st = .int n :: s ∧ h.1 < 1000 ∧ bh_tg h.1 = 24 ∧ ¬ n < 0 ∧ n.toNatClampNeg = bh_ln h.1 ∧ bh_ln h.1 < 10000 ∧ u.1 + 1 ≤ bh_mc m0 ∧ u.2 + bh_ln h.1 ≤ bh_ms m0 ∧
        (bh_MP g m0 p l e R S0 m args below meth c Qf) (pc + len) lv (.ref h.1 :: s) (u.1 + 1, u.2 + bh_ln h.1) (h.1 + 1, bh_upr h.2.1 h.1 (fun _ => none), h.2.2.1, h.2.2.2)) : bh_MP g m0 p l e R S0 m args below meth c Qf pc lv st u h := by
  obtain ⟨hx, hb, hml, hown, hts, hm0, hE, hR, hB, hini⟩ := id cx
  obtain ⟨n, sk, rfl, h1, htg, hn, hnl, hlb, hc1, hc2, H1⟩ := H1
  simp only [bh_d3, bh_dc, Bool.and_eq_true, decide_eq_true_eq] at hok
  obtain ⟨⟨rfl, hd⟩, hw⟩ := hok
  intro H locs ls hP hS hN hX hl
  refine bh_size hP hS hB hN (fun hsz => ?_)
  refine W.anew (g := F0 m pc ls (.int n :: sk.map (bh_tr g))) hx hb hown (hts _ (bh_at_WS hw)) (va_AO.use hE.2.2.1) rfl hd rfl hn (by omega) (by rw [hR.2.2.1]; exact hc1) (by rw [hR.2.2.2, hnl]; exact hc2) fun cA kA comp f1 f2 f3 f4 => ?_
  generalize hH2 : H.push ({ cls := cA, slots := Array.replicate n.toNatClampNeg .null, vm := .none } : Cell) = H2
  have z1 : H2.size = H.size + 1 := by rw [← hH2, Array.size_push]
  have e1 : H2[H.size]? = some (arrV cA n.toNatClampNeg (fun _ => .null)) := by rw [← hH2, Array.getElem?_push_size, ← arrV_new]
  have o1 : ∀ q : Nat, q < H.size → H2[q]? = H[q]? := fun q hq => by rw [← hH2, Array.getElem?_push, if_neg (Nat.ne_of_lt hq)]
  have hk : ∀ (k : Nat) (x : Nat × va_E), (bh_ws g h)[k]? = some x → H2[x.1]? = H[x.1]? := fun k x hx => o1 x.1 ((hP k x hx).lt)
  have hS2 : va_S (bh_rg g) S0.heap H2 locs := ⟨Nat.le_trans hS.1 (by omega), fun x h1 h2 => (o1 x (Nat.lt_of_lt_of_le h1 hS.1)).trans (hS.2.1 x h1 h2), hS.2.2⟩
  have hcA : cA = bh_gA g 24 := by
    obtain ⟨_, _, _, _, _, hz⟩ := (hE.1.2 4 (bh_gA g 24, .object "BorrowedHands$Town") rfl).2
    exact Option.some.inj (f1.symm.trans hz)
  have hP2 : va_P (bh_gD g) bh_cls (bh_ws g (h.1 + 1, bh_upr h.2.1 h.1 (fun _ => none), h.2.2.1, h.2.2.2)) H2 := by
    rw [← bh_ws_push (g := g) (h := h) (h' := (h.1 + 1, bh_upr h.2.1 h.1 (fun _ => none), h.2.2.1, h.2.2.2)) rfl (bh_E_ref htg) (fun j hj => bh_E_congr (bh_upr_ne _ _ (by omega)) rfl rfl)]
    refine (hP.kept hk).app (fun k x hx => ?_)
    have hz : k < 1 := (List.getElem?_eq_some_iff.mp hx).1
    rw [show k = 0 by omega] at hx
    cases hx
    show H2[bh_gB g + h.1]? = some (vp_cell _ _)
    rw [← hsz, e1, hcA, hnl]
    dsimp only
    rw [bh_upr_self]
    rfl
  have had : Value.ref H.size = bh_tr g (.ref h.1) := by
    show _ = Value.ref (bh_ad g h.1)
    unfold bh_ad
    rw [if_pos h1, hsz]
  rw [had, hnl]
  refine H1 H2 locs ls hP2 hS2 (by dsimp only; omega) ⟨hX.1, hX.2.1, by dsimp only; omega⟩ hl
set_option maxHeartbeats 1000000 in
theorem bs_39 (cx : bh_Cx g m0 d p R S0 m args meth c) (hd1 : 1 ≤ d) (hok : (bh_d3 m0 pc len (.invokespecial cn.toNat) && bh_at (l9.getD 0 0) (.methodLink (bh_O m0) cn.toNat Lib.objectInit)) = true) (H1 : ∃ k s, st = .ref k :: s ∧ bh_catsum s ≤ 8 ∧ (bh_MP g m0 p l e R S0 m args below meth c Qf) (pc + len) lv s u h) : bh_MP g m0 p l e R S0 m args below meth c Qf pc lv st u h := by
  obtain ⟨hx, hb, hml, hown, hts, hm0, hE, hR, hB, hini⟩ := id cx
  obtain ⟨k, sk, rfl, hcs, H1⟩ := H1
  simp only [bh_d3, bh_dc, Bool.and_eq_true, decide_eq_true_eq] at hok
  obtain ⟨⟨rfl, hd⟩, hw⟩ := hok
  intro H locs ls hP hS hN hX hl
  refine W.objInit (g := F0 m pc ls (.ref (bh_ad g k) :: sk.map (bh_tr g))) hx hb hown (hts _ (bh_at_WS hw)) (hts _ bh_objI) (hts _ bh_objC) rfl (by rw [hml]; exact hl.1) rfl hd (by omega) (by
    show 2 * 0 + ((sk.map (bh_tr g)).map fun v => v.category).sum + 12 ≤ _
    rw [bh_catmap]
    omega) (H1 H locs ls hP hS hN hX hl)
set_option maxHeartbeats 1000000 in
theorem bs_49 (cx : bh_Cx g m0 d p R S0 m args meth c) (hd1 : 1 ≤ d) (hok : (bh_d3 m0 pc len (.invokestatic cn.toNat) && bh_at (l9.getD 0 0) (.methodLink (bh_O m0) cn.toNat Lib.Math.max.name)) = true) (H1 : ∃ x y s, st = .int y :: .int x :: s ∧ bh_catsum s ≤ 8 ∧ (u.1 ≤ bh_mc m0 ∧ u.2 ≤ bh_ms m0) ∧ (bh_MP g m0 p l e R S0 m args below meth c Qf) (pc + len) lv (.int (if x < y then y else x) :: s) u h) : bh_MP g m0 p l e R S0 m args below meth c Qf pc lv st u h := by
  obtain ⟨hx, hb, hml, hown, hts, hm0, hE, hR, hB, hini⟩ := id cx
  obtain ⟨x, y, sk, rfl, hcs, hcu, H1⟩ := H1
  simp only [bh_d3, bh_dc, Bool.and_eq_true, decide_eq_true_eq] at hok
  obtain ⟨⟨rfl, hd⟩, hw⟩ := hok
  intro H locs ls hP hS hN hX hl
  exact va_mmax hx hb (by rw [hml]; exact hl.1.symm) hown (hts _ (bh_at_WS hw)) (hts _ bh_maxS) (hts _ bh_mathI) (hts _ bh_maxC) (by omega) (by rw [bh_catmap]; omega) (by rw [hR.2.2.1]; exact hcu.1) (by rw [hR.2.2.2]; exact hcu.2) hd (H1 H locs ls hP hS hN hX hl)
set_option maxHeartbeats 1000000 in
theorem bs_50 (cx : bh_Cx g m0 d p R S0 m args meth c) (hd1 : 1 ≤ d) (hok : (bh_d3 m0 pc len (.invokestatic cn.toNat) && bh_at (l9.getD 0 0) (.methodLink (bh_O m0) cn.toNat Lib.Math.min.name)) = true) (H1 : ∃ x y s, st = .int y :: .int x :: s ∧ bh_catsum s ≤ 8 ∧ (u.1 ≤ bh_mc m0 ∧ u.2 ≤ bh_ms m0) ∧ (bh_MP g m0 p l e R S0 m args below meth c Qf) (pc + len) lv (.int (if y < x then y else x) :: s) u h) : bh_MP g m0 p l e R S0 m args below meth c Qf pc lv st u h := by
  obtain ⟨hx, hb, hml, hown, hts, hm0, hE, hR, hB, hini⟩ := id cx
  obtain ⟨x, y, sk, rfl, hcs, hcu, H1⟩ := H1
  simp only [bh_d3, bh_dc, Bool.and_eq_true, decide_eq_true_eq] at hok
  obtain ⟨⟨rfl, hd⟩, hw⟩ := hok
  intro H locs ls hP hS hN hX hl
  exact va_mmin hx hb (by rw [hml]; exact hl.1.symm) hown (hts _ (bh_at_WS hw)) (hts _ bh_minS) (hts _ bh_mathI) (hts _ bh_minC) (by omega) (by rw [bh_catmap]; omega) (by rw [hR.2.2.1]; exact hcu.1) (by rw [hR.2.2.2]; exact hcu.2) hd (H1 H locs ls hP hS hN hX hl)
set_option maxHeartbeats 1000000 in
theorem bs_48 (cx : bh_Cx g m0 d p R S0 m args meth c) (hd1 : 1 ≤ d) (hok : (bh_d3 m0 pc len (.invokestatic cn.toNat) && bh_at (l9.getD 0 0) (.methodLink (bh_O m0) cn.toNat arraycopyName)) = true) (H1 : ∃ n k s, st = .int n :: .int 0 :: .ref k :: .int 0 :: s ∧ ∃ k0 s0, s = .ref k0 :: s0 ∧ bh_catsum s0 ≤ 8 ∧ k < h.1 ∧ k0 < h.1 ∧ bh_tg k = 20 ∧ bh_tg k0 = 20 ∧ ¬ n < 0 ∧ n.toNatClampNeg ≤ bh_ln k ∧ n.toNatClampNeg ≤ bh_ln k0 ∧ k ≠ k0 ∧
        (bh_MP g m0 p l e R S0 m args below meth c Qf) (pc + len) lv s0 u (h.1, h.2.1, bh_upr h.2.2.1 k (va_cpy (h.2.2.1 k0) (h.2.2.1 k) 0 0 n.toNatClampNeg), h.2.2.2)) : bh_MP g m0 p l e R S0 m args below meth c Qf pc lv st u h := by
  obtain ⟨hx, hb, hml, hown, hts, hm0, hE, hR, hB, hini⟩ := id cx
  obtain ⟨n, k, sk, rfl, k0, s0, rfl, hcs, hk, hk0, htg, htg0, hn, hn1, hn2, hne, H1⟩ := H1
  simp only [bh_d3, bh_dc, Bool.and_eq_true, decide_eq_true_eq] at hok
  obtain ⟨⟨rfl, hd⟩, hw⟩ := hok
  intro H locs ls hP hS hN hX hl
  show W p l e R S0 m args below meth c H locs u.1 u.2 Qf (F0 m pc ls (.int n :: .int 0 :: .ref (bh_ad g k) :: .int 0 :: .ref (bh_ad g k0) :: s0.map (bh_tr g)))
  have he := bh_ws_at g hk
  rw [bh_E_int htg (Or.inl rfl)] at he
  have he0 := bh_ws_at g hk0
  rw [bh_E_int htg0 (Or.inl rfl)] at he0
  rw [bh_ad_own hk hX, bh_ad_own hk0 hX]
  refine va_copyi hx hb (by rw [hml]; exact hl.1.symm) hown (hts _ (bh_at_WS hw)) (hts _ bh_acN) (hts _ bh_acS) (hts _ bh_acI) hE.1 hP (bh_ws_D g h) hS k0 k 0 0 (ty := .int) he0 he rfl rfl rfl (sp := 0) (dp := 0) (by decide) (by decide) hn (by simpa using hn2) (by simpa using hn1) (fun i _ => rfl) (by omega) (by rw [bh_catmap]; exact bh_acW hcs hR.2.1 hd1) hd (fun H2 locs2 hP2 hD2 hS2 => ?_)
  rw [bh_ws_set (h' := (h.1, h.2.1, bh_upr h.2.2.1 k (va_cpy (h.2.2.1 k0) (h.2.2.1 k) 0 0 n.toNatClampNeg), h.2.2.2)) (by rfl) hk (by rw [bh_E_int htg (Or.inl rfl)]; dsimp only; rw [bh_upr_self]; rfl) (fun j hj => bh_E_congr rfl (bh_upr_ne _ _ hj) rfl)] at hP2
  have hk2 := bh_ne_own hk hX
  exact H1 H2 locs2 ls hP2 hS2 hN ⟨(bh_upr_ne _ _ hk2.1).trans hX.1, by show bh_upr h.2.2.1 k _ 1001 0 = _; rw [bh_upr_ne _ _ hk2.2]; exact hX.2.1, hX.2.2⟩ hl
end bh_sound2
end
section
/-- a free theorem of the library that changes nothing, as a contract over the picture -/
theorem bh_pure {g : bh_G} {l : Launch} {y : MethodName} {bytes : ByteArray} {maxL : Nat} {ret : Option FieldType} {S : Spec} {As : List Value} {h : bh_H} {v : Int32} {P : State → Prop} (hc0 : S.room.cells = 0) (hs0 : S.room.slots = 0)
    (hM : ∀ (V : State), P V → ∃ (P' : Array Value → State → Prop) (Q' : Array Value → State → Outcome → State → Prop), MetFree l y S P' (fun _ _ _ _ _ => True) Q' ∧ S.pre.before (As.map (bh_tr g)).toArray V = true ∧ P' (As.map (bh_tr g)).toArray V ∧ ∀ a s o t, Q' a s o t → PureEnd s o t ∧ o = .returned (some (.int v))) :
    Met l y [.code y bytes maxL ret] S.room (fun a U => bh_Pc g As h a U ∧ ∀ V : State, V.vm = U.vm → V.heap = U.heap → P V) (bh_Qc g (fun r h' => r = some (.int v) ∧ h' = h)) 0 0 (bh_rg g) := by
  intro p e ha hc hk s m args below hf happ hP hT
  obtain ⟨⟨rfl, hsz, hPw, hE, hX⟩, hV⟩ := hP
  obtain ⟨P', Q', hMF, hpre, hP', hQ'⟩ := hM s (hV s rfl rfl)
  have h1 := (Spec.appliesLoose_iff hf).mp happ
  have happ2 : S.appliesLoose y e.platform s = true := (Spec.appliesLoose_iff hf).mpr ⟨h1.1, h1.2.1, h1.2.2.1, h1.2.2.2.1, h1.2.2.2.2.1, h1.2.2.2.2.2.1, h1.2.2.2.2.2.2.1, hpre⟩
  obtain ⟨n, o, r1, r2, r3, hq⟩ := hMF p e ha hc hk s m _ below hf happ2 hP' trivial
  obtain ⟨⟨hret, hW, hsame⟩, ho⟩ := hQ' _ _ _ _ hq
  have hh : (stepsAlone p.tables e n s).heap = s.heap := by
    have := congrArg State.heap (State.sameBut_nil.mp hsame)
    exact this
  refine ⟨n, o, r1, r2, r3, ⟨⟨some (.int v), h, ho, ⟨rfl, rfl⟩, by rw [hh]; exact hPw, hX⟩, by rw [hh]; exact Nat.le_refl _, fun q _ _ => by rw [hh]⟩, [], ⟨hret, hW, State.sameBut.sameButNew hsame 0 0⟩, fun q hq => absurd hq List.not_mem_nil⟩
theorem bh_pure_blind {g : bh_G} {As : List Value} {h : bh_H} {P : State → Prop} : FrameBlind (fun a U => bh_Pc g As h a U ∧ ∀ V : State, V.vm = U.vm → V.heap = U.heap → P V) := by
  rintro a U f mk ⟨h1, h2⟩
  exact ⟨bh_Pc_blind g As h a U f mk h1, fun V e1 e2 => h2 V e1 e2⟩
section bh_strT
variable {g : bh_G} {m0 d : Nat} {p : Program} {l : Launch} {e : Env} {R : Room} {S0 : State} {m : MethodId} {args : Array Value} {below : List Frame} {meth : Method} {c : Code} {Qf : State → Prop} {pc len a : Nat} {cn : Int} {l9 : List Nat} {lv st : List Value} {u : Nat × Nat} {h : bh_H}
set_option maxHeartbeats 1000000 in
theorem bs_46 (cx : bh_Cx g m0 d p R S0 m args meth c) (hd1 : 3 ≤ d) (hok : (bh_d3 m0 pc len (.invokevirtual cn.toNat) && bh_at (l9.getD 0 0) (.methodLink (bh_O m0) cn.toNat yJ0_length_8abf5)) = true) (H1 : ∃ j s, st = .ref (1100 + j) :: s ∧ j < bh_ST.length ∧ bh_catsum s ≤ 8 ∧ (u.1 ≤ bh_mc m0 ∧ u.2 ≤ bh_ms m0) ∧ (bh_MP g m0 p l e R S0 m args below meth c Qf) (pc + len) lv (.int (nI (bh_sl j)) :: s) u h) : bh_MP g m0 p l e R S0 m args below meth c Qf pc lv st u h := by
  obtain ⟨hx, hb, hml, hown, hts, hm0, hE, hR, hB, hini⟩ := id cx
  have hSX : bh_SXd g S0 S0.heap := hE.2.2.2.2.2.2.2
  obtain ⟨j, sk, rfl, hj, hcs, hcu, H1⟩ := H1
  have hj : j < 20 := hj
  simp only [bh_d3, bh_dc, Bool.and_eq_true, decide_eq_true_eq] at hok
  obtain ⟨⟨rfl, hd⟩, hw⟩ := hok
  have had : bh_ad g (1100 + j) = bh_gX g (1100 + j) := if_neg (by omega)
  intro H locs ls hP hS hN hX hl
  refine bh_size hP hS hB hN (fun hsz => ?_)
  have hkp : ∀ q, q < bh_gB g → H[q]? = S0.heap[q]? := fun z hz => hS.2.1 z (Nat.lt_of_lt_of_le hz hB) (show ¬ bh_gB g ≤ z by omega)
  have hSH : bh_SXd g S0 H := bh_SXd_kept hkp hSX
  have hSV : ∀ V : State, S0.WarmedH V.vm → V.heap = H → bh_SF g V := fun V hW hh => bh_SXat (by rw [hh]; exact bh_SXd_warm hW hSH)
  have hM : Met l Str.length.name [.code Str.length.name Lib.String.length.code 1 (some .int)] Cold.length.spec.room (fun a U => bh_Pc g [.ref (1100 + j)] h a U ∧ ∀ V : State, V.vm = U.vm → V.heap = U.heap → (S0.WarmedH V.vm ∧ bh_SF g V)) (bh_Qc g (fun r h' => r = some (.int (nI (bh_sl j))) ∧ h' = h)) 0 0 (bh_rg g) := by
    refine bh_pure rfl rfl (fun V hV => ?_)
    obtain ⟨q, arr, a1, a2, a3⟩ := bh_lenA hts hV.1 hV.2 hj
    refine ⟨_, _, Cold.length.met l (bh_gX g (1100 + j)) q 1 arr, ?_, ?_, fun a s o t hq => ⟨hq.1, by rw [hq.2, a3]⟩⟩
    · show Cold.length.spec.pre.before #[.ref (bh_ad g (1100 + j))] V = true
      rw [had]; exact a1
    · show Cold.length.P _ _ _ _ #[.ref (bh_ad g (1100 + j))] V
      rw [had]; exact a2
  have hG : GoodIn bh_WS [Jvm.Cond.code Str.length.name Lib.String.length.code 1 (some .int)] := by
    intro w hw
    cases List.mem_singleton.mp hw
    exact ⟨bh_sw6, good_of_word (bh_WS_good bh_sw6)⟩
  have hrec : ∃ cell : Cell, H[bh_gX g (1100 + j)]? = some cell ∧ cell.vm.isStatics = false ∧ S0.vm.findClass "java/lang/String" = some cell.cls := by
    obtain ⟨q, arr, a1, -⟩ := (hSV { S0 with heap := H } (State.WarmedH.refl S0) rfl).1 j hj
    obtain ⟨a, c, cell, k, q1, q2, q3, q4, q5, q6, -⟩ := Cond.exactly_spec a1
    have e : a = bh_gX g (1100 + j) := by
      have : some (Value.ref (bh_gX g (1100 + j))) = some (.ref a) := q1
      cases this; rfl
    rw [e] at q3
    exact ⟨cell, q3, q5, by rw [q6]; exact q2⟩
  refine bh_callW (va_runV (y := Str.length.name) (As := []) (b := bh_gX g (1100 + j)) (rest := sk.map (bh_tr g)) (Ts := bh_WS) (n := 0) ⟨hx, hb, hml, hown, hts⟩ hM ⟨callB_of (bytes := Lib.String.length.code) (maxL := 1) (ret := some .int) _ hts hG rfl rfl rfl (hts _ bh_sw1) (hts _ (bh_at_WS hw)) ⟨by decide, by decide, by decide +kernel⟩ ?_, hts _ bh_sw4, hts _ bh_sw5⟩ ⟨bh_pure_blind, hrec, ?_⟩ rfl rfl hl.1 ?_ ?_ hd ?_) hS ?_
  · show 1 + 1 ≤ R.frames ∧ 8 + (1 + 11) + 24 ≤ R.locals
    omega
  · intro U hU hW
    refine ⟨⟨?_, by rw [hU, hsz], by rw [hU]; exact hP, ?_, hX⟩, fun V e1 e2 => ?_⟩
    · show #[Value.ref (bh_gX g (1100 + j))] = #[.ref (bh_ad g (1100 + j))]
      rw [had]
    · rw [hU]
      exact bh_Ext_warm hW (bh_Ext_kept hkp hE)
    · have hW2 : S0.WarmedH V.vm := by rw [e1]; exact hW
      exact ⟨hW2, hSV V hW2 (e2.trans hU)⟩
  · show bh_tr g (.ref (1100 + j)) :: sk.map (bh_tr g) = _
    show Value.ref (bh_ad g (1100 + j)) :: sk.map (bh_tr g) = _
    rw [had]; rfl
  · rw [bh_catmap]
    show 2 * 0 + _ ≤ 8
    omega
  · rw [hR.2.2.1, hR.2.2.2]
    exact ⟨hcu.1, hcu.2⟩
  · intro r h' H2 locs2 hq2 hP2 hX2 hS2
    obtain ⟨rfl, rfl⟩ := hq2
    exact H1 H2 locs2 ls hP2 hS2 hN hX2 hl
set_option maxHeartbeats 1000000 in
theorem bs_47 (cx : bh_Cx g m0 d p R S0 m args meth c) (hd1 : 6 ≤ d) (hok : (bh_d3 m0 pc len (.invokevirtual cn.toNat) && bh_at (l9.getD 0 0) (.methodLink (bh_O m0) cn.toNat yJ0_charAt_5068e)) = true) (H1 : ∃ i j s, st = .int i :: .ref (1100 + j) :: s ∧ j < bh_ST.length ∧ bh_catsum s ≤ 8 ∧ (u.1 ≤ bh_mc m0 ∧ u.2 ≤ bh_ms m0) ∧ vp_in i (bh_sl j) ∧ (bh_MP g m0 p l e R S0 m args below meth c Qf) (pc + len) lv (.int (bh_sc j i.toNatClampNeg) :: s) u h) : bh_MP g m0 p l e R S0 m args below meth c Qf pc lv st u h := by
  obtain ⟨hx, hb, hml, hown, hts, hm0, hE, hR, hB, hini⟩ := id cx
  have hSX : bh_SXd g S0 S0.heap := hE.2.2.2.2.2.2.2
  obtain ⟨i0, j, sk, rfl, hj, hcs, hcu, hin, H1⟩ := H1
  have hj : j < 20 := hj
  have hsl := bh_sl_small j hj
  obtain ⟨i, hi, rfl⟩ := vp_in_of hin (by omega)
  rw [nI_clamp (by omega)] at H1
  simp only [bh_d3, bh_dc, Bool.and_eq_true, decide_eq_true_eq] at hok
  obtain ⟨⟨rfl, hd⟩, hw⟩ := hok
  have had : bh_ad g (1100 + j) = bh_gX g (1100 + j) := if_neg (by omega)
  intro H locs ls hP hS hN hX hl
  refine bh_size hP hS hB hN (fun hsz => ?_)
  have hkp : ∀ q, q < bh_gB g → H[q]? = S0.heap[q]? := fun z hz => hS.2.1 z (Nat.lt_of_lt_of_le hz hB) (show ¬ bh_gB g ≤ z by omega)
  have hSH : bh_SXd g S0 H := bh_SXd_kept hkp hSX
  have hSV : ∀ V : State, S0.WarmedH V.vm → V.heap = H → bh_SF g V := fun V hW hh => bh_SXat (by rw [hh]; exact bh_SXd_warm hW hSH)
  have hM : Met l Str.charAt.name [.code Str.charAt.name Str.charAt.code 2 (some .char)] Cold.charAt.spec.room (fun a U => bh_Pc g [.ref (1100 + j), .int (nI i)] h a U ∧ ∀ V : State, V.vm = U.vm → V.heap = U.heap → (S0.WarmedH V.vm ∧ bh_SF g V)) (bh_Qc g (fun r h' => r = some (.int (bh_sc j i)) ∧ h' = h)) 0 0 (bh_rg g) := by
    refine bh_pure rfl rfl (fun V hV => ?_)
    obtain ⟨q, fmt, arr, a1, a2⟩ := bh_charA hts hV.1 hV.2 hj hi
    refine ⟨_, _, Cold.charAt.met l (bh_gX g (1100 + j)) q (nI i) (bh_sc j i) 1 fmt arr, ?_, ?_, fun a s o t hq => ⟨hq.1, by rw [hq.2, bh_sc_again j hj i hi]⟩⟩
    · show Cold.charAt.spec.pre.before #[.ref (bh_ad g (1100 + j)), .int (nI i)] V = true
      rw [had]; exact a1
    · show Cold.charAt.P _ _ _ _ _ _ _ #[.ref (bh_ad g (1100 + j)), .int (nI i)] V
      rw [had]; exact a2
  have hG : GoodIn bh_WS [Jvm.Cond.code Str.charAt.name Str.charAt.code 2 (some .char)] := by
    intro w hw
    cases List.mem_singleton.mp hw
    exact ⟨bh_sw14, good_of_word (bh_WS_good bh_sw14)⟩
  have hrec : ∃ cell : Cell, H[bh_gX g (1100 + j)]? = some cell ∧ cell.vm.isStatics = false ∧ S0.vm.findClass "java/lang/String" = some cell.cls := by
    obtain ⟨q, arr, a1, -⟩ := (hSV { S0 with heap := H } (State.WarmedH.refl S0) rfl).1 j hj
    obtain ⟨a, c, cell, k, q1, q2, q3, q4, q5, q6, -⟩ := Cond.exactly_spec a1
    have e : a = bh_gX g (1100 + j) := by
      have : some (Value.ref (bh_gX g (1100 + j))) = some (.ref a) := q1
      cases this; rfl
    rw [e] at q3
    exact ⟨cell, q3, q5, by rw [q6]; exact q2⟩
  refine bh_callW (va_runV (y := Str.charAt.name) (As := [.int (nI i)]) (b := bh_gX g (1100 + j)) (rest := sk.map (bh_tr g)) (Ts := bh_WS) (n := 1) ⟨hx, hb, hml, hown, hts⟩ hM ⟨callB_of (bytes := Str.charAt.code) (maxL := 2) (ret := some .char) _ hts hG rfl rfl rfl (hts _ bh_sw1) (hts _ (bh_at_WS hw)) ⟨by decide, by decide, by decide +kernel⟩ ?_, hts _ bh_sw12, hts _ bh_sw13⟩ ⟨bh_pure_blind, hrec, ?_⟩ rfl rfl hl.1 ?_ ?_ hd ?_) hS ?_
  · show 3 + 1 ≤ R.frames ∧ 8 + (2 + 11) + 72 ≤ R.locals
    omega
  · intro U hU hW
    refine ⟨⟨?_, by rw [hU, hsz], by rw [hU]; exact hP, ?_, hX⟩, fun V e1 e2 => ?_⟩
    · show #[Value.ref (bh_gX g (1100 + j)), Value.int (nI i)] = #[.ref (bh_ad g (1100 + j)), .int (nI i)]
      rw [had]
    · rw [hU]
      exact bh_Ext_warm hW (bh_Ext_kept hkp hE)
    · have hW2 : S0.WarmedH V.vm := by rw [e1]; exact hW
      exact ⟨hW2, hSV V hW2 (e2.trans hU)⟩
  · show Value.int (nI i) :: Value.ref (bh_ad g (1100 + j)) :: sk.map (bh_tr g) = _
    rw [had]; rfl
  · rw [bh_catmap]
    show 2 * 0 + _ ≤ 8
    omega
  · rw [hR.2.2.1, hR.2.2.2]
    exact ⟨hcu.1, hcu.2⟩
  · intro r h' H2 locs2 hq2 hP2 hX2 hS2
    obtain ⟨rfl, rfl⟩ := hq2
    exact H1 H2 locs2 ls hP2 hS2 hN hX2 hl
end bh_strT
end
section
/-! ===== calls ===== -/
theorem bh_ML_law : bh_ML.all (fun q => decide (q.2.2.1 ≠ m_L_law)) = true := by decide +kernel
theorem bh_mok_of {i : Nat} {q : String × Nat × Nat × Nat} (h : bh_ML[i]? = some q) : q.2.2.1 < 261 ∧ q.2.2.1 ≠ m_L_law ∧ Jvm.Cond.initialized (bh_Y q.2.2.1).cls ∈ bh_WS ∧ ((bh_Y q.2.2.1).cls ≠ "java/lang/invoke/MethodHandle" ∧ (bh_Y q.2.2.1).cls ≠ "java/lang/invoke/VarHandle") ∧
    ((q.2.2.2 = 0 ∧ Jvm.Cond.methodLink q.1 q.2.1 (bh_Y q.2.2.1) ∈ bh_WS ∧ Jvm.Cond.instanceMethod (bh_Y q.2.2.1) ∈ bh_WS ∧ Jvm.Cond.selects (bh_Y q.2.2.1).cls (bh_Y q.2.2.1) (bh_Y q.2.2.1) ∈ bh_WS ∧ (parseMethodDescriptor (bh_Y q.2.2.1).desc).map (fun d => d.parameters.length + 1) = some (bh_na q.2.2.1) ∧ (bh_cls[bh_ci q.2.2.1]?).map (fun t => t.1) = some (bh_Y q.2.2.1).cls) ∨
     (q.2.2.2 = 1 ∧ Jvm.Cond.methodLink q.1 q.2.1 (bh_Y q.2.2.1) ∈ bh_WS ∧ Jvm.Cond.static (bh_Y q.2.2.1) ∈ bh_WS ∧ (parseMethodDescriptor (bh_Y q.2.2.1).desc).map (fun d => d.parameters.length) = some (bh_na q.2.2.1)) ∨
     (q.2.2.2 = 2 ∧ Jvm.Cond.methodLink q.1 q.2.1 (bh_Y q.2.2.1) ∈ bh_WS ∧ Jvm.Cond.instanceMethod (bh_Y q.2.2.1) ∈ bh_WS ∧ (bh_Y q.2.2.1).name = "<init>" ∧ bh_rt q.2.2.1 = none ∧ (parseMethodDescriptor (bh_Y q.2.2.1).desc).map (fun d => d.parameters.length + 1) = some (bh_na q.2.2.1)) ∨
     (q.2.2.2 = 3 ∧ Jvm.Cond.static (bh_Y q.2.2.1) ∈ bh_WS ∧ (parseMethodDescriptor (bh_Y q.2.2.1).desc).map (fun d => d.parameters.length) = some (bh_na q.2.2.1)) ∨
     (q.2.2.2 = 4 ∧ Jvm.Cond.instanceMethod (bh_Y q.2.2.1) ∈ bh_WS ∧ (bh_Y q.2.2.1).name = "<init>" ∧ bh_rt q.2.2.1 = none ∧ (parseMethodDescriptor (bh_Y q.2.2.1).desc).map (fun d => d.parameters.length + 1) = some (bh_na q.2.2.1))) := by
  have hlen : bh_ML.length = 291 := by decide +kernel
  have hi : i < 291 := by
    have := (List.getElem?_eq_some_iff.mp h).1
    rw [hlen] at this
    exact this
  have h1 := mok_all hi
  unfold bh_mok at h1
  rw [h] at h1
  have hlaw : q.2.2.1 ≠ m_L_law := of_decide_eq_true (List.all_eq_true.mp bh_ML_law q (List.mem_of_getElem? h))
  cases hp : bh_MLp[i]? with
  | none => rw [hp] at h1; cases h1
  | some w =>
    rw [hp] at h1
    dsimp only at h1
    simp only [Bool.and_eq_true] at h1
    obtain ⟨⟨⟨h2, h3⟩, h4⟩, h5⟩ := h1
    unfold bh_mh at h4
    simp only [Bool.and_eq_true, decide_eq_true_eq] at h4
    refine ⟨of_decide_eq_true h2, hlaw, bh_at_WS h3, h4, ?_⟩
    split at h5
    next e =>
      simp only [Bool.and_eq_true, decide_eq_true_eq] at h5
      obtain ⟨⟨⟨⟨a1, a2⟩, a3⟩, a4⟩, a5⟩ := h5
      exact Or.inl ⟨e, bh_at_WS a1, bh_at_WS a2, bh_at_WS a3, a4, a5⟩
    next e =>
      simp only [Bool.and_eq_true, decide_eq_true_eq] at h5
      obtain ⟨⟨a1, a2⟩, a3⟩ := h5
      exact Or.inr (Or.inl ⟨e, bh_at_WS a1, bh_at_WS a2, a3⟩)
    next e =>
      simp only [Bool.and_eq_true, decide_eq_true_eq] at h5
      obtain ⟨⟨⟨⟨a1, a2⟩, a3⟩, a4⟩, a5⟩ := h5
      exact Or.inr (Or.inr (Or.inl ⟨e, bh_at_WS a1, bh_at_WS a2, a3, a4, a5⟩))
    next e =>
      simp only [Bool.and_eq_true, decide_eq_true_eq] at h5
      obtain ⟨⟨a1, a2⟩, a3⟩ := h5
      exact Or.inr (Or.inr (Or.inr (Or.inl ⟨e, bh_at_WS a2, a3⟩)))
    next e =>
      simp only [Bool.and_eq_true, decide_eq_true_eq] at h5
      obtain ⟨⟨⟨⟨a1, a2⟩, a3⟩, a4⟩, a5⟩ := h5
      exact Or.inr (Or.inr (Or.inr (Or.inr ⟨e, bh_at_WS a2, a3, a4, a5⟩)))
    next => cases h5
theorem bh_par {y : MethodName} {n : Nat} (h : (parseMethodDescriptor y.desc).map (fun d => d.parameters.length + 1) = some (n + 1)) : (parseMethodDescriptor y.desc).map (fun d => d.parameters.length) = some n := by
  cases hp : parseMethodDescriptor y.desc with
  | none => rw [hp] at h; cases h
  | some sg =>
    rw [hp] at h
    have h2 : sg.parameters.length + 1 = n + 1 := Option.some.inj h
    show some sg.parameters.length = some n
    rw [Nat.succ.inj h2]
theorem bh_mL40 {m : Nat} (hm : m < 261) : bh_mL m ≤ 40 := by
  have h1 := cok_all hm
  unfold bh_cok at h1
  simp only [Bool.and_eq_true, decide_eq_true_eq] at h1
  exact h1.1.1.2
theorem bh_plain {m : Nat} (hm : m < 261) : plainName (bh_Y m).cls = true := by
  have h1 := cok_all hm
  unfold bh_cok at h1
  simp only [Bool.and_eq_true, decide_eq_true_eq] at h1
  exact h1.1.1.1
theorem bh_rmap (g : bh_G) (r : Option Value) (s : List Value) : (r.map (bh_tr g)).toList ++ s.map (bh_tr g) = (r.toList ++ s).map (bh_tr g) := by cases r <;> rfl
section bh_sound3
variable {g : bh_G} {m0 d : Nat} {p : Program} {l : Launch} {e : Env} {R : Room} {S0 : State} {m : MethodId} {args : Array Value} {below : List Frame} {meth : Method} {c : Code} {Qf : State → Prop} {pc len a : Nat} {cn : Int} {l9 : List Nat} {lv st : List Value} {u : Nat × Nat} {h : bh_H} {call : Nat → List Value → bh_H → bh_Q → Prop}
set_option maxHeartbeats 1000000 in
theorem bs_40 (cx : bh_Cx g m0 d p R S0 m args meth c) {d0 : Nat} (hd0 : d0 + 9 ≤ d) (hcall : ∀ m1 As h Q, m1 < 261 → m1 ≠ m_L_law → call m1 As h Q → bh_Mt g l d0 m1 As h Q) (hok : (match bh_ML[a]? with
      | some q => decide (q.1 = bh_O m0) && bh_d3 m0 pc len (match q.2.2.2 with
        | 0 => .invokevirtual q.2.1
        | 1 => .invokestatic q.2.1
        | 2 => .invokespecial q.2.1
        | 3 => .invokestatic q.2.1
        | _ => .invokespecial q.2.1)
      | none => false) = true) (H1 : ∃ q As s, bh_ML[a]? = some q ∧ st = As.reverse ++ s ∧ As.length = bh_na q.2.2.1 ∧ bh_catsum s ≤ 8 ∧ u.1 + bh_mc q.2.2.1 ≤ bh_mc m0 ∧ u.2 + bh_ms q.2.2.1 ≤ bh_ms m0 ∧
        (q.2.2.2 = 0 → ∃ k Bs, As = .ref k :: Bs ∧ k < h.1 ∧ bh_tg k = bh_ci q.2.2.1) ∧ (q.2.2.2 = 2 ∨ q.2.2.2 = 4 → ∃ k Bs, As = .ref k :: Bs) ∧
        call q.2.2.1 As h (fun r h' => h'.1 = h.1 + bh_mc q.2.2.1 ∧ (bh_MP g m0 p l e R S0 m args below meth c Qf) (pc + len) lv (r.toList ++ s) (u.1 + bh_mc q.2.2.1, u.2 + bh_ms q.2.2.1) h')) : bh_MP g m0 p l e R S0 m args below meth c Qf pc lv st u h := by
  obtain ⟨hx, hb, hml, hown, hts, hm0, hE, hR, hB, hini⟩ := id cx
  obtain ⟨q, As, sk, hq, rfl, hna, hcs, hc1, hc2, hk0, hk2, H1⟩ := H1
  rw [hq] at hok
  dsimp only at hok
  simp only [bh_d3, bh_dc, Bool.and_eq_true, decide_eq_true_eq] at hok
  obtain ⟨ho, rfl, hd⟩ := hok
  obtain ⟨hm1, hm2, hw1, hw2, hw3⟩ := bh_mok_of hq
  have hM := hcall _ _ _ _ hm1 hm2 H1
  unfold bh_Mt at hM
  have h40 := bh_mL40 hm1
  intro H locs ls hP hS hN hX hl
  refine bh_size hP hS hB hN (fun hsz => ?_)
  have hown2 := hown
  rw [← ho] at hown2
  have hG := bh_good _ hm1 hm2
  have hRR : (bh_rm d0 q.2.2.1).frames + 1 ≤ R.frames ∧ 8 + (bh_mL q.2.2.1 + 11) + (bh_rm d0 q.2.2.1).locals ≤ R.locals := by
    show d0 + 8 + 1 ≤ R.frames ∧ 8 + (bh_mL q.2.2.1 + 11) + 64 * (d0 + 8) ≤ R.locals
    omega
  have hf : u.1 + bh_mc q.2.2.1 ≤ R.cells ∧ u.2 + bh_ms q.2.2.1 ≤ R.slots := by
    rw [hR.2.2.1, hR.2.2.2]
    exact ⟨hc1, hc2⟩
  have hPc : ∀ U : State, U.heap = H → S0.WarmedH U.vm → bh_Pc g As h (As.map (bh_tr g)).toArray U := by
    intro U hU hW
    refine ⟨rfl, by rw [hU, hsz], by rw [hU]; exact hP, ?_, hX⟩
    rw [hU]
    exact bh_Ext_warm hW (bh_Ext_kept (fun z hz => hS.2.1 z (Nat.lt_of_lt_of_le hz hB) (show ¬ bh_gB g ≤ z by omega)) hE)
  have hW8 : 2 * (F0 m pc ls ((As.reverse ++ sk).map (bh_tr g))).monitorRoom + ((sk.map (bh_tr g)).map fun v => v.category).sum ≤ 8 := by
    rw [bh_catmap]
    show 2 * 0 + _ ≤ 8
    omega
  have hback : ∀ (r : Option Value) (h' : bh_H) (H2 : Heap) (locs2 : List Loc), (h'.1 = h.1 + bh_mc q.2.2.1 ∧ bh_MP g m0 p l e R S0 m args below meth c Qf (pc + 3) lv (r.toList ++ sk) (u.1 + bh_mc q.2.2.1, u.2 + bh_ms q.2.2.1) h') → va_P (bh_gD g) bh_cls (bh_ws g h') H2 → bh_scr g h' → va_S (bh_rg g) S0.heap H2 locs2 → W p l e R S0 m args below meth c H2 locs2 (u.1 + bh_mc q.2.2.1) (u.2 + bh_ms q.2.2.1) Qf (F0 m (pc + 3) ls ((r.map (bh_tr g)).toList ++ sk.map (bh_tr g))) := by
    intro r h' H2 locs2 hq2 hP2 hX2 hS2
    rw [bh_rmap]
    exact hq2.2 H2 locs2 ls hP2 hS2 (by rw [hq2.1]; dsimp only; omega) hX2 hl
  rcases hw3 with ⟨hk, w1, w2, w3, w4, w5⟩ | ⟨hk, w1, w2, w4⟩ | ⟨hk, w1, w2, w3, w5, w4⟩ | ⟨hk, w2, w4⟩ | ⟨hk, w2, w3, w5, w4⟩
  · obtain ⟨k, Bs, rfl, hkN, htg⟩ := hk0 hk
    rw [hk] at hd
    have hn2 : (parseMethodDescriptor (bh_Y q.2.2.1).desc).map (fun d => d.parameters.length) = some Bs.length := by
      rw [← hna] at w4
      exact bh_par w4
    cases hcc : bh_cls[bh_ci q.2.2.1]? with
    | none => rw [hcc] at w5; cases w5
    | some t =>
      rw [hcc] at w5
      have htn : t.1 = (bh_Y q.2.2.1).cls := Option.some.inj w5
      have hci : bh_ci q.2.2.1 < 20 := Nat.lt_of_lt_of_le (bh_cls_of hcc) (by decide)
      have he := bh_ws_at g hkN
      rw [bh_E_obj htg hci] at he
      have hrec := va_recv hE.1 hP hcc he
      rw [htn] at hrec
      have had : bh_ad g k = bh_gB g + k := bh_ad_own hkN hX
      refine bh_callW (va_runV (As := Bs.map (bh_tr g)) (b := bh_gB g + k) (rest := sk.map (bh_tr g)) (Ts := bh_WS) (n := Bs.length) ⟨hx, hb, hml, hown2, hts⟩ hM ⟨callB_of (bytes := bh_B q.2.2.1) (maxL := bh_mL q.2.2.1) (ret := bh_rt q.2.2.1) _ hts hG rfl rfl rfl (hts _ hw1) (hts _ w1) ⟨hw2.1, hw2.2, hn2⟩ hRR, hts _ w2, hts _ w3⟩ ⟨bh_Pc_blind _ _ _, hrec, ?_⟩ rfl (by simp) hl.1 ?_ hW8 hd hf) hS hback
      · intro U hU hW
        have := hPc U hU hW
        rw [← had]
        exact this
      · rw [← had]
        simp [bh_tr]
  · rw [hk] at hd
    refine bh_callW (va_runS (As := As.map (bh_tr g)) (rest := sk.map (bh_tr g)) (Ts := bh_WS) (n := As.length) ⟨hx, hb, hml, hown2, hts⟩ hM ⟨callB_of (bytes := bh_B q.2.2.1) (maxL := bh_mL q.2.2.1) (ret := bh_rt q.2.2.1) _ hts hG rfl rfl rfl (hts _ hw1) (hts _ w1) ⟨hw2.1, hw2.2, by rw [hna]; exact w4⟩ hRR, hts _ w2⟩ ⟨bh_Pc_blind _ _ _, hPc⟩ rfl (by simp) hl.1 (by simp) hW8 hd hf) hS hback
  · obtain ⟨k, Bs, rfl⟩ := hk2 (Or.inl hk)
    rw [hk] at hd
    have hn2 : (parseMethodDescriptor (bh_Y q.2.2.1).desc).map (fun d => d.parameters.length) = some Bs.length := by
      rw [← hna] at w4
      exact bh_par w4
    have hG' := hG
    unfold bh_wsm at hG'
    rw [w5] at hG'
    have hM' := hM
    unfold bh_wsm at hM'
    rw [w5] at hM'
    refine bh_callW (va_runI (As := Bs.map (bh_tr g)) (b := bh_ad g k) (rest := sk.map (bh_tr g)) (Ts := bh_WS) (n := Bs.length) ⟨hx, hb, hml, hown2, hts⟩ hM' ⟨callB_of (bytes := bh_B q.2.2.1) (maxL := bh_mL q.2.2.1) (ret := none) _ hts hG' rfl rfl rfl (hts _ hw1) (hts _ w1) ⟨hw2.1, hw2.2, hn2⟩ hRR, w3, hts _ w2⟩ ⟨bh_Pc_blind _ _ _, hPc⟩ rfl (by simp) hl.1 (by simp [bh_tr]) hW8 hd hf) hS hback
  · rw [hk] at hd
    have hnw := hE.2.1 q (List.mem_of_getElem? hq) (Or.inl hk)
    refine bh_callW (va_runSN (As := As.map (bh_tr g)) (rest := sk.map (bh_tr g)) (Ts := bh_WS) (n := As.length) ⟨hx, hb, hml, hown2, hts⟩ hM ⟨va_cnB (bytes := bh_B q.2.2.1) (maxL := bh_mL q.2.2.1) (ret := bh_rt q.2.2.1) _ hts hG rfl rfl rfl hnw (hts _ hw1) ⟨hw2.1, hw2.2, by rw [hna]; exact w4⟩ hRR, hts _ w2, trivial⟩ ⟨bh_Pc_blind _ _ _, hPc⟩ rfl (by simp) hl.1 (by simp) hW8 hd hf) hS hback
  · obtain ⟨k, Bs, rfl⟩ := hk2 (Or.inr hk)
    rw [hk] at hd
    have hnw := hE.2.1 q (List.mem_of_getElem? hq) (Or.inr hk)
    have hn2 : (parseMethodDescriptor (bh_Y q.2.2.1).desc).map (fun d => d.parameters.length) = some Bs.length := by
      rw [← hna] at w4
      exact bh_par w4
    have hG' := hG
    unfold bh_wsm at hG'
    rw [w5] at hG'
    have hM' := hM
    unfold bh_wsm at hM'
    rw [w5] at hM'
    refine bh_callW (va_runIN (As := Bs.map (bh_tr g)) (b := bh_ad g k) (rest := sk.map (bh_tr g)) (Ts := bh_WS) (n := Bs.length) ⟨hx, hb, hml, hown2, hts⟩ hM' ⟨va_cnB (bytes := bh_B q.2.2.1) (maxL := bh_mL q.2.2.1) (ret := none) _ hts hG' rfl rfl rfl hnw (hts _ hw1) ⟨hw2.1, hw2.2, hn2⟩ hRR, w3, hts _ w2⟩ ⟨bh_Pc_blind _ _ _, hPc⟩ rfl (by simp) hl.1 (by simp [bh_tr]) hW8 hd hf) hS hback
set_option maxHeartbeats 1000000 in
theorem bs_45 (cx : bh_Cx g m0 d p R S0 m args meth c) (hok : (decide (len = 2) && bh_dc m0 pc (.ldc cn.toNat) 2 && (match bh_ST[a]? with
      | some q => decide (q.1 = bh_O m0 ∧ q.2.1 = cn.toNat)
      | none => false)) = true) (H1 : (bh_MP g m0 p l e R S0 m args below meth c Qf) (pc + len) lv (.ref (1100 + a) :: st) u h) : bh_MP g m0 p l e R S0 m args below meth c Qf pc lv st u h := by
  obtain ⟨hx, hb, hml, hown, hts, hm0, hE, hR, hB, hini⟩ := id cx
  simp only [bh_dc, Bool.and_eq_true, decide_eq_true_eq] at hok
  obtain ⟨⟨rfl, hd⟩, hw⟩ := hok
  cases hq : bh_ST[a]? with
  | none => rw [hq] at hw; cases hw
  | some q =>
    rw [hq] at hw
    dsimp only at hw
    obtain ⟨e1, e2⟩ := of_decide_eq_true hw
    intro H locs ls hP hS hN hX hl
    have hR2 := hE.2.2.2.1 a q hq
    rw [e1, e2] at hR2
    refine va_ldcS hx hb hown hR2 hd ?_
    have had : Value.ref (bh_gX g (1100 + a)) = bh_tr g (.ref (1100 + a)) := by
      show _ = Value.ref (bh_ad g (1100 + a))
      unfold bh_ad
      rw [if_neg (by omega)]
    rw [had]
    exact H1 H locs ls hP hS hN hX hl
end bh_sound3
end
section
/-! ===== soundness: what is so of the picture is so of the machine ===== -/
section bh_sound4
variable {g : bh_G} {m0 d : Nat} {p : Program} {l : Launch} {e : Env} {R : Room} {S0 : State} {m : MethodId} {args : Array Value} {below : List Frame} {meth : Method} {c : Code} {Qf : State → Prop} {call : Nat → List Value → bh_H → bh_Q → Prop} {Q : bh_Q}
set_option maxHeartbeats 4000000 in
theorem bh_sound1 {d0 : Nat} (cx : bh_Cx g m0 (d0 + 9) p R S0 m args meth c) (hcall : ∀ m1 As h Q, m1 < 261 → m1 ≠ m_L_law → call m1 As h Q → bh_Mt g l d0 m1 As h Q)
    (hret : ∀ (r : Option Value) (v : List Value) (pc : Nat) (u : Nat × Nat) (h : bh_H) (H : Heap) (locs : List Loc) (ls : Array Slot), ((∃ x, r = some (.int x) ∧ decode (bh_B m0) pc = .ok (.ireturn, 1) ∧ (bh_rt m0 = some .int ∨ (bh_rt m0 = some .boolean ∧ (x = 0 ∨ x = 1)))) ∨ (∃ x, r = some (.long x) ∧ decode (bh_B m0) pc = .ok (.lreturn, 1) ∧ bh_rt m0 = some .long) ∨ (∃ x, r = some (.ref x) ∧ decode (bh_B m0) pc = .ok (.areturn, 1) ∧ bh_rt m0 = some (.object "java/lang/String")) ∨ (r = none ∧ decode (bh_B m0) pc = .ok (.return_, 1) ∧ bh_rt m0 = none)) →
      (u.1 ≤ bh_mc m0 ∧ u.2 ≤ bh_ms m0) → Q r h → va_P (bh_gD g) bh_cls (bh_ws g h) H → va_S (bh_rg g) S0.heap H locs → bh_scr g h → W p l e R S0 m args below meth c H locs u.1 u.2 Qf (F0 m pc ls (r.map (bh_tr g)).toList)) :
    ∀ pc lv st u h, bh_st m0 call (bh_MP g m0 p l e R S0 m args below meth c Qf) Q pc lv st u h → bh_MP g m0 p l e R S0 m args below meth c Qf pc lv st u h := by
  intro pc lv st u h H1
  have hok := bh_ok_of cx.2.2.2.2.2.1 pc
  unfold bh_st at H1
  unfold bh_ok at hok
  generalize bh_cod m0 pc = q at H1 hok
  obtain ⟨op, len, a, cn, l9⟩ := q
  dsimp only at H1 hok
  split at H1
  · match a, hok with
    | 0, hok => exact bs_1_0 cx hok H1
    | 1, hok => exact bs_1_1 cx hok H1
    | 2, hok => exact bs_1_2 cx hok H1
    | 3, hok => exact bs_1_3 cx hok H1
    | n + 4, hok => exact bs_1_4 cx hok H1
  · match a, hok with
    | 0, hok =>
      have hok : (if cn = 0 then bh_d1 m0 pc len (.lconst 0) else decide (cn = 1) && bh_d1 m0 pc len (.lconst 1)) = true := hok
      split at hok
      next e => subst e; exact bs_2_0 cx hok H1
      next e =>
        simp only [Bool.and_eq_true, decide_eq_true_eq] at hok
        obtain ⟨e1, hok⟩ := hok
        subst e1
        exact bs_2_1 cx hok H1
    | n + 1, hok => exact bs_2_2 cx hok H1
  · exact bs_3 cx hok H1
  · exact bs_4 cx hok H1
  · exact bs_5 cx hok H1
  · exact bs_6 cx hok H1
  · exact bs_7 cx hok H1
  · exact bs_8 cx hok H1
  · exact bs_9 cx hok H1
  · exact bs_10 cx hok H1
  · exact bs_11 cx hok H1
  · exact bs_12 cx hok H1
  · exact bs_13 cx hok H1
  · exact bs_14 cx hok H1
  · exact bs_15 cx hok H1
  · exact bs_16 cx hok H1
  · exact bs_17 cx hok H1
  · exact bs_18 cx hok H1
  · exact bs_19 cx hok H1
  · exact bs_20 cx hok H1
  · exact bs_21 cx hok H1
  · exact bs_22 cx hok H1
  · exact bs_23 cx hok H1
  · exact bs_24 cx hok H1
  · exact bs_25 cx hok H1
  · exact bs_26 cx hok H1
  · exact bs_27 cx hok H1
  · exact bs_28 cx hok H1
  · exact bs_29 cx hok H1
  · exact bs_30 cx hok H1
  · exact bs_31 cx hok H1
  · exact bs_32 cx hok H1
  · exact bs_33 cx hok H1
  · exact bs_34 cx hok H1
  · exact bs_35 cx hok H1
  · exact bs_36 cx hok H1
  · exact bs_37 cx hok H1
  · exact bs_38 cx hok H1
  · exact bs_39 cx (by omega) hok H1
  · exact bs_40 cx (Nat.le_refl _) hcall hok H1
  · obtain ⟨x, rfl, hu, hrt, hq⟩ := H1
    simp only [bh_d1, bh_dc, Bool.and_eq_true, decide_eq_true_eq] at hok
    intro H locs ls hP hS hN hX hl
    exact hret (some (.int x)) [] pc u h H locs ls (Or.inl ⟨x, rfl, hok.2, hrt⟩) hu hq hP hS hX
  · obtain ⟨x, rfl, hu, hrt, hq⟩ := H1
    simp only [bh_d1, bh_dc, Bool.and_eq_true, decide_eq_true_eq] at hok
    intro H locs ls hP hS hN hX hl
    exact hret (some (.long x)) [] pc u h H locs ls (Or.inr (Or.inl ⟨x, rfl, hok.2, hrt⟩)) hu hq hP hS hX
  · obtain ⟨x, rfl, hu, hrt, hq⟩ := H1
    simp only [bh_d1, bh_dc, Bool.and_eq_true, decide_eq_true_eq] at hok
    intro H locs ls hP hS hN hX hl
    exact hret (some (.ref x)) [] pc u h H locs ls (Or.inr (Or.inr (Or.inl ⟨x, rfl, hok.2, hrt⟩))) hu hq hP hS hX
  · obtain ⟨rfl, hu, hrt, hq⟩ := H1
    simp only [bh_d1, bh_dc, Bool.and_eq_true, decide_eq_true_eq] at hok
    intro H locs ls hP hS hN hX hl
    exact hret none [] pc u h H locs ls (Or.inr (Or.inr (Or.inr ⟨rfl, hok.2, hrt⟩))) hu hq hP hS hX
  · exact bs_45 cx hok H1
  · exact bs_46 cx (by omega) hok H1
  · exact bs_47 cx (by omega) hok H1
  · exact bs_48 cx (by omega) hok H1
  · exact bs_49 cx (by omega) hok H1
  · exact bs_50 cx (by omega) hok H1
  · exact H1.elim
end bh_sound4
theorem bh_sl_len (g : bh_G) : ∀ As : List Value, (lg_sl (As.map (bh_tr g))).length = (bh_lay As).length := by
  intro As
  induction As with
  | nil => rfl
  | cons a l ih =>
    cases a <;> simp [lg_sl, bh_lay, bh_tr, Value.category] at ih ⊢ <;> omega
theorem bh_entry {g : bh_G} {m : Nat} {As : List Value} {ls : Array Slot} (h : lv_has ls (bh_mL m) (lv_args 0 (As.map (bh_tr g)))) : lv_has ls (bh_mL m) (bh_pr g (bh_ent m As)) := by
  refine ⟨h.1, h.2.1, fun q hq => h.2.2 q ?_⟩
  obtain ⟨v, hv, hn, he⟩ := bh_pr_mem.mp hq
  obtain ⟨i, w⟩ := q
  dsimp only at hv he
  subst he
  unfold bh_ent at hv
  by_cases hi : i < (bh_lay As).length
  · rw [List.getElem?_append_left hi] at hv
    have := bh_lay_at g As i v 0 hv hn
    rw [Nat.zero_add] at this
    exact this
  · rw [List.getElem?_append_right (by omega)] at hv
    have := List.mem_of_getElem? hv
    rw [List.mem_replicate] at this
    exact absurd this.2 hn
set_option maxHeartbeats 4000000 in
/-- a contract of the picture is a contract of the machine -/
theorem bh_sound (g : bh_G) (l : Launch) : ∀ (d m : Nat) (As : List Value) (h : bh_H) (Q : bh_Q), m < 261 → m ≠ m_L_law → bh_wc d m As h Q → bh_Mt g l d m As h Q := by
  intro d
  induction d with
  | zero => intro m As h Q _ _ H; exact H.elim
  | succ d ih =>
    intro m As h Q hm hL HH
    obtain ⟨hlen, HH⟩ := HH
    unfold bh_Mt
    refine Met.ofW (cc := bh_B m) (maxL := bh_mL m) (ret := bh_rt m) (bh_plain hm) rfl ?_
    intro p e s mm args below meth c s₁ B hml hv
    obtain ⟨rfl, hsz, hP, hE, hX⟩ := hv
    have hr := B.returns
    have hts : ∀ w ∈ bh_wsm m, w.before _ s = true := atoms_spec (ws := bh_wsm m) B.pre
    have hown : s.vm.findClass (bh_O m) = some mm.cls := findClass_of_methodNamed B.named
    have hlocks := B.notSynchronized
    have hname : meth.name = (bh_Y m).name := (name_of_methodNamed B.named B.method).1
    have hb := B.bytes
    have hx := B.exec
    have hl := lv_entry (As.map (bh_tr g)) (n := bh_mL m) (by rw [bh_sl_len]; exact hlen)
    rw [lg_entry_eq]
    generalize (lg_sl (As.map (bh_tr g)) ++ List.replicate (bh_mL m - (lg_sl (As.map (bh_tr g))).length) Slot.unset).toArray = ls at hl ⊢
    have cx : bh_Cx g m (d + 9) p (headSpec (bh_wsm m) (bh_rm (d + 1) m)).room s mm (As.map (bh_tr g)).toArray meth c :=
      ⟨hx, hb, hml, hown, fun w hw => hts w (List.mem_cons_of_mem _ hw), hm, hE, ⟨Nat.le_refl _, Nat.le_refl _, rfl, rfl⟩, by omega, fun e => hname.trans e⟩
    refine HH (bh_MP g m p l e (headSpec (bh_wsm m) (bh_rm (d + 1) m)).room s mm (As.map (bh_tr g)).toArray below meth c (MQ below (bh_Qc g Q) (As.map (bh_tr g)).toArray s (bh_mc m) (bh_ms m) (bh_rg g))) (bh_sound1 cx ih ?_) s.heap [] ls hP va_S.rf hsz hX (bh_entry hl)
    intro r v pc u h' H locs ls' hrr hu hq hP' hS' hX'
    refine W.widen hu.1 hu.2 ?_
    have hqq : ∀ t : State, t.heap = H → s.WarmedH t.vm → bh_Qc g Q (As.map (bh_tr g)).toArray s (.returned (r.map (bh_tr g))) t := fun t ht hW => ⟨⟨r, h', rfl, hq, by rw [ht]; exact hP', hX'⟩, hS'.F ht⟩
    rcases hrr with ⟨x, rfl, hd, hrt⟩ | ⟨x, rfl, hd, hrt⟩ | ⟨x, rfl, hd, hrt⟩ | ⟨rfl, hd, hrt⟩
    · rcases hrt with hrt | ⟨hrt, hx01⟩
      · exact W.iret (v := x) hx hb (hr.trans hrt) hqq hS'.2.2 hd
      · exact W.zret (v := x) (ty := .boolean) hx hb (hr.trans hrt) (by rcases hx01 with rfl | rfl <;> rfl) hqq hS'.2.2 hd
    · exact W.lret (v := x) hx hb (hr.trans hrt) hqq hS'.2.2 hd
    · exact W.aret (v := .ref (bh_ad g x)) hx hb (hr.trans hrt) (Or.inl ⟨_, rfl⟩) (Or.inr ⟨_, rfl⟩) hqq hS'.2.2 hd
    · exact W.vret hx hb (hr.trans hrt) hqq hS'.2.2 hd
end
section
/-! ===== what stands outside the picture, at the law's entry ===== -/
def bh_fl : List Jvm.Cond := flatC (Jvm.Cond.and given_1 narrow_1)
theorem bh_fl_at {args : Array Value} {s : State} (h : (Jvm.Cond.and given_1 narrow_1).before args s = true) {i : Nat} {w : Jvm.Cond} (hi : bh_fl[i]? = some w) : w.before args s = true := flat_of_before _ h w (List.mem_of_getElem? hi)
/-- where the words on a string begin -/
def bh_stb : List Nat := [9, 19, 28, 37, 49, 61, 74, 88, 104, 121, 138, 158, 178, 198, 218, 241, 264, 288, 313, 340]
def bh_tm (j : Nat) : Jvm.Term := .string (bh_ST.getD j ("", 0, "")).1 (bh_ST.getD j ("", 0, "")).2.1
def bh_tf (j : Nat) : Jvm.Term := .field (bh_tm j) "java/lang/String" "value" "[B"
def bh_sok (j : Nat) : Bool := decide (bh_fl[bh_stb.getD j 0]? = some (.exactly (bh_tm j) "java/lang/String")) && decide (bh_fl[bh_stb.getD j 0 + 1]? = some (.eq (.field (bh_tm j) "java/lang/String" "coder" "B") (.int 0))) && decide (bh_fl[bh_stb.getD j 0 + 2]? = some (.arrayOf (bh_tf j) .byte)) && decide (bh_fl[bh_stb.getD j 0 + 3]? = some (.eq (.length (bh_tf j)) (.int (nI (bh_sl j))))) && (List.range (bh_sl j)).all (fun i => decide (bh_fl[bh_stb.getD j 0 + 4 + i]? = some (.eq (.elem (bh_tf j) (.int (nI i))) (.int (bh_sc j i)))))
set_option maxRecDepth 100000 in
theorem bh_sok_all : (List.range 20).all bh_sok = true := by decide +kernel
theorem bh_str0 {args : Array Value} {s : State} (hg : (Jvm.Cond.and given_1 narrow_1).before args s = true) {j : Nat} (hj : j < 20) : ∃ a : Nat, (bh_tm j).eval args s none [] s = some (.ref a) ∧ ∃ (d : Addr) (arr : Cell), (Jvm.Cond.exactly (.arg 0) "java/lang/String").before #[.ref a] s = true ∧ s.fieldOf? a "java/lang/String" "coder" "B" = some (.int 0) ∧ s.fieldOf? a "java/lang/String" "value" "[B" = some (.ref d) ∧ s.heap[d]? = some arr ∧ s.isArrayOf arr .byte ∧ arr.vm ≠ .unknown ∧ bh_sl j ≤ arr.slots.size ∧ arr.slots.size.toInt32 = nI (bh_sl j) ∧ ∀ i, i < bh_sl j → arr.slots[i]? = some (.int (bh_sc j i)) := by
  have hsl := bh_sl_small j hj
  have hk := List.all_eq_true.mp bh_sok_all j (List.mem_range.mpr hj)
  unfold bh_sok at hk
  simp only [Bool.and_eq_true, decide_eq_true_eq, List.all_eq_true, List.mem_range] at hk
  obtain ⟨⟨⟨⟨k1, k2⟩, k3⟩, k4⟩, k5⟩ := hk
  have c1 := bh_fl_at hg k1
  have c2 := bh_fl_at hg k2
  have c3 := bh_fl_at hg k3
  have c4 := bh_fl_at hg k4
  obtain ⟨a, c, cell, kk, q1, q2, q3, q4, q5, q6, -⟩ := Cond.exactly_spec c1
  have q1 : (bh_tm j).eval args s none [] s = some (.ref a) := q1
  have f2 : s.fieldOf? a "java/lang/String" "coder" "B" = some (.int 0) := (va_fe q1).symm.trans (Cond.eq_int c2 rfl)
  obtain ⟨d, arr, t1, t2, t3⟩ := Term.length_spec (Cond.eq_int (n := nI (bh_sl j)) c4 rfl)
  have f3 : s.fieldOf? a "java/lang/String" "value" "[B" = some (.ref d) := (va_fe q1).symm.trans t1
  obtain ⟨p1, p2, -⟩ := State.arrayAt?_spec t2
  obtain ⟨r1, r2⟩ := Cond.arrayOf_spec c3 t1 p1
  have hs : ∀ i, i < bh_sl j → arr.slots[i]? = some (.int (bh_sc j i)) := fun i hi => by
    obtain ⟨a', jj, cell', e1, e2, e3, -, e5⟩ := Term.elem_spec (Cond.eq_int (n := bh_sc j i) (bh_fl_at hg (k5 i hi)) rfl)
    cases t1.symm.trans e1
    cases t2.symm.trans e3
    have e2 : some (Value.int (nI i)) = some (.int jj) := e2
    have e3 := Value.int.inj (Option.some.inj e2)
    rw [← e3, nI_clamp (by omega)] at e5
    exact e5
  refine ⟨a, q1, d, arr, ?_, f2, f3, p1, r1, r2, ?_, (Value.int.inj t3).symm, hs⟩
  · have e : (Jvm.Term.arg 0).eval #[Value.ref a] s none [] s = some (.ref a) := rfl
    have c1 : (Jvm.Cond.exactly (bh_tm j) "java/lang/String").before args s = true := c1
    simp only [Jvm.Cond.before, Jvm.Cond.holds, Jvm.Cond.value, q1] at c1
    simp only [Jvm.Cond.before, Jvm.Cond.holds, Jvm.Cond.value, e]
    exact c1
  · by_cases hz : bh_sl j ≤ arr.slots.size
    · exact hz
    · have h0 := hs arr.slots.size (by omega)
      rw [Array.getElem?_eq_none (Nat.le_refl _)] at h0
      cases h0
theorem bh_Zs {C n d : String} {v : Value} {A : Nat → Prop} {s : State} (h : va_Z C n d v A s s.heap) : Cold.StaticIs s C n d v := by
  obtain ⟨cf, kf, fi, f, a, cell, h1, h2, h3, h4, h5, h6, h7, -⟩ := h
  exact ⟨cf, fi, kf, f, a, cell, h1, h2, h3, h4, h5, fun e => by rw [e] at h6; exact absurd (show false = true from h6) (by decide), h7⟩
theorem bh_tw1 : Jvm.Cond.laysStatic "java/lang/String" "COMPACT_STRINGS" "Z" ∈ lw_tbl := List.mem_of_getElem? (i := 473) (by decide +kernel)
theorem bh_tw2 : Jvm.Cond.laysStatic "jdk/internal/util/Preconditions" "SIOOBE_FORMATTER" "Ljava/util/function/BiFunction;" ∈ lw_tbl := List.mem_of_getElem? (i := 489) (by decide +kernel)
theorem bh_tw3 : Jvm.Cond.arrayOver (.object "BorrowedHands$Town") ∈ lw_tbl := List.mem_of_getElem? (i := 250) (by decide +kernel)
theorem bh_fw1 : bh_fl[4]? = some (Jvm.Cond.eq (.static "java/lang/String" "COMPACT_STRINGS" "Z") (.int 1)) := by decide +kernel
theorem bh_fw2 : bh_fl[5]? = some (Jvm.Cond.isRef (.static "jdk/internal/util/Preconditions" "SIOOBE_FORMATTER" "Ljava/util/function/BiFunction;")) := by decide +kernel
theorem bh_stat0 {args : Array Value} {s : State} (hts : ∀ w ∈ lw_tbl, w.before args s = true) (hg : (Jvm.Cond.and given_1 narrow_1).before args s = true) : Cold.StaticIs s "java/lang/String" "COMPACT_STRINGS" "Z" (.int 1) ∧ ∃ fmt : Value, ((∃ q, fmt = .ref q) ∨ fmt = .null) ∧ Cold.StaticIs s "jdk/internal/util/Preconditions" "SIOOBE_FORMATTER" "Ljava/util/function/BiFunction;" fmt := by
  refine ⟨bh_Zs (va_Zof (A := fun _ => False) (hts _ bh_tw1) (hts _ (bh_WS_tbl bh_sw1)) (va_eqi (bh_fl_at hg bh_fw1)) (fun _ _ h => h)), ?_⟩
  rcases va_Zqof (A := fun _ => False) (hts _ bh_tw2) (hts _ (bh_WS_tbl bh_sw3)) (bh_fl_at hg bh_fw2) (fun _ _ h => h) with h | ⟨t, h⟩
  · exact ⟨.null, Or.inr rfl, bh_Zs h⟩
  · exact ⟨.ref t, Or.inl ⟨t, rfl⟩, bh_Zs h⟩
/-- classes -/
def bh_ins : List (Nat × Nat) := [(337, 3), (337, 3), (252, 2), (353, 2), (289, 7), (318, 3), (228, 5), (130, 18), (271, 3), (122, 16), (1059, 33)]
def bh_iok (k : Nat) : Bool := match bh_cls[k]? with
  | some q => bh_at (bh_ins.getD k (0, 0)).1 (.instantiable q.1 (bh_ins.getD k (0, 0)).2)
  | none => false
set_option maxRecDepth 100000 in
theorem bh_iok_all : (List.range 11).all bh_iok = true := by decide +kernel
theorem bh_Kc {args : Array Value} {s : State} (hts : ∀ w ∈ bh_WS, w.before args s = true) : ∃ (dC : Nat → ClassId) (dI : Nat → Nat → Nat), ∀ (k : Nat) (q : vw_C), bh_cls[k]? = some q → u_Kn s q.1 q.2.1 q.2.2 (dC k) (dI k) := by
  have h : ∀ k : Nat, ∃ p : ClassId × (Nat → Nat), ∀ q : vw_C, bh_cls[k]? = some q → u_Kn s q.1 q.2.1 q.2.2 p.1 p.2 := by
    intro k
    by_cases hk : k < 11
    · have hq : ∃ q, bh_cls[k]? = some q := ⟨_, List.getElem?_eq_getElem hk⟩
      obtain ⟨q, hq⟩ := hq
      have h1 := List.all_eq_true.mp bh_iok_all k (List.mem_range.mpr hk)
      unfold bh_iok at h1
      rw [hq] at h1
      have h1 : bh_at (bh_ins.getD k (0, 0)).1 (.instantiable q.1 (bh_ins.getD k (0, 0)).2) = true := h1
      obtain ⟨cC, iS, hn⟩ := u_known (T := q.2.1) (N := q.2.2) hts (bh_uok_of hq).1 (hts _ (bh_at_WS h1))
      exact ⟨(cC, iS), fun q' h => by cases hq.symm.trans h; exact hn⟩
    · exact ⟨(0, fun _ => 0), fun q h => absurd (bh_cls_of h) hk⟩
  obtain ⟨f, hf⟩ := Classical.axiomOfChoice h
  exact ⟨fun k => (f k).1, fun k => (f k).2, fun k q hq => hf k q hq⟩
theorem bh_arr0 {args : Array Value} {s : State} {ty : FieldType} (h : (Jvm.Cond.arrayClass ty).before args s = true) : ∃ c : ClassId, ArrOfT s c ty ∧ s.vm.findClass ("[" ++ ty.toString) = some c := by
  obtain ⟨c, k, comp, h1, h2, h3⟩ := Cond.arrayClass_spec h
  exact ⟨c, fun N z => ⟨(fun k h => by cases h), k, h2, comp, h3⟩, h1⟩
/-- links to members of nest mates -/
def bh_nst : List Nat := [131, 229, 253, 272, 290, 319, 338, 354, 636]
def bh_nok (q : String × Nat × Nat × Nat) : Bool := (decide (q.2.2.2 ≠ 3) && decide (q.2.2.2 ≠ 4)) || bh_nst.any (fun i => decide (lw_tbl[i]? = some (.methodLinkNest q.1 q.2.1 (bh_Y q.2.2.1) "BorrowedHands")))
set_option maxRecDepth 100000 in
theorem bh_nok_all : bh_ML.all bh_nok = true := by decide +kernel
theorem bh_nst_of {q : String × Nat × Nat × Nat} (hq : q ∈ bh_ML) (h : q.2.2.2 = 3 ∨ q.2.2.2 = 4) : Jvm.Cond.methodLinkNest q.1 q.2.1 (bh_Y q.2.2.1) "BorrowedHands" ∈ lw_tbl := by
  have h1 := List.all_eq_true.mp bh_nok_all q hq
  unfold bh_nok at h1
  rw [Bool.or_eq_true] at h1
  rcases h1 with h1 | h1
  · simp only [Bool.and_eq_true, decide_eq_true_eq] at h1
    rcases h with h | h
    · exact absurd h h1.1
    · exact absurd h h1.2
  · obtain ⟨i, -, h2⟩ := List.any_eq_true.mp h1
    exact List.mem_of_getElem? (of_decide_eq_true h2)
/-- strings, as the tables have them -/
def bh_srp : List Nat := [459, 550, 551, 552, 553, 554, 555, 556, 565, 566, 1193, 1241, 1242, 1243, 1244, 1245, 1246, 1247, 1251, 1252]
def bh_srk (j : Nat) : Bool := decide (lw_tbl[bh_srp.getD j 0]? = some (.stringRef (bh_ST.getD j ("", 0, "")).1 (bh_ST.getD j ("", 0, "")).2.1 (bh_ST.getD j ("", 0, "")).2.2))
set_option maxRecDepth 100000 in
theorem bh_srk_all : (List.range 20).all bh_srk = true := by decide +kernel
theorem bh_srk_of {j : Nat} (hj : j < 20) : Jvm.Cond.stringRef (bh_ST.getD j ("", 0, "")).1 (bh_ST.getD j ("", 0, "")).2.1 (bh_ST.getD j ("", 0, "")).2.2 ∈ lw_tbl := by
  have h1 := List.all_eq_true.mp bh_srk_all j (List.mem_range.mpr hj)
  exact List.mem_of_getElem? (of_decide_eq_true h1)
theorem bh_ext0 {args : Array Value} {s : State} {b L : Nat} {xs : Nat → Int32} (hts : ∀ w ∈ lw_tbl, w.before args s = true) (hg : (Jvm.Cond.and given_1 narrow_1).before args s = true) (hX : va_X b L xs s s.heap) (hb : b < s.heap.size) (hL : L ≤ 3072) : ∃ g : bh_G, bh_Ext g s s.heap ∧ bh_gB g = s.heap.size ∧ bh_gX g 1000 = b ∧ bh_gL g = L ∧ bh_gS g = xs := by
  have hws : ∀ w ∈ bh_WS, w.before args s = true := fun w hw => hts w (bh_WS_tbl hw)
  obtain ⟨dC, dI, hKc⟩ := bh_Kc hws
  obtain ⟨cI, aI, fI⟩ : ∃ c : ClassId, ArrOfT s c .int ∧ s.vm.findClass ("[" ++ FieldType.int.toString) = some c := bh_arr0 (hws _ bh_arwI)
  obtain ⟨cJ, aJ, fJ⟩ : ∃ c : ClassId, ArrOfT s c .long ∧ s.vm.findClass ("[" ++ FieldType.long.toString) = some c := bh_arr0 (hws _ bh_arwJ)
  obtain ⟨cB, aB, fB⟩ : ∃ c : ClassId, ArrOfT s c .byte ∧ s.vm.findClass ("[" ++ FieldType.byte.toString) = some c := bh_arr0 (hws _ bh_arwB)
  obtain ⟨cZ, aZ, fZ⟩ : ∃ c : ClassId, ArrOfT s c .boolean ∧ s.vm.findClass ("[" ++ FieldType.boolean.toString) = some c := bh_arr0 (hws _ bh_arwZ)
  obtain ⟨comp, cT, kT, w1, w2, w3, w4, w5⟩ := Cond.arrayOver_spec (hts _ bh_tw3)
  have hst : ∀ j : Nat, ∃ a : Nat, j < 20 → (bh_tm j).eval args s none [] s = some (.ref a) ∧ ∃ (d : Addr) (arr : Cell), (Jvm.Cond.exactly (.arg 0) "java/lang/String").before #[.ref a] s = true ∧ s.fieldOf? a "java/lang/String" "coder" "B" = some (.int 0) ∧ s.fieldOf? a "java/lang/String" "value" "[B" = some (.ref d) ∧ s.heap[d]? = some arr ∧ s.isArrayOf arr .byte ∧ arr.vm ≠ .unknown ∧ bh_sl j ≤ arr.slots.size ∧ arr.slots.size.toInt32 = nI (bh_sl j) ∧ ∀ i, i < bh_sl j → arr.slots[i]? = some (.int (bh_sc j i)) := by
    intro j
    by_cases hj : j < 20
    · obtain ⟨a, h⟩ := bh_str0 hg hj
      exact ⟨a, fun _ => h⟩
    · exact ⟨0, fun h => absurd h hj⟩
  obtain ⟨X, hXs⟩ := Classical.axiomOfChoice hst
  obtain ⟨Xf, x0, xj⟩ : ∃ Xf : Nat → Nat, Xf 1000 = b ∧ ∀ j, Xf (1100 + j) = X j := ⟨fun k => if k = 1000 then b else X (k - 1100), if_pos rfl, fun j => by dsimp only; rw [if_neg (by omega), Nat.add_sub_cancel_left]⟩
  obtain ⟨cA, c0, c1, c2, c3, c4⟩ : ∃ cA : Nat → ClassId, cA 20 = cI ∧ cA 21 = cJ ∧ cA 22 = cB ∧ cA 23 = cZ ∧ cA 24 = cT := ⟨fun t => if t = 20 then cI else if t = 21 then cJ else if t = 22 then cB else if t = 23 then cZ else cT, rfl, rfl, rfl, rfl, rfl⟩
  refine ⟨(dC, dI, cA, s.heap.size, Xf, L, xs), ⟨⟨fun k q hq => hKc k q hq, ?_⟩, fun q hq hk => va_Nw.of rfl (hts _ (bh_nst_of hq hk)), va_AO.of (hts _ bh_tw3), ?_, ?_, ?_, hL, ?_⟩, rfl, x0, rfl, rfl⟩
  · intro k q hq
    match k, hq with
    | 0, hq =>
      have hq : some (cA 20, FieldType.int) = some q := hq
      cases hq
      rw [c0]
      exact ⟨aI, fI⟩
    | 1, hq =>
      have hq : some (cA 21, FieldType.long) = some q := hq
      cases hq
      rw [c1]
      exact ⟨aJ, fJ⟩
    | 2, hq =>
      have hq : some (cA 22, FieldType.byte) = some q := hq
      cases hq
      rw [c2]
      exact ⟨aB, fB⟩
    | 3, hq =>
      have hq : some (cA 23, FieldType.boolean) = some q := hq
      cases hq
      rw [c3]
      exact ⟨aZ, fZ⟩
    | 4, hq =>
      have hq : some (cA 24, FieldType.object "BorrowedHands$Town") = some q := hq
      cases hq
      rw [c4]
      exact ⟨fun N z => ⟨(fun k h => by cases h), kT, w3, comp, w4⟩, kT, comp, w3, w4, w1, w5⟩
    | k + 5, hq => simp [bh_tys] at hq
  · intro j q hq
    have hj : j < 20 := (List.getElem?_eq_some_iff.mp hq).1
    have e : bh_ST.getD j ("", 0, "") = q := by rw [List.getD_eq_getElem?_getD, hq]; rfl
    have h1 := hts _ (bh_srk_of hj)
    have h2 := (hXs j hj).1
    unfold bh_tm at h2
    rw [e] at h1 h2
    show vk_R q.1 q.2.1 q.2.2 (Xf (1100 + j)) s
    rw [xj]
    exact vk_R.of h1 h2
  · show va_X (Xf 1000) L xs s s.heap
    rw [x0]; exact hX
  · show Xf 1000 < s.heap.size
    rw [x0]; exact hb
  · refine ⟨s, State.WarmedH.refl s, fun _ _ => rfl, Nat.le_refl _, fun j hj => ?_, bh_stat0 hts hg⟩
    show ∃ (d : Addr) (arr : Cell), (Jvm.Cond.exactly (.arg 0) "java/lang/String").before #[.ref (Xf (1100 + j))] s = true ∧ s.fieldOf? (Xf (1100 + j)) "java/lang/String" "coder" "B" = some (.int 0) ∧ s.fieldOf? (Xf (1100 + j)) "java/lang/String" "value" "[B" = some (.ref d) ∧ s.heap[d]? = some arr ∧ s.isArrayOf arr .byte ∧ arr.vm ≠ .unknown ∧ bh_sl j ≤ arr.slots.size ∧ arr.slots.size.toInt32 = nI (bh_sl j) ∧ ∀ i, i < bh_sl j → arr.slots[i]? = some (.int (bh_sc j i))
    rw [xj]
    exact (hXs j hj).2
end
