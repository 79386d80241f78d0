section
-- ===== PART A: goes FIRST, ahead of the names: the tables' words, and 'selects' of the private methods out of them =====
/-- a private method of a class that the tables say can be made, by its rows of tables_1 -/
def lw_okq (q : MethodName × Nat) : Prop := (q.1.cls ≠ "java/lang/invoke/MethodHandle" ∧ q.1.cls ≠ "java/lang/invoke/VarHandle") ∧ Cond.instantiable q.1.cls q.2 ∈ tables_1 ∧ Cond.privateMethod q.1 ∈ tables_1 ∧ Cond.instanceMethod q.1 ∈ tables_1
theorem lw_p0 : lw_okq (⟨"BorrowedHands$Tape", "skipBlanks", "()V"⟩, 5) := ⟨⟨by decide +kernel, by decide +kernel⟩, List.mem_of_getElem? (i := 126) (by decide +kernel), List.mem_of_getElem? (i := 343) (by decide +kernel), List.mem_of_getElem? (i := 344) (by decide +kernel)⟩
theorem lw_p1 : lw_okq (⟨"BorrowedHands$Tape", "readPart", "(LBorrowedHands$Town;)Z"⟩, 5) := ⟨⟨by decide +kernel, by decide +kernel⟩, List.mem_of_getElem? (i := 126) (by decide +kernel), List.mem_of_getElem? (i := 347) (by decide +kernel), List.mem_of_getElem? (i := 348) (by decide +kernel)⟩
theorem lw_p2 : lw_okq (⟨"BorrowedHands$Tape", "readWord", "()V"⟩, 5) := ⟨⟨by decide +kernel, by decide +kernel⟩, List.mem_of_getElem? (i := 126) (by decide +kernel), List.mem_of_getElem? (i := 351) (by decide +kernel), List.mem_of_getElem? (i := 352) (by decide +kernel)⟩
theorem lw_p3 : lw_okq (⟨"BorrowedHands$Tape", "wordIs", "(Ljava/lang/String;)Z"⟩, 5) := ⟨⟨by decide +kernel, by decide +kernel⟩, List.mem_of_getElem? (i := 126) (by decide +kernel), List.mem_of_getElem? (i := 359) (by decide +kernel), List.mem_of_getElem? (i := 360) (by decide +kernel)⟩
theorem lw_p4 : lw_okq (⟨"BorrowedHands$Tape", "readWriter", "(LBorrowedHands$Town;)Z"⟩, 5) := ⟨⟨by decide +kernel, by decide +kernel⟩, List.mem_of_getElem? (i := 126) (by decide +kernel), List.mem_of_getElem? (i := 411) (by decide +kernel), List.mem_of_getElem? (i := 412) (by decide +kernel)⟩
theorem lw_p5 : lw_okq (⟨"BorrowedHands$Tape", "readNumber", "(II)I"⟩, 5) := ⟨⟨by decide +kernel, by decide +kernel⟩, List.mem_of_getElem? (i := 126) (by decide +kernel), List.mem_of_getElem? (i := 415) (by decide +kernel), List.mem_of_getElem? (i := 416) (by decide +kernel)⟩
theorem lw_p6 : lw_okq (⟨"BorrowedHands$Tape", "refuse", "(II)Z"⟩, 5) := ⟨⟨by decide +kernel, by decide +kernel⟩, List.mem_of_getElem? (i := 126) (by decide +kernel), List.mem_of_getElem? (i := 426) (by decide +kernel), List.mem_of_getElem? (i := 427) (by decide +kernel)⟩
theorem lw_p7 : lw_okq (⟨"BorrowedHands$Tape", "readHabit", "(LBorrowedHands$Town;I)Z"⟩, 5) := ⟨⟨by decide +kernel, by decide +kernel⟩, List.mem_of_getElem? (i := 126) (by decide +kernel), List.mem_of_getElem? (i := 438) (by decide +kernel), List.mem_of_getElem? (i := 439) (by decide +kernel)⟩
theorem lw_p8 : lw_okq (⟨"BorrowedHands$Tape", "kindOfWord", "()I"⟩, 5) := ⟨⟨by decide +kernel, by decide +kernel⟩, List.mem_of_getElem? (i := 126) (by decide +kernel), List.mem_of_getElem? (i := 442) (by decide +kernel), List.mem_of_getElem? (i := 443) (by decide +kernel)⟩
theorem lw_p9 : lw_okq (⟨"BorrowedHands$Tape", "readUnder", "(LBorrowedHands$Town;I)Z"⟩, 5) := ⟨⟨by decide +kernel, by decide +kernel⟩, List.mem_of_getElem? (i := 126) (by decide +kernel), List.mem_of_getElem? (i := 460) (by decide +kernel), List.mem_of_getElem? (i := 461) (by decide +kernel)⟩
theorem lw_p10 : lw_okq (⟨"BorrowedHands$Tape", "readBook", "(LBorrowedHands$Town;)Z"⟩, 5) := ⟨⟨by decide +kernel, by decide +kernel⟩, List.mem_of_getElem? (i := 126) (by decide +kernel), List.mem_of_getElem? (i := 466) (by decide +kernel), List.mem_of_getElem? (i := 467) (by decide +kernel)⟩
theorem lw_p11 : lw_okq (⟨"BorrowedHands$Tape", "readSemicolon", "()Z"⟩, 5) := ⟨⟨by decide +kernel, by decide +kernel⟩, List.mem_of_getElem? (i := 126) (by decide +kernel), List.mem_of_getElem? (i := 479) (by decide +kernel), List.mem_of_getElem? (i := 480) (by decide +kernel)⟩
theorem lw_p12 : lw_okq (⟨"BorrowedHands", "remember", "()V"⟩, 16) := ⟨⟨by decide +kernel, by decide +kernel⟩, List.mem_of_getElem? (i := 20) (by decide +kernel), List.mem_of_getElem? (i := 507) (by decide +kernel), List.mem_of_getElem? (i := 508) (by decide +kernel)⟩
theorem lw_p13 : lw_okq (⟨"BorrowedHands", "handsOf", "(I)I"⟩, 16) := ⟨⟨by decide +kernel, by decide +kernel⟩, List.mem_of_getElem? (i := 20) (by decide +kernel), List.mem_of_getElem? (i := 512) (by decide +kernel), List.mem_of_getElem? (i := 513) (by decide +kernel)⟩
theorem lw_p14 : lw_okq (⟨"BorrowedHands$Hands", "listUntilDead", "(LBorrowedHands$Town;II)I"⟩, 2) := ⟨⟨by decide +kernel, by decide +kernel⟩, List.mem_of_getElem? (i := 150) (by decide +kernel), List.mem_of_getElem? (i := 520) (by decide +kernel), List.mem_of_getElem? (i := 521) (by decide +kernel)⟩
theorem lw_p15 : lw_okq (⟨"BorrowedHands", "lineOf", "(III)I"⟩, 16) := ⟨⟨by decide +kernel, by decide +kernel⟩, List.mem_of_getElem? (i := 20) (by decide +kernel), List.mem_of_getElem? (i := 577) (by decide +kernel), List.mem_of_getElem? (i := 578) (by decide +kernel)⟩
def lw_privs_1 : List (MethodName × Nat) := [(⟨"BorrowedHands$Tape", "skipBlanks", "()V"⟩, 5), (⟨"BorrowedHands$Tape", "readPart", "(LBorrowedHands$Town;)Z"⟩, 5), (⟨"BorrowedHands$Tape", "readWord", "()V"⟩, 5), (⟨"BorrowedHands$Tape", "wordIs", "(Ljava/lang/String;)Z"⟩, 5), (⟨"BorrowedHands$Tape", "readWriter", "(LBorrowedHands$Town;)Z"⟩, 5), (⟨"BorrowedHands$Tape", "readNumber", "(II)I"⟩, 5), (⟨"BorrowedHands$Tape", "refuse", "(II)Z"⟩, 5), (⟨"BorrowedHands$Tape", "readHabit", "(LBorrowedHands$Town;I)Z"⟩, 5), (⟨"BorrowedHands$Tape", "kindOfWord", "()I"⟩, 5), (⟨"BorrowedHands$Tape", "readUnder", "(LBorrowedHands$Town;I)Z"⟩, 5), (⟨"BorrowedHands$Tape", "readBook", "(LBorrowedHands$Town;)Z"⟩, 5), (⟨"BorrowedHands$Tape", "readSemicolon", "()Z"⟩, 5), (⟨"BorrowedHands", "remember", "()V"⟩, 16), (⟨"BorrowedHands", "handsOf", "(I)I"⟩, 16), (⟨"BorrowedHands$Hands", "listUntilDead", "(LBorrowedHands$Town;II)I"⟩, 2), (⟨"BorrowedHands", "lineOf", "(III)I"⟩, 16)]
theorem lw_r1 : ∀ q ∈ lw_privs_1, lw_okq q := List.forall_mem_cons.mpr ⟨lw_p0, List.forall_mem_cons.mpr ⟨lw_p1, List.forall_mem_cons.mpr ⟨lw_p2, List.forall_mem_cons.mpr ⟨lw_p3, List.forall_mem_cons.mpr ⟨lw_p4, List.forall_mem_cons.mpr ⟨lw_p5, List.forall_mem_cons.mpr ⟨lw_p6, List.forall_mem_cons.mpr ⟨lw_p7, List.forall_mem_cons.mpr ⟨lw_p8, List.forall_mem_cons.mpr ⟨lw_p9, List.forall_mem_cons.mpr ⟨lw_p10, List.forall_mem_cons.mpr ⟨lw_p11, List.forall_mem_cons.mpr ⟨lw_p12, List.forall_mem_cons.mpr ⟨lw_p13, List.forall_mem_cons.mpr ⟨lw_p14, List.forall_mem_cons.mpr ⟨lw_p15, fun _ h => absurd h List.not_mem_nil⟩⟩⟩⟩⟩⟩⟩⟩⟩⟩⟩⟩⟩⟩⟩⟩
theorem lw_p16 : lw_okq (⟨"BorrowedHands", "lacksLines", "(I)Z"⟩, 16) := ⟨⟨by decide +kernel, by decide +kernel⟩, List.mem_of_getElem? (i := 20) (by decide +kernel), List.mem_of_getElem? (i := 614) (by decide +kernel), List.mem_of_getElem? (i := 615) (by decide +kernel)⟩
theorem lw_p17 : lw_okq (⟨"BorrowedHands", "lowestOf", "(I)I"⟩, 16) := ⟨⟨by decide +kernel, by decide +kernel⟩, List.mem_of_getElem? (i := 20) (by decide +kernel), List.mem_of_getElem? (i := 656) (by decide +kernel), List.mem_of_getElem? (i := 657) (by decide +kernel)⟩
theorem lw_p18 : lw_okq (⟨"BorrowedHands", "followTrail", "(III)Z"⟩, 16) := ⟨⟨by decide +kernel, by decide +kernel⟩, List.mem_of_getElem? (i := 20) (by decide +kernel), List.mem_of_getElem? (i := 687) (by decide +kernel), List.mem_of_getElem? (i := 688) (by decide +kernel)⟩
theorem lw_p19 : lw_okq (⟨"BorrowedHands$Trail", "step", "(LBorrowedHands$Town;II)V"⟩, 3) := ⟨⟨by decide +kernel, by decide +kernel⟩, List.mem_of_getElem? (i := 169) (by decide +kernel), List.mem_of_getElem? (i := 704) (by decide +kernel), List.mem_of_getElem? (i := 705) (by decide +kernel)⟩
theorem lw_p20 : lw_okq (⟨"BorrowedHands$Trail", "put", "(IIIZ)V"⟩, 3) := ⟨⟨by decide +kernel, by decide +kernel⟩, List.mem_of_getElem? (i := 169) (by decide +kernel), List.mem_of_getElem? (i := 711) (by decide +kernel), List.mem_of_getElem? (i := 712) (by decide +kernel)⟩
theorem lw_p21 : lw_okq (⟨"BorrowedHands$Trail", "turn", "([II)V"⟩, 3) := ⟨⟨by decide +kernel, by decide +kernel⟩, List.mem_of_getElem? (i := 169) (by decide +kernel), List.mem_of_getElem? (i := 715) (by decide +kernel), List.mem_of_getElem? (i := 716) (by decide +kernel)⟩
theorem lw_p22 : lw_okq (⟨"BorrowedHands", "passedUp", "(II)I"⟩, 16) := ⟨⟨by decide +kernel, by decide +kernel⟩, List.mem_of_getElem? (i := 20) (by decide +kernel), List.mem_of_getElem? (i := 750) (by decide +kernel), List.mem_of_getElem? (i := 751) (by decide +kernel)⟩
theorem lw_p23 : lw_okq (⟨"BorrowedHands", "lineAt", "(I)I"⟩, 16) := ⟨⟨by decide +kernel, by decide +kernel⟩, List.mem_of_getElem? (i := 20) (by decide +kernel), List.mem_of_getElem? (i := 759) (by decide +kernel), List.mem_of_getElem? (i := 760) (by decide +kernel)⟩
theorem lw_p24 : lw_okq (⟨"BorrowedHands", "seenFitsWriters", "()Z"⟩, 16) := ⟨⟨by decide +kernel, by decide +kernel⟩, List.mem_of_getElem? (i := 20) (by decide +kernel), List.mem_of_getElem? (i := 776) (by decide +kernel), List.mem_of_getElem? (i := 777) (by decide +kernel)⟩
theorem lw_p25 : lw_okq (⟨"BorrowedHands", "choicesBySeen", "(II)I"⟩, 16) := ⟨⟨by decide +kernel, by decide +kernel⟩, List.mem_of_getElem? (i := 20) (by decide +kernel), List.mem_of_getElem? (i := 780) (by decide +kernel), List.mem_of_getElem? (i := 781) (by decide +kernel)⟩
theorem lw_p26 : lw_okq (⟨"BorrowedHands", "countWays", "(III)V"⟩, 16) := ⟨⟨by decide +kernel, by decide +kernel⟩, List.mem_of_getElem? (i := 20) (by decide +kernel), List.mem_of_getElem? (i := 811) (by decide +kernel), List.mem_of_getElem? (i := 812) (by decide +kernel)⟩
theorem lw_p27 : lw_okq (⟨"BorrowedHands", "isSetOfWriters", "(I)Z"⟩, 16) := ⟨⟨by decide +kernel, by decide +kernel⟩, List.mem_of_getElem? (i := 20) (by decide +kernel), List.mem_of_getElem? (i := 820) (by decide +kernel), List.mem_of_getElem? (i := 821) (by decide +kernel)⟩
theorem lw_p28 : lw_okq (⟨"BorrowedHands$Apart", "fillRows", "(LBorrowedHands$Town;LBorrowedHands$Hands;II)V"⟩, 3) := ⟨⟨by decide +kernel, by decide +kernel⟩, List.mem_of_getElem? (i := 235) (by decide +kernel), List.mem_of_getElem? (i := 828) (by decide +kernel), List.mem_of_getElem? (i := 829) (by decide +kernel)⟩
theorem lw_p29 : lw_okq (⟨"BorrowedHands$Apart", "listTwos", "(III)V"⟩, 3) := ⟨⟨by decide +kernel, by decide +kernel⟩, List.mem_of_getElem? (i := 235) (by decide +kernel), List.mem_of_getElem? (i := 833) (by decide +kernel), List.mem_of_getElem? (i := 834) (by decide +kernel)⟩
theorem lw_p30 : lw_okq (⟨"BorrowedHands$Apart", "differingPages", "(III)I"⟩, 3) := ⟨⟨by decide +kernel, by decide +kernel⟩, List.mem_of_getElem? (i := 235) (by decide +kernel), List.mem_of_getElem? (i := 837) (by decide +kernel), List.mem_of_getElem? (i := 838) (by decide +kernel)⟩
theorem lw_p31 : lw_okq (⟨"BorrowedHands$Apart", "allApart", "(I)Z"⟩, 3) := ⟨⟨by decide +kernel, by decide +kernel⟩, List.mem_of_getElem? (i := 235) (by decide +kernel), List.mem_of_getElem? (i := 842) (by decide +kernel), List.mem_of_getElem? (i := 843) (by decide +kernel)⟩
def lw_privs_2 : List (MethodName × Nat) := [(⟨"BorrowedHands", "lacksLines", "(I)Z"⟩, 16), (⟨"BorrowedHands", "lowestOf", "(I)I"⟩, 16), (⟨"BorrowedHands", "followTrail", "(III)Z"⟩, 16), (⟨"BorrowedHands$Trail", "step", "(LBorrowedHands$Town;II)V"⟩, 3), (⟨"BorrowedHands$Trail", "put", "(IIIZ)V"⟩, 3), (⟨"BorrowedHands$Trail", "turn", "([II)V"⟩, 3), (⟨"BorrowedHands", "passedUp", "(II)I"⟩, 16), (⟨"BorrowedHands", "lineAt", "(I)I"⟩, 16), (⟨"BorrowedHands", "seenFitsWriters", "()Z"⟩, 16), (⟨"BorrowedHands", "choicesBySeen", "(II)I"⟩, 16), (⟨"BorrowedHands", "countWays", "(III)V"⟩, 16), (⟨"BorrowedHands", "isSetOfWriters", "(I)Z"⟩, 16), (⟨"BorrowedHands$Apart", "fillRows", "(LBorrowedHands$Town;LBorrowedHands$Hands;II)V"⟩, 3), (⟨"BorrowedHands$Apart", "listTwos", "(III)V"⟩, 3), (⟨"BorrowedHands$Apart", "differingPages", "(III)I"⟩, 3), (⟨"BorrowedHands$Apart", "allApart", "(I)Z"⟩, 3)]
theorem lw_r2 : ∀ q ∈ lw_privs_2, lw_okq q := List.forall_mem_cons.mpr ⟨lw_p16, List.forall_mem_cons.mpr ⟨lw_p17, List.forall_mem_cons.mpr ⟨lw_p18, List.forall_mem_cons.mpr ⟨lw_p19, List.forall_mem_cons.mpr ⟨lw_p20, List.forall_mem_cons.mpr ⟨lw_p21, List.forall_mem_cons.mpr ⟨lw_p22, List.forall_mem_cons.mpr ⟨lw_p23, List.forall_mem_cons.mpr ⟨lw_p24, List.forall_mem_cons.mpr ⟨lw_p25, List.forall_mem_cons.mpr ⟨lw_p26, List.forall_mem_cons.mpr ⟨lw_p27, List.forall_mem_cons.mpr ⟨lw_p28, List.forall_mem_cons.mpr ⟨lw_p29, List.forall_mem_cons.mpr ⟨lw_p30, List.forall_mem_cons.mpr ⟨lw_p31, fun _ h => absurd h List.not_mem_nil⟩⟩⟩⟩⟩⟩⟩⟩⟩⟩⟩⟩⟩⟩⟩⟩
theorem lw_p32 : lw_okq (⟨"BorrowedHands$Slipping", "findDemand", "(LBorrowedHands$Town;LBorrowedHands$Hands;II)Z"⟩, 7) := ⟨⟨by decide +kernel, by decide +kernel⟩, List.mem_of_getElem? (i := 187) (by decide +kernel), List.mem_of_getElem? (i := 855) (by decide +kernel), List.mem_of_getElem? (i := 856) (by decide +kernel)⟩
theorem lw_p33 : lw_okq (⟨"BorrowedHands$Slipping", "tryHabits", "(LBorrowedHands$Town;II)V"⟩, 7) := ⟨⟨by decide +kernel, by decide +kernel⟩, List.mem_of_getElem? (i := 187) (by decide +kernel), List.mem_of_getElem? (i := 860) (by decide +kernel), List.mem_of_getElem? (i := 861) (by decide +kernel)⟩
theorem lw_p34 : lw_okq (⟨"BorrowedHands$Slipping", "tryOne", "(IIIII)V"⟩, 7) := ⟨⟨by decide +kernel, by decide +kernel⟩, List.mem_of_getElem? (i := 187) (by decide +kernel), List.mem_of_getElem? (i := 867) (by decide +kernel), List.mem_of_getElem? (i := 868) (by decide +kernel)⟩
theorem lw_p35 : lw_okq (⟨"BorrowedHands$Mistakes", "isFirstOfItsLike", "(I)Z"⟩, 2) := ⟨⟨by decide +kernel, by decide +kernel⟩, List.mem_of_getElem? (i := 251) (by decide +kernel), List.mem_of_getElem? (i := 903) (by decide +kernel), List.mem_of_getElem? (i := 904) (by decide +kernel)⟩
theorem lw_p36 : lw_okq (⟨"BorrowedHands$Mistakes", "longestWithin", "(I)I"⟩, 2) := ⟨⟨by decide +kernel, by decide +kernel⟩, List.mem_of_getElem? (i := 251) (by decide +kernel), List.mem_of_getElem? (i := 912) (by decide +kernel), List.mem_of_getElem? (i := 913) (by decide +kernel)⟩
theorem lw_p37 : lw_okq (⟨"BorrowedHands", "sendDown", "(I)I"⟩, 16) := ⟨⟨by decide +kernel, by decide +kernel⟩, List.mem_of_getElem? (i := 20) (by decide +kernel), List.mem_of_getElem? (i := 932) (by decide +kernel), List.mem_of_getElem? (i := 933) (by decide +kernel)⟩
theorem lw_p38 : lw_okq (⟨"BorrowedHands", "mostHands", "()I"⟩, 16) := ⟨⟨by decide +kernel, by decide +kernel⟩, List.mem_of_getElem? (i := 20) (by decide +kernel), List.mem_of_getElem? (i := 948) (by decide +kernel), List.mem_of_getElem? (i := 949) (by decide +kernel)⟩
theorem lw_p39 : lw_okq (⟨"BorrowedHandsModel", "puts", "(I)V"⟩, 33) := ⟨⟨by decide +kernel, by decide +kernel⟩, List.mem_of_getElem? (i := 957) (by decide +kernel), List.mem_of_getElem? (i := 1068) (by decide +kernel), List.mem_of_getElem? (i := 1069) (by decide +kernel)⟩
theorem lw_p40 : lw_okq (⟨"BorrowedHandsModel", "next", "()I"⟩, 33) := ⟨⟨by decide +kernel, by decide +kernel⟩, List.mem_of_getElem? (i := 957) (by decide +kernel), List.mem_of_getElem? (i := 1080) (by decide +kernel), List.mem_of_getElem? (i := 1081) (by decide +kernel)⟩
theorem lw_p41 : lw_okq (⟨"BorrowedHandsModel", "sign", "()I"⟩, 33) := ⟨⟨by decide +kernel, by decide +kernel⟩, List.mem_of_getElem? (i := 957) (by decide +kernel), List.mem_of_getElem? (i := 1084) (by decide +kernel), List.mem_of_getElem? (i := 1085) (by decide +kernel)⟩
theorem lw_p42 : lw_okq (⟨"BorrowedHandsModel", "readsPart", "()V"⟩, 33) := ⟨⟨by decide +kernel, by decide +kernel⟩, List.mem_of_getElem? (i := 957) (by decide +kernel), List.mem_of_getElem? (i := 1088) (by decide +kernel), List.mem_of_getElem? (i := 1089) (by decide +kernel)⟩
theorem lw_p43 : lw_okq (⟨"BorrowedHandsModel", "takes", "(Ljava/lang/String;)Z"⟩, 33) := ⟨⟨by decide +kernel, by decide +kernel⟩, List.mem_of_getElem? (i := 957) (by decide +kernel), List.mem_of_getElem? (i := 1093) (by decide +kernel), List.mem_of_getElem? (i := 1094) (by decide +kernel)⟩
theorem lw_p44 : lw_okq (⟨"BorrowedHandsModel", "isRight", "()Z"⟩, 33) := ⟨⟨by decide +kernel, by decide +kernel⟩, List.mem_of_getElem? (i := 957) (by decide +kernel), List.mem_of_getElem? (i := 1097) (by decide +kernel), List.mem_of_getElem? (i := 1098) (by decide +kernel)⟩
theorem lw_p45 : lw_okq (⟨"BorrowedHandsModel", "isWord", "(Ljava/lang/String;)Z"⟩, 33) := ⟨⟨by decide +kernel, by decide +kernel⟩, List.mem_of_getElem? (i := 957) (by decide +kernel), List.mem_of_getElem? (i := 1101) (by decide +kernel), List.mem_of_getElem? (i := 1102) (by decide +kernel)⟩
theorem lw_p46 : lw_okq (⟨"BorrowedHandsModel", "readsWriter", "(I)V"⟩, 33) := ⟨⟨by decide +kernel, by decide +kernel⟩, List.mem_of_getElem? (i := 957) (by decide +kernel), List.mem_of_getElem? (i := 1112) (by decide +kernel), List.mem_of_getElem? (i := 1113) (by decide +kernel)⟩
theorem lw_p47 : lw_okq (⟨"BorrowedHandsModel", "fails", "(II)V"⟩, 33) := ⟨⟨by decide +kernel, by decide +kernel⟩, List.mem_of_getElem? (i := 957) (by decide +kernel), List.mem_of_getElem? (i := 1116) (by decide +kernel), List.mem_of_getElem? (i := 1117) (by decide +kernel)⟩
def lw_privs_3 : List (MethodName × Nat) := [(⟨"BorrowedHands$Slipping", "findDemand", "(LBorrowedHands$Town;LBorrowedHands$Hands;II)Z"⟩, 7), (⟨"BorrowedHands$Slipping", "tryHabits", "(LBorrowedHands$Town;II)V"⟩, 7), (⟨"BorrowedHands$Slipping", "tryOne", "(IIIII)V"⟩, 7), (⟨"BorrowedHands$Mistakes", "isFirstOfItsLike", "(I)Z"⟩, 2), (⟨"BorrowedHands$Mistakes", "longestWithin", "(I)I"⟩, 2), (⟨"BorrowedHands", "sendDown", "(I)I"⟩, 16), (⟨"BorrowedHands", "mostHands", "()I"⟩, 16), (⟨"BorrowedHandsModel", "puts", "(I)V"⟩, 33), (⟨"BorrowedHandsModel", "next", "()I"⟩, 33), (⟨"BorrowedHandsModel", "sign", "()I"⟩, 33), (⟨"BorrowedHandsModel", "readsPart", "()V"⟩, 33), (⟨"BorrowedHandsModel", "takes", "(Ljava/lang/String;)Z"⟩, 33), (⟨"BorrowedHandsModel", "isRight", "()Z"⟩, 33), (⟨"BorrowedHandsModel", "isWord", "(Ljava/lang/String;)Z"⟩, 33), (⟨"BorrowedHandsModel", "readsWriter", "(I)V"⟩, 33), (⟨"BorrowedHandsModel", "fails", "(II)V"⟩, 33)]
theorem lw_r3 : ∀ q ∈ lw_privs_3, lw_okq q := List.forall_mem_cons.mpr ⟨lw_p32, List.forall_mem_cons.mpr ⟨lw_p33, List.forall_mem_cons.mpr ⟨lw_p34, List.forall_mem_cons.mpr ⟨lw_p35, List.forall_mem_cons.mpr ⟨lw_p36, List.forall_mem_cons.mpr ⟨lw_p37, List.forall_mem_cons.mpr ⟨lw_p38, List.forall_mem_cons.mpr ⟨lw_p39, List.forall_mem_cons.mpr ⟨lw_p40, List.forall_mem_cons.mpr ⟨lw_p41, List.forall_mem_cons.mpr ⟨lw_p42, List.forall_mem_cons.mpr ⟨lw_p43, List.forall_mem_cons.mpr ⟨lw_p44, List.forall_mem_cons.mpr ⟨lw_p45, List.forall_mem_cons.mpr ⟨lw_p46, List.forall_mem_cons.mpr ⟨lw_p47, fun _ h => absurd h List.not_mem_nil⟩⟩⟩⟩⟩⟩⟩⟩⟩⟩⟩⟩⟩⟩⟩⟩
theorem lw_p48 : lw_okq (⟨"BorrowedHandsModel", "number", "(II)I"⟩, 33) := ⟨⟨by decide +kernel, by decide +kernel⟩, List.mem_of_getElem? (i := 957) (by decide +kernel), List.mem_of_getElem? (i := 1120) (by decide +kernel), List.mem_of_getElem? (i := 1121) (by decide +kernel)⟩
theorem lw_p49 : lw_okq (⟨"BorrowedHandsModel", "isDigit", "()Z"⟩, 33) := ⟨⟨by decide +kernel, by decide +kernel⟩, List.mem_of_getElem? (i := 957) (by decide +kernel), List.mem_of_getElem? (i := 1124) (by decide +kernel), List.mem_of_getElem? (i := 1125) (by decide +kernel)⟩
theorem lw_p50 : lw_okq (⟨"BorrowedHandsModel", "readsHabit", "(I)V"⟩, 33) := ⟨⟨by decide +kernel, by decide +kernel⟩, List.mem_of_getElem? (i := 957) (by decide +kernel), List.mem_of_getElem? (i := 1132) (by decide +kernel), List.mem_of_getElem? (i := 1133) (by decide +kernel)⟩
theorem lw_p51 : lw_okq (⟨"BorrowedHandsModel", "kindTold", "()I"⟩, 33) := ⟨⟨by decide +kernel, by decide +kernel⟩, List.mem_of_getElem? (i := 957) (by decide +kernel), List.mem_of_getElem? (i := 1136) (by decide +kernel), List.mem_of_getElem? (i := 1137) (by decide +kernel)⟩
theorem lw_p52 : lw_okq (⟨"BorrowedHandsModel", "readsBook", "(I)V"⟩, 33) := ⟨⟨by decide +kernel, by decide +kernel⟩, List.mem_of_getElem? (i := 957) (by decide +kernel), List.mem_of_getElem? (i := 1152) (by decide +kernel), List.mem_of_getElem? (i := 1153) (by decide +kernel)⟩
theorem lw_p53 : lw_okq (⟨"BorrowedHandsModel", "isWriter", "(I)Z"⟩, 33) := ⟨⟨by decide +kernel, by decide +kernel⟩, List.mem_of_getElem? (i := 957) (by decide +kernel), List.mem_of_getElem? (i := 1179) (by decide +kernel), List.mem_of_getElem? (i := 1180) (by decide +kernel)⟩
theorem lw_p54 : lw_okq (⟨"BorrowedHandsModel", "isDead", "(I)Z"⟩, 33) := ⟨⟨by decide +kernel, by decide +kernel⟩, List.mem_of_getElem? (i := 957) (by decide +kernel), List.mem_of_getElem? (i := 1183) (by decide +kernel), List.mem_of_getElem? (i := 1184) (by decide +kernel)⟩
theorem lw_p55 : lw_okq (⟨"BorrowedHandsModel", "of", "(II)I"⟩, 33) := ⟨⟨by decide +kernel, by decide +kernel⟩, List.mem_of_getElem? (i := 957) (by decide +kernel), List.mem_of_getElem? (i := 1187) (by decide +kernel), List.mem_of_getElem? (i := 1188) (by decide +kernel)⟩
theorem lw_p56 : lw_okq (⟨"BorrowedHandsModel", "under", "(I)I"⟩, 33) := ⟨⟨by decide +kernel, by decide +kernel⟩, List.mem_of_getElem? (i := 957) (by decide +kernel), List.mem_of_getElem? (i := 1191) (by decide +kernel), List.mem_of_getElem? (i := 1192) (by decide +kernel)⟩
theorem lw_p57 : lw_okq (⟨"BorrowedHandsModel", "keepsPast", "()V"⟩, 33) := ⟨⟨by decide +kernel, by decide +kernel⟩, List.mem_of_getElem? (i := 957) (by decide +kernel), List.mem_of_getElem? (i := 1195) (by decide +kernel), List.mem_of_getElem? (i := 1196) (by decide +kernel)⟩
theorem lw_p58 : lw_okq (⟨"BorrowedHandsModel", "puts", "(III)V"⟩, 33) := ⟨⟨by decide +kernel, by decide +kernel⟩, List.mem_of_getElem? (i := 957) (by decide +kernel), List.mem_of_getElem? (i := 1199) (by decide +kernel), List.mem_of_getElem? (i := 1200) (by decide +kernel)⟩
theorem lw_p59 : lw_okq (⟨"BorrowedHandsModel", "hands", "(I)I"⟩, 33) := ⟨⟨by decide +kernel, by decide +kernel⟩, List.mem_of_getElem? (i := 957) (by decide +kernel), List.mem_of_getElem? (i := 1203) (by decide +kernel), List.mem_of_getElem? (i := 1204) (by decide +kernel)⟩
theorem lw_p60 : lw_okq (⟨"BorrowedHandsModel", "hasHabit", "(IIII)Z"⟩, 33) := ⟨⟨by decide +kernel, by decide +kernel⟩, List.mem_of_getElem? (i := 957) (by decide +kernel), List.mem_of_getElem? (i := 1220) (by decide +kernel), List.mem_of_getElem? (i := 1221) (by decide +kernel)⟩
theorem lw_p61 : lw_okq (⟨"BorrowedHandsModel", "learns", "(IIII)V"⟩, 33) := ⟨⟨by decide +kernel, by decide +kernel⟩, List.mem_of_getElem? (i := 957) (by decide +kernel), List.mem_of_getElem? (i := 1224) (by decide +kernel), List.mem_of_getElem? (i := 1225) (by decide +kernel)⟩
theorem lw_p62 : lw_okq (⟨"BorrowedHandsModel", "goesDown", "(IIIZ)I"⟩, 33) := ⟨⟨by decide +kernel, by decide +kernel⟩, List.mem_of_getElem? (i := 957) (by decide +kernel), List.mem_of_getElem? (i := 1233) (by decide +kernel), List.mem_of_getElem? (i := 1234) (by decide +kernel)⟩
theorem lw_p63 : lw_okq (⟨"BorrowedHandsModel", "moods", "()I"⟩, 33) := ⟨⟨by decide +kernel, by decide +kernel⟩, List.mem_of_getElem? (i := 957) (by decide +kernel), List.mem_of_getElem? (i := 1250) (by decide +kernel), List.mem_of_getElem? (i := 1251) (by decide +kernel)⟩
def lw_privs_4 : List (MethodName × Nat) := [(⟨"BorrowedHandsModel", "number", "(II)I"⟩, 33), (⟨"BorrowedHandsModel", "isDigit", "()Z"⟩, 33), (⟨"BorrowedHandsModel", "readsHabit", "(I)V"⟩, 33), (⟨"BorrowedHandsModel", "kindTold", "()I"⟩, 33), (⟨"BorrowedHandsModel", "readsBook", "(I)V"⟩, 33), (⟨"BorrowedHandsModel", "isWriter", "(I)Z"⟩, 33), (⟨"BorrowedHandsModel", "isDead", "(I)Z"⟩, 33), (⟨"BorrowedHandsModel", "of", "(II)I"⟩, 33), (⟨"BorrowedHandsModel", "under", "(I)I"⟩, 33), (⟨"BorrowedHandsModel", "keepsPast", "()V"⟩, 33), (⟨"BorrowedHandsModel", "puts", "(III)V"⟩, 33), (⟨"BorrowedHandsModel", "hands", "(I)I"⟩, 33), (⟨"BorrowedHandsModel", "hasHabit", "(IIII)Z"⟩, 33), (⟨"BorrowedHandsModel", "learns", "(IIII)V"⟩, 33), (⟨"BorrowedHandsModel", "goesDown", "(IIIZ)I"⟩, 33), (⟨"BorrowedHandsModel", "moods", "()I"⟩, 33)]
theorem lw_r4 : ∀ q ∈ lw_privs_4, lw_okq q := List.forall_mem_cons.mpr ⟨lw_p48, List.forall_mem_cons.mpr ⟨lw_p49, List.forall_mem_cons.mpr ⟨lw_p50, List.forall_mem_cons.mpr ⟨lw_p51, List.forall_mem_cons.mpr ⟨lw_p52, List.forall_mem_cons.mpr ⟨lw_p53, List.forall_mem_cons.mpr ⟨lw_p54, List.forall_mem_cons.mpr ⟨lw_p55, List.forall_mem_cons.mpr ⟨lw_p56, List.forall_mem_cons.mpr ⟨lw_p57, List.forall_mem_cons.mpr ⟨lw_p58, List.forall_mem_cons.mpr ⟨lw_p59, List.forall_mem_cons.mpr ⟨lw_p60, List.forall_mem_cons.mpr ⟨lw_p61, List.forall_mem_cons.mpr ⟨lw_p62, List.forall_mem_cons.mpr ⟨lw_p63, fun _ h => absurd h List.not_mem_nil⟩⟩⟩⟩⟩⟩⟩⟩⟩⟩⟩⟩⟩⟩⟩⟩
theorem lw_p64 : lw_okq (⟨"BorrowedHandsModel", "isBook", "(I)Z"⟩, 33) := ⟨⟨by decide +kernel, by decide +kernel⟩, List.mem_of_getElem? (i := 957) (by decide +kernel), List.mem_of_getElem? (i := 1258) (by decide +kernel), List.mem_of_getElem? (i := 1259) (by decide +kernel)⟩
theorem lw_p65 : lw_okq (⟨"BorrowedHandsModel", "hasAll", "(II)Z"⟩, 33) := ⟨⟨by decide +kernel, by decide +kernel⟩, List.mem_of_getElem? (i := 957) (by decide +kernel), List.mem_of_getElem? (i := 1262) (by decide +kernel), List.mem_of_getElem? (i := 1263) (by decide +kernel)⟩
theorem lw_p66 : lw_okq (⟨"BorrowedHandsModel", "pagesOf", "(I)I"⟩, 33) := ⟨⟨by decide +kernel, by decide +kernel⟩, List.mem_of_getElem? (i := 957) (by decide +kernel), List.mem_of_getElem? (i := 1266) (by decide +kernel), List.mem_of_getElem? (i := 1267) (by decide +kernel)⟩
theorem lw_p67 : lw_okq (⟨"BorrowedHandsModel", "lineOf", "(III)I"⟩, 33) := ⟨⟨by decide +kernel, by decide +kernel⟩, List.mem_of_getElem? (i := 957) (by decide +kernel), List.mem_of_getElem? (i := 1270) (by decide +kernel), List.mem_of_getElem? (i := 1271) (by decide +kernel)⟩
theorem lw_p68 : lw_okq (⟨"BorrowedHandsModel", "pageOf", "(II)I"⟩, 33) := ⟨⟨by decide +kernel, by decide +kernel⟩, List.mem_of_getElem? (i := 957) (by decide +kernel), List.mem_of_getElem? (i := 1274) (by decide +kernel), List.mem_of_getElem? (i := 1275) (by decide +kernel)⟩
theorem lw_p69 : lw_okq (⟨"BorrowedHandsModel", "hasStock", "(II)Z"⟩, 33) := ⟨⟨by decide +kernel, by decide +kernel⟩, List.mem_of_getElem? (i := 957) (by decide +kernel), List.mem_of_getElem? (i := 1278) (by decide +kernel), List.mem_of_getElem? (i := 1279) (by decide +kernel)⟩
theorem lw_p70 : lw_okq (⟨"BorrowedHandsModel", "passes", "(II)I"⟩, 33) := ⟨⟨by decide +kernel, by decide +kernel⟩, List.mem_of_getElem? (i := 957) (by decide +kernel), List.mem_of_getElem? (i := 1288) (by decide +kernel), List.mem_of_getElem? (i := 1289) (by decide +kernel)⟩
theorem lw_p71 : lw_okq (⟨"BorrowedHandsModel", "habit", "(II)I"⟩, 33) := ⟨⟨by decide +kernel, by decide +kernel⟩, List.mem_of_getElem? (i := 957) (by decide +kernel), List.mem_of_getElem? (i := 1292) (by decide +kernel), List.mem_of_getElem? (i := 1293) (by decide +kernel)⟩
theorem lw_p72 : lw_okq (⟨"BorrowedHandsModel", "overWhom", "(I)I"⟩, 33) := ⟨⟨by decide +kernel, by decide +kernel⟩, List.mem_of_getElem? (i := 957) (by decide +kernel), List.mem_of_getElem? (i := 1320) (by decide +kernel), List.mem_of_getElem? (i := 1321) (by decide +kernel)⟩
theorem lw_p73 : lw_okq (⟨"BorrowedHandsModel", "isPage", "(II)Z"⟩, 33) := ⟨⟨by decide +kernel, by decide +kernel⟩, List.mem_of_getElem? (i := 957) (by decide +kernel), List.mem_of_getElem? (i := 1328) (by decide +kernel), List.mem_of_getElem? (i := 1329) (by decide +kernel)⟩
theorem lw_p74 : lw_okq (⟨"BorrowedHandsModel", "isAnyDead", "(I)Z"⟩, 33) := ⟨⟨by decide +kernel, by decide +kernel⟩, List.mem_of_getElem? (i := 957) (by decide +kernel), List.mem_of_getElem? (i := 1340) (by decide +kernel), List.mem_of_getElem? (i := 1341) (by decide +kernel)⟩
theorem lw_p75 : lw_okq (⟨"BorrowedHandsModel", "laysTrace", "(III)V"⟩, 33) := ⟨⟨by decide +kernel, by decide +kernel⟩, List.mem_of_getElem? (i := 957) (by decide +kernel), List.mem_of_getElem? (i := 1344) (by decide +kernel), List.mem_of_getElem? (i := 1345) (by decide +kernel)⟩
theorem lw_p76 : lw_okq (⟨"BorrowedHandsModel", "traces", "(III)V"⟩, 33) := ⟨⟨by decide +kernel, by decide +kernel⟩, List.mem_of_getElem? (i := 957) (by decide +kernel), List.mem_of_getElem? (i := 1348) (by decide +kernel), List.mem_of_getElem? (i := 1349) (by decide +kernel)⟩
theorem lw_p77 : lw_okq (⟨"BorrowedHandsModel", "brings", "(II)V"⟩, 33) := ⟨⟨by decide +kernel, by decide +kernel⟩, List.mem_of_getElem? (i := 957) (by decide +kernel), List.mem_of_getElem? (i := 1352) (by decide +kernel), List.mem_of_getElem? (i := 1353) (by decide +kernel)⟩
theorem lw_p78 : lw_okq (⟨"BorrowedHandsModel", "laysSource", "(I)V"⟩, 33) := ⟨⟨by decide +kernel, by decide +kernel⟩, List.mem_of_getElem? (i := 957) (by decide +kernel), List.mem_of_getElem? (i := 1368) (by decide +kernel), List.mem_of_getElem? (i := 1369) (by decide +kernel)⟩
theorem lw_p79 : lw_okq (⟨"BorrowedHandsModel", "leads", "(III)V"⟩, 33) := ⟨⟨by decide +kernel, by decide +kernel⟩, List.mem_of_getElem? (i := 957) (by decide +kernel), List.mem_of_getElem? (i := 1372) (by decide +kernel), List.mem_of_getElem? (i := 1373) (by decide +kernel)⟩
def lw_privs_5 : List (MethodName × Nat) := [(⟨"BorrowedHandsModel", "isBook", "(I)Z"⟩, 33), (⟨"BorrowedHandsModel", "hasAll", "(II)Z"⟩, 33), (⟨"BorrowedHandsModel", "pagesOf", "(I)I"⟩, 33), (⟨"BorrowedHandsModel", "lineOf", "(III)I"⟩, 33), (⟨"BorrowedHandsModel", "pageOf", "(II)I"⟩, 33), (⟨"BorrowedHandsModel", "hasStock", "(II)Z"⟩, 33), (⟨"BorrowedHandsModel", "passes", "(II)I"⟩, 33), (⟨"BorrowedHandsModel", "habit", "(II)I"⟩, 33), (⟨"BorrowedHandsModel", "overWhom", "(I)I"⟩, 33), (⟨"BorrowedHandsModel", "isPage", "(II)Z"⟩, 33), (⟨"BorrowedHandsModel", "isAnyDead", "(I)Z"⟩, 33), (⟨"BorrowedHandsModel", "laysTrace", "(III)V"⟩, 33), (⟨"BorrowedHandsModel", "traces", "(III)V"⟩, 33), (⟨"BorrowedHandsModel", "brings", "(II)V"⟩, 33), (⟨"BorrowedHandsModel", "laysSource", "(I)V"⟩, 33), (⟨"BorrowedHandsModel", "leads", "(III)V"⟩, 33)]
theorem lw_r5 : ∀ q ∈ lw_privs_5, lw_okq q := List.forall_mem_cons.mpr ⟨lw_p64, List.forall_mem_cons.mpr ⟨lw_p65, List.forall_mem_cons.mpr ⟨lw_p66, List.forall_mem_cons.mpr ⟨lw_p67, List.forall_mem_cons.mpr ⟨lw_p68, List.forall_mem_cons.mpr ⟨lw_p69, List.forall_mem_cons.mpr ⟨lw_p70, List.forall_mem_cons.mpr ⟨lw_p71, List.forall_mem_cons.mpr ⟨lw_p72, List.forall_mem_cons.mpr ⟨lw_p73, List.forall_mem_cons.mpr ⟨lw_p74, List.forall_mem_cons.mpr ⟨lw_p75, List.forall_mem_cons.mpr ⟨lw_p76, List.forall_mem_cons.mpr ⟨lw_p77, List.forall_mem_cons.mpr ⟨lw_p78, List.forall_mem_cons.mpr ⟨lw_p79, fun _ h => absurd h List.not_mem_nil⟩⟩⟩⟩⟩⟩⟩⟩⟩⟩⟩⟩⟩⟩⟩⟩
theorem lw_p80 : lw_okq (⟨"BorrowedHandsModel", "canTree", "(II)Z"⟩, 33) := ⟨⟨by decide +kernel, by decide +kernel⟩, List.mem_of_getElem? (i := 957) (by decide +kernel), List.mem_of_getElem? (i := 1394) (by decide +kernel), List.mem_of_getElem? (i := 1395) (by decide +kernel)⟩
theorem lw_p81 : lw_okq (⟨"BorrowedHandsModel", "choices", "(III)I"⟩, 33) := ⟨⟨by decide +kernel, by decide +kernel⟩, List.mem_of_getElem? (i := 957) (by decide +kernel), List.mem_of_getElem? (i := 1398) (by decide +kernel), List.mem_of_getElem? (i := 1399) (by decide +kernel)⟩
theorem lw_p82 : lw_okq (⟨"BorrowedHandsModel", "seen", "(I)I"⟩, 33) := ⟨⟨by decide +kernel, by decide +kernel⟩, List.mem_of_getElem? (i := 957) (by decide +kernel), List.mem_of_getElem? (i := 1402) (by decide +kernel), List.mem_of_getElem? (i := 1403) (by decide +kernel)⟩
theorem lw_p83 : lw_okq (⟨"BorrowedHandsModel", "canBreak", "(II)Z"⟩, 33) := ⟨⟨by decide +kernel, by decide +kernel⟩, List.mem_of_getElem? (i := 957) (by decide +kernel), List.mem_of_getElem? (i := 1414) (by decide +kernel), List.mem_of_getElem? (i := 1415) (by decide +kernel)⟩
theorem lw_p84 : lw_okq (⟨"BorrowedHandsModel", "stretches", "(II)I"⟩, 33) := ⟨⟨by decide +kernel, by decide +kernel⟩, List.mem_of_getElem? (i := 957) (by decide +kernel), List.mem_of_getElem? (i := 1418) (by decide +kernel), List.mem_of_getElem? (i := 1419) (by decide +kernel)⟩
theorem lw_p85 : lw_okq (⟨"BorrowedHandsModel", "couldBe", "(III)I"⟩, 33) := ⟨⟨by decide +kernel, by decide +kernel⟩, List.mem_of_getElem? (i := 957) (by decide +kernel), List.mem_of_getElem? (i := 1422) (by decide +kernel), List.mem_of_getElem? (i := 1423) (by decide +kernel)⟩
theorem lw_p86 : lw_okq (⟨"BorrowedHandsModel", "isSet", "(I)Z"⟩, 33) := ⟨⟨by decide +kernel, by decide +kernel⟩, List.mem_of_getElem? (i := 957) (by decide +kernel), List.mem_of_getElem? (i := 1439) (by decide +kernel), List.mem_of_getElem? (i := 1440) (by decide +kernel)⟩
theorem lw_p87 : lw_okq (⟨"BorrowedHandsModel", "laysApart", "(II)I"⟩, 33) := ⟨⟨by decide +kernel, by decide +kernel⟩, List.mem_of_getElem? (i := 957) (by decide +kernel), List.mem_of_getElem? (i := 1443) (by decide +kernel), List.mem_of_getElem? (i := 1444) (by decide +kernel)⟩
theorem lw_p88 : lw_okq (⟨"BorrowedHandsModel", "unlikeOn", "(III)I"⟩, 33) := ⟨⟨by decide +kernel, by decide +kernel⟩, List.mem_of_getElem? (i := 957) (by decide +kernel), List.mem_of_getElem? (i := 1447) (by decide +kernel), List.mem_of_getElem? (i := 1448) (by decide +kernel)⟩
theorem lw_p89 : lw_okq (⟨"BorrowedHandsModel", "slipsBy", "(IIIII)V"⟩, 33) := ⟨⟨by decide +kernel, by decide +kernel⟩, List.mem_of_getElem? (i := 957) (by decide +kernel), List.mem_of_getElem? (i := 1456) (by decide +kernel), List.mem_of_getElem? (i := 1457) (by decide +kernel)⟩
theorem lw_p90 : lw_okq (⟨"BorrowedHandsModel", "lineWith", "(IIIIII)I"⟩, 33) := ⟨⟨by decide +kernel, by decide +kernel⟩, List.mem_of_getElem? (i := 957) (by decide +kernel), List.mem_of_getElem? (i := 1460) (by decide +kernel), List.mem_of_getElem? (i := 1461) (by decide +kernel)⟩
theorem lw_p91 : lw_okq (⟨"BorrowedHandsModel", "errorsOf", "(III)I"⟩, 33) := ⟨⟨by decide +kernel, by decide +kernel⟩, List.mem_of_getElem? (i := 957) (by decide +kernel), List.mem_of_getElem? (i := 1468) (by decide +kernel), List.mem_of_getElem? (i := 1469) (by decide +kernel)⟩
theorem lw_p92 : lw_okq (⟨"BorrowedHandsModel", "clashes", "()I"⟩, 33) := ⟨⟨by decide +kernel, by decide +kernel⟩, List.mem_of_getElem? (i := 957) (by decide +kernel), List.mem_of_getElem? (i := 1477) (by decide +kernel), List.mem_of_getElem? (i := 1478) (by decide +kernel)⟩
theorem lw_p93 : lw_okq (⟨"BorrowedHandsModel", "laysUnlike", "()I"⟩, 33) := ⟨⟨by decide +kernel, by decide +kernel⟩, List.mem_of_getElem? (i := 957) (by decide +kernel), List.mem_of_getElem? (i := 1484) (by decide +kernel), List.mem_of_getElem? (i := 1485) (by decide +kernel)⟩
theorem lw_p94 : lw_okq (⟨"BorrowedHandsModel", "longestRow", "(I)I"⟩, 33) := ⟨⟨by decide +kernel, by decide +kernel⟩, List.mem_of_getElem? (i := 957) (by decide +kernel), List.mem_of_getElem? (i := 1488) (by decide +kernel), List.mem_of_getElem? (i := 1489) (by decide +kernel)⟩
theorem lw_p95 : lw_okq (⟨"BorrowedHandsModel", "handsSet", "(I)I"⟩, 33) := ⟨⟨by decide +kernel, by decide +kernel⟩, List.mem_of_getElem? (i := 957) (by decide +kernel), List.mem_of_getElem? (i := 1497) (by decide +kernel), List.mem_of_getElem? (i := 1498) (by decide +kernel)⟩
def lw_privs_6 : List (MethodName × Nat) := [(⟨"BorrowedHandsModel", "canTree", "(II)Z"⟩, 33), (⟨"BorrowedHandsModel", "choices", "(III)I"⟩, 33), (⟨"BorrowedHandsModel", "seen", "(I)I"⟩, 33), (⟨"BorrowedHandsModel", "canBreak", "(II)Z"⟩, 33), (⟨"BorrowedHandsModel", "stretches", "(II)I"⟩, 33), (⟨"BorrowedHandsModel", "couldBe", "(III)I"⟩, 33), (⟨"BorrowedHandsModel", "isSet", "(I)Z"⟩, 33), (⟨"BorrowedHandsModel", "laysApart", "(II)I"⟩, 33), (⟨"BorrowedHandsModel", "unlikeOn", "(III)I"⟩, 33), (⟨"BorrowedHandsModel", "slipsBy", "(IIIII)V"⟩, 33), (⟨"BorrowedHandsModel", "lineWith", "(IIIIII)I"⟩, 33), (⟨"BorrowedHandsModel", "errorsOf", "(III)I"⟩, 33), (⟨"BorrowedHandsModel", "clashes", "()I"⟩, 33), (⟨"BorrowedHandsModel", "laysUnlike", "()I"⟩, 33), (⟨"BorrowedHandsModel", "longestRow", "(I)I"⟩, 33), (⟨"BorrowedHandsModel", "handsSet", "(I)I"⟩, 33)]
theorem lw_r6 : ∀ q ∈ lw_privs_6, lw_okq q := List.forall_mem_cons.mpr ⟨lw_p80, List.forall_mem_cons.mpr ⟨lw_p81, List.forall_mem_cons.mpr ⟨lw_p82, List.forall_mem_cons.mpr ⟨lw_p83, List.forall_mem_cons.mpr ⟨lw_p84, List.forall_mem_cons.mpr ⟨lw_p85, List.forall_mem_cons.mpr ⟨lw_p86, List.forall_mem_cons.mpr ⟨lw_p87, List.forall_mem_cons.mpr ⟨lw_p88, List.forall_mem_cons.mpr ⟨lw_p89, List.forall_mem_cons.mpr ⟨lw_p90, List.forall_mem_cons.mpr ⟨lw_p91, List.forall_mem_cons.mpr ⟨lw_p92, List.forall_mem_cons.mpr ⟨lw_p93, List.forall_mem_cons.mpr ⟨lw_p94, List.forall_mem_cons.mpr ⟨lw_p95, fun _ h => absurd h List.not_mem_nil⟩⟩⟩⟩⟩⟩⟩⟩⟩⟩⟩⟩⟩⟩⟩⟩
theorem lw_p96 : lw_okq (⟨"BorrowedHandsModel", "makes", "(III)I"⟩, 33) := ⟨⟨by decide +kernel, by decide +kernel⟩, List.mem_of_getElem? (i := 957) (by decide +kernel), List.mem_of_getElem? (i := 1510) (by decide +kernel), List.mem_of_getElem? (i := 1511) (by decide +kernel)⟩
theorem lw_p97 : lw_okq (⟨"BorrowedHandsModel", "pagesOfAll", "()I"⟩, 33) := ⟨⟨by decide +kernel, by decide +kernel⟩, List.mem_of_getElem? (i := 957) (by decide +kernel), List.mem_of_getElem? (i := 1518) (by decide +kernel), List.mem_of_getElem? (i := 1519) (by decide +kernel)⟩
theorem lw_p98 : lw_okq (⟨"BorrowedHandsModel", "alone", "()I"⟩, 33) := ⟨⟨by decide +kernel, by decide +kernel⟩, List.mem_of_getElem? (i := 957) (by decide +kernel), List.mem_of_getElem? (i := 1522) (by decide +kernel), List.mem_of_getElem? (i := 1523) (by decide +kernel)⟩
theorem lw_p99 : lw_okq (⟨"BorrowedHandsModel", "mostHands", "()I"⟩, 33) := ⟨⟨by decide +kernel, by decide +kernel⟩, List.mem_of_getElem? (i := 957) (by decide +kernel), List.mem_of_getElem? (i := 1526) (by decide +kernel), List.mem_of_getElem? (i := 1527) (by decide +kernel)⟩
theorem lw_p100 : lw_okq (⟨"BorrowedHandsModel", "sumOf", "(I)I"⟩, 33) := ⟨⟨by decide +kernel, by decide +kernel⟩, List.mem_of_getElem? (i := 957) (by decide +kernel), List.mem_of_getElem? (i := 1530) (by decide +kernel), List.mem_of_getElem? (i := 1531) (by decide +kernel)⟩
theorem lw_p101 : lw_okq (⟨"BorrowedHandsModel", "deadOnes", "()I"⟩, 33) := ⟨⟨by decide +kernel, by decide +kernel⟩, List.mem_of_getElem? (i := 957) (by decide +kernel), List.mem_of_getElem? (i := 1534) (by decide +kernel), List.mem_of_getElem? (i := 1535) (by decide +kernel)⟩
def lw_privs_7 : List (MethodName × Nat) := [(⟨"BorrowedHandsModel", "makes", "(III)I"⟩, 33), (⟨"BorrowedHandsModel", "pagesOfAll", "()I"⟩, 33), (⟨"BorrowedHandsModel", "alone", "()I"⟩, 33), (⟨"BorrowedHandsModel", "mostHands", "()I"⟩, 33), (⟨"BorrowedHandsModel", "sumOf", "(I)I"⟩, 33), (⟨"BorrowedHandsModel", "deadOnes", "()I"⟩, 33)]
theorem lw_r7 : ∀ q ∈ lw_privs_7, lw_okq q := List.forall_mem_cons.mpr ⟨lw_p96, List.forall_mem_cons.mpr ⟨lw_p97, List.forall_mem_cons.mpr ⟨lw_p98, List.forall_mem_cons.mpr ⟨lw_p99, List.forall_mem_cons.mpr ⟨lw_p100, List.forall_mem_cons.mpr ⟨lw_p101, fun _ h => absurd h List.not_mem_nil⟩⟩⟩⟩⟩⟩
def lw_privs : List (MethodName × Nat) := lw_privs_1 ++ (lw_privs_2 ++ (lw_privs_3 ++ (lw_privs_4 ++ (lw_privs_5 ++ (lw_privs_6 ++ (lw_privs_7))))))
def lw_tbl : List Cond := k2_sels lw_privs ++ tables_1
theorem lw_privs_ok : ∀ q ∈ lw_privs, lw_okq q := by
  show ∀ q ∈ lw_privs_1 ++ (lw_privs_2 ++ (lw_privs_3 ++ (lw_privs_4 ++ (lw_privs_5 ++ (lw_privs_6 ++ (lw_privs_7)))))), lw_okq q
  exact List.forall_mem_append.mpr ⟨lw_r1, List.forall_mem_append.mpr ⟨lw_r2, List.forall_mem_append.mpr ⟨lw_r3, List.forall_mem_append.mpr ⟨lw_r4, List.forall_mem_append.mpr ⟨lw_r5, List.forall_mem_append.mpr ⟨lw_r6, lw_r7⟩⟩⟩⟩⟩⟩
def RX0 : String := "BorrowedHands$Apart"
def TX0 : u_T := fun k => match k with
  | 0 => ("BorrowedHands$Apart", "rows", "[I", true)
  | 1 => ("BorrowedHands$Apart", "twos", "[I", true)
  | _ => ("BorrowedHands$Apart", "many", "I", false)
def tyX0 : Nat → FieldType := fun k => match k with
  | 0 => .array .int
  | 1 => .array .int
  | _ => .int
theorem nmX0 : ∀ a, a < 3 → ∀ b, b < 3 → a ≠ b → (TX0 a).2.1 ≠ (TX0 b).2.1 := by decide +kernel
theorem tyX0_ok : ∀ k, k < 3 → parseFieldDescriptor (TX0 k).2.2.1 = some (tyX0 k) := by decide +kernel
abbrev cX0_init : ByteArray := prog_2_method_1_code
def yX0_init : MethodName := ⟨RX0, "<init>", "()V"⟩
abbrev cX0_fewestPages : ByteArray := prog_2_method_2_code
def yX0_fewestPages : MethodName := ⟨RX0, "fewestPages", "(LBorrowedHands$Town;LBorrowedHands$Hands;II)I"⟩
abbrev cX0_fillRows : ByteArray := prog_2_method_3_code
def yX0_fillRows : MethodName := ⟨RX0, "fillRows", "(LBorrowedHands$Town;LBorrowedHands$Hands;II)V"⟩
abbrev cX0_listTwos : ByteArray := prog_2_method_4_code
def yX0_listTwos : MethodName := ⟨RX0, "listTwos", "(III)V"⟩
abbrev cX0_differingPages : ByteArray := prog_2_method_5_code
def yX0_differingPages : MethodName := ⟨RX0, "differingPages", "(III)I"⟩
abbrev cX0_allApart : ByteArray := prog_2_method_6_code
def yX0_allApart : MethodName := ⟨RX0, "allApart", "(I)Z"⟩
def RX1 : String := "BorrowedHands$Habit"
def TX1 : u_T := fun k => match k with
  | _ => ("", "", "", false)
def tyX1 : Nat → FieldType := fun k => match k with
  | _ => .int
theorem nmX1 : ∀ a, a < 0 → ∀ b, b < 0 → a ≠ b → (TX1 a).2.1 ≠ (TX1 b).2.1 := by decide +kernel
theorem tyX1_ok : ∀ k, k < 0 → parseFieldDescriptor (TX1 k).2.2.1 = some (tyX1 k) := by decide +kernel
abbrev cX1_signsOf : ByteArray := prog_3_method_2_code
def yX1_signsOf : MethodName := ⟨RX1, "signsOf", "(I)I"⟩
abbrev cX1_firstSign : ByteArray := prog_3_method_3_code
def yX1_firstSign : MethodName := ⟨RX1, "firstSign", "(II)I"⟩
abbrev cX1_secondSign : ByteArray := prog_3_method_4_code
def yX1_secondSign : MethodName := ⟨RX1, "secondSign", "(II)I"⟩
abbrev cX1_stands : ByteArray := prog_3_method_5_code
def yX1_stands : MethodName := ⟨RX1, "stands", "(III)Z"⟩
abbrev cX1_changeRow : ByteArray := prog_3_method_6_code
def yX1_changeRow : MethodName := ⟨RX1, "changeRow", "(IIII)I"⟩
abbrev cX1_signAt : ByteArray := prog_3_method_7_code
def yX1_signAt : MethodName := ⟨RX1, "signAt", "(II)I"⟩
def RX2 : String := "BorrowedHands$Hands"
def TX2 : u_T := fun k => match k with
  | 0 => ("BorrowedHands$Hands", "who", "[I", true)
  | _ => ("BorrowedHands$Hands", "many", "I", false)
def tyX2 : Nat → FieldType := fun k => match k with
  | 0 => .array .int
  | _ => .int
theorem nmX2 : ∀ a, a < 2 → ∀ b, b < 2 → a ≠ b → (TX2 a).2.1 ≠ (TX2 b).2.1 := by decide +kernel
theorem tyX2_ok : ∀ k, k < 2 → parseFieldDescriptor (TX2 k).2.2.1 = some (tyX2 k) := by decide +kernel
abbrev cX2_init : ByteArray := prog_4_method_1_code
def yX2_init : MethodName := ⟨RX2, "<init>", "()V"⟩
abbrev cX2_listFrom : ByteArray := prog_4_method_2_code
def yX2_listFrom : MethodName := ⟨RX2, "listFrom", "(LBorrowedHands$Town;I)V"⟩
abbrev cX2_listUntilDead : ByteArray := prog_4_method_3_code
def yX2_listUntilDead : MethodName := ⟨RX2, "listUntilDead", "(LBorrowedHands$Town;II)I"⟩
abbrev cX2_lowest : ByteArray := prog_4_method_4_code
def yX2_lowest : MethodName := ⟨RX2, "lowest", "()I"⟩
abbrev cX2_asBits : ByteArray := prog_4_method_5_code
def yX2_asBits : MethodName := ⟨RX2, "asBits", "()I"⟩
abbrev cX2_anyDead : ByteArray := prog_4_method_6_code
def yX2_anyDead : MethodName := ⟨RX2, "anyDead", "(LBorrowedHands$Town;)Z"⟩
abbrev cX2_passUp : ByteArray := prog_4_method_7_code
def yX2_passUp : MethodName := ⟨RX2, "passUp", "(LBorrowedHands$Town;III)I"⟩
abbrev cX2_lineOf : ByteArray := prog_4_method_8_code
def yX2_lineOf : MethodName := ⟨RX2, "lineOf", "(LBorrowedHands$Town;III)I"⟩
def RX3 : String := "BorrowedHands$Mistakes"
def TX3 : u_T := fun k => match k with
  | 0 => ("BorrowedHands$Mistakes", "sets", "[I", true)
  | _ => ("BorrowedHands$Mistakes", "rows", "[I", true)
def tyX3 : Nat → FieldType := fun k => match k with
  | 0 => .array .int
  | _ => .array .int
theorem nmX3 : ∀ a, a < 2 → ∀ b, b < 2 → a ≠ b → (TX3 a).2.1 ≠ (TX3 b).2.1 := by decide +kernel
theorem tyX3_ok : ∀ k, k < 2 → parseFieldDescriptor (TX3 k).2.2.1 = some (tyX3 k) := by decide +kernel
abbrev cX3_init : ByteArray := prog_5_method_1_code
def yX3_init : MethodName := ⟨RX3, "<init>", "()V"⟩
abbrev cX3_gather : ByteArray := prog_5_method_2_code
def yX3_gather : MethodName := ⟨RX3, "gather", "(LBorrowedHands$Town;LBorrowedHands$Hands;II)V"⟩
abbrev cX3_clashes : ByteArray := prog_5_method_3_code
def yX3_clashes : MethodName := ⟨RX3, "clashes", "()I"⟩
abbrev cX3_clash : ByteArray := prog_5_method_4_code
def yX3_clash : MethodName := ⟨RX3, "clash", "(II)Z"⟩
abbrev cX3_unlikeSets : ByteArray := prog_5_method_5_code
def yX3_unlikeSets : MethodName := ⟨RX3, "unlikeSets", "()I"⟩
abbrev cX3_isFirstOfItsLike : ByteArray := prog_5_method_6_code
def yX3_isFirstOfItsLike : MethodName := ⟨RX3, "isFirstOfItsLike", "(I)Z"⟩
abbrev cX3_longestRow : ByteArray := prog_5_method_7_code
def yX3_longestRow : MethodName := ⟨RX3, "longestRow", "()I"⟩
abbrev cX3_longestWithin : ByteArray := prog_5_method_8_code
def yX3_longestWithin : MethodName := ⟨RX3, "longestWithin", "(I)I"⟩
def RX4 : String := "BorrowedHands$Slipping"
def TX4 : u_T := fun k => match k with
  | 0 => ("BorrowedHands$Slipping", "many", "I", false)
  | 1 => ("BorrowedHands$Slipping", "firstWriter", "I", false)
  | 2 => ("BorrowedHands$Slipping", "firstKind", "I", false)
  | 3 => ("BorrowedHands$Slipping", "firstA", "I", false)
  | 4 => ("BorrowedHands$Slipping", "firstB", "I", false)
  | 5 => ("BorrowedHands$Slipping", "needed", "I", false)
  | _ => ("BorrowedHands$Slipping", "wanted", "I", false)
def tyX4 : Nat → FieldType := fun k => match k with
  | 0 => .int
  | 1 => .int
  | 2 => .int
  | 3 => .int
  | 4 => .int
  | 5 => .int
  | _ => .int
theorem nmX4 : ∀ a, a < 7 → ∀ b, b < 7 → a ≠ b → (TX4 a).2.1 ≠ (TX4 b).2.1 := by decide +kernel
theorem tyX4_ok : ∀ k, k < 7 → parseFieldDescriptor (TX4 k).2.2.1 = some (tyX4 k) := by decide +kernel
abbrev cX4_init : ByteArray := prog_6_method_1_code
def yX4_init : MethodName := ⟨RX4, "<init>", "()V"⟩
abbrev cX4_search : ByteArray := prog_6_method_2_code
def yX4_search : MethodName := ⟨RX4, "search", "(LBorrowedHands$Town;LBorrowedHands$Hands;II)V"⟩
abbrev cX4_ofFirst : ByteArray := prog_6_method_3_code
def yX4_ofFirst : MethodName := ⟨RX4, "ofFirst", "(I)I"⟩
abbrev cX4_findDemand : ByteArray := prog_6_method_4_code
def yX4_findDemand : MethodName := ⟨RX4, "findDemand", "(LBorrowedHands$Town;LBorrowedHands$Hands;II)Z"⟩
abbrev cX4_tryHabits : ByteArray := prog_6_method_5_code
def yX4_tryHabits : MethodName := ⟨RX4, "tryHabits", "(LBorrowedHands$Town;II)V"⟩
abbrev cX4_tryOne : ByteArray := prog_6_method_6_code
def yX4_tryOne : MethodName := ⟨RX4, "tryOne", "(IIIII)V"⟩
def RX5 : String := "BorrowedHands$Stretches"
def TX5 : u_T := fun k => match k with
  | 0 => ("BorrowedHands$Stretches", "start", "[I", true)
  | 1 => ("BorrowedHands$Stretches", "choices", "[I", true)
  | _ => ("BorrowedHands$Stretches", "many", "I", false)
def tyX5 : Nat → FieldType := fun k => match k with
  | 0 => .array .int
  | 1 => .array .int
  | _ => .int
theorem nmX5 : ∀ a, a < 3 → ∀ b, b < 3 → a ≠ b → (TX5 a).2.1 ≠ (TX5 b).2.1 := by decide +kernel
theorem tyX5_ok : ∀ k, k < 3 → parseFieldDescriptor (TX5 k).2.2.1 = some (tyX5 k) := by decide +kernel
abbrev cX5_init : ByteArray := prog_7_method_1_code
def yX5_init : MethodName := ⟨RX5, "<init>", "()V"⟩
abbrev cX5_cut : ByteArray := prog_7_method_2_code
def yX5_cut : MethodName := ⟨RX5, "cut", "(LBorrowedHands$Town;LBorrowedHands$Hands;II)V"⟩
abbrev cX5_whoMade : ByteArray := prog_7_method_3_code
def yX5_whoMade : MethodName := ⟨RX5, "whoMade", "(LBorrowedHands$Town;LBorrowedHands$Hands;III)I"⟩
def RX6 : String := "BorrowedHands$Tape"
def TX6 : u_T := fun k => match k with
  | 0 => ("BorrowedHands$Tape", "bytes", "[I", true)
  | 1 => ("BorrowedHands$Tape", "length", "I", false)
  | 2 => ("BorrowedHands$Tape", "at", "I", false)
  | 3 => ("BorrowedHands$Tape", "began", "I", false)
  | _ => ("BorrowedHands$Tape", "fault", "I", false)
def tyX6 : Nat → FieldType := fun k => match k with
  | 0 => .array .int
  | 1 => .int
  | 2 => .int
  | 3 => .int
  | _ => .int
theorem nmX6 : ∀ a, a < 5 → ∀ b, b < 5 → a ≠ b → (TX6 a).2.1 ≠ (TX6 b).2.1 := by decide +kernel
theorem tyX6_ok : ∀ k, k < 5 → parseFieldDescriptor (TX6 k).2.2.1 = some (tyX6 k) := by decide +kernel
abbrev cX6_init : ByteArray := prog_8_method_1_code
def yX6_init : MethodName := ⟨RX6, "<init>", "()V"⟩
abbrev cX6_hasRoom : ByteArray := prog_8_method_2_code
def yX6_hasRoom : MethodName := ⟨RX6, "hasRoom", "(I)Z"⟩
abbrev cX6_append : ByteArray := prog_8_method_3_code
def yX6_append : MethodName := ⟨RX6, "append", "(I)V"⟩
abbrev cX6_readInto : ByteArray := prog_8_method_4_code
def yX6_readInto : MethodName := ⟨RX6, "readInto", "(LBorrowedHands$Town;)I"⟩
abbrev cX6_readPart : ByteArray := prog_8_method_5_code
def yX6_readPart : MethodName := ⟨RX6, "readPart", "(LBorrowedHands$Town;)Z"⟩
abbrev cX6_readSemicolon : ByteArray := prog_8_method_6_code
def yX6_readSemicolon : MethodName := ⟨RX6, "readSemicolon", "()Z"⟩
abbrev cX6_readWriter : ByteArray := prog_8_method_7_code
def yX6_readWriter : MethodName := ⟨RX6, "readWriter", "(LBorrowedHands$Town;)Z"⟩
abbrev cX6_readHabit : ByteArray := prog_8_method_8_code
def yX6_readHabit : MethodName := ⟨RX6, "readHabit", "(LBorrowedHands$Town;I)Z"⟩
abbrev cX6_readUnder : ByteArray := prog_8_method_9_code
def yX6_readUnder : MethodName := ⟨RX6, "readUnder", "(LBorrowedHands$Town;I)Z"⟩
abbrev cX6_readBook : ByteArray := prog_8_method_10_code
def yX6_readBook : MethodName := ⟨RX6, "readBook", "(LBorrowedHands$Town;)Z"⟩
abbrev cX6_readNumber : ByteArray := prog_8_method_11_code
def yX6_readNumber : MethodName := ⟨RX6, "readNumber", "(II)I"⟩
abbrev cX6_readWord : ByteArray := prog_8_method_12_code
def yX6_readWord : MethodName := ⟨RX6, "readWord", "()V"⟩
abbrev cX6_wordIs : ByteArray := prog_8_method_13_code
def yX6_wordIs : MethodName := ⟨RX6, "wordIs", "(Ljava/lang/String;)Z"⟩
abbrev cX6_kindOfWord : ByteArray := prog_8_method_14_code
def yX6_kindOfWord : MethodName := ⟨RX6, "kindOfWord", "()I"⟩
abbrev cX6_wordOfKind : ByteArray := prog_8_method_15_code
def yX6_wordOfKind : MethodName := ⟨RX6, "wordOfKind", "(I)Ljava/lang/String;"⟩
abbrev cX6_skipBlanks : ByteArray := prog_8_method_16_code
def yX6_skipBlanks : MethodName := ⟨RX6, "skipBlanks", "()V"⟩
abbrev cX6_isLetter : ByteArray := prog_8_method_17_code
def yX6_isLetter : MethodName := ⟨RX6, "isLetter", "(I)Z"⟩
abbrev cX6_isDigit : ByteArray := prog_8_method_18_code
def yX6_isDigit : MethodName := ⟨RX6, "isDigit", "(I)Z"⟩
abbrev cX6_refuse : ByteArray := prog_8_method_19_code
def yX6_refuse : MethodName := ⟨RX6, "refuse", "(II)Z"⟩
def RX7 : String := "BorrowedHands$Town"
def TX7 : u_T := fun k => match k with
  | 0 => ("BorrowedHands$Town", "writers", "I", false)
  | 1 => ("BorrowedHands$Town", "books", "I", false)
  | 2 => ("BorrowedHands$Town", "seenCount", "I", false)
  | 3 => ("BorrowedHands$Town", "days", "I", false)
  | 4 => ("BorrowedHands$Town", "moods", "I", false)
  | 5 => ("BorrowedHands$Town", "dead", "I", false)
  | 6 => ("BorrowedHands$Town", "purse", "[I", true)
  | 7 => ("BorrowedHands$Town", "kind", "[I", true)
  | 8 => ("BorrowedHands$Town", "first", "[I", true)
  | 9 => ("BorrowedHands$Town", "second", "[I", true)
  | 10 => ("BorrowedHands$Town", "under", "[I", true)
  | 11 => ("BorrowedHands$Town", "fame", "[I", true)
  | 12 => ("BorrowedHands$Town", "coins", "[I", true)
  | 13 => ("BorrowedHands$Town", "stocked", "[I", true)
  | 14 => ("BorrowedHands$Town", "lengths", "[I", true)
  | 15 => ("BorrowedHands$Town", "pages", "[I", true)
  | 16 => ("BorrowedHands$Town", "stock", "[I", true)
  | _ => ("BorrowedHands$Town", "seen", "[I", true)
def tyX7 : Nat → FieldType := fun k => match k with
  | 0 => .int
  | 1 => .int
  | 2 => .int
  | 3 => .int
  | 4 => .int
  | 5 => .int
  | 6 => .array .int
  | 7 => .array .int
  | 8 => .array .int
  | 9 => .array .int
  | 10 => .array .int
  | 11 => .array .int
  | 12 => .array .int
  | 13 => .array .int
  | 14 => .array .int
  | 15 => .array .int
  | 16 => .array .int
  | _ => .array .int
theorem nmX7 : ∀ a, a < 18 → ∀ b, b < 18 → a ≠ b → (TX7 a).2.1 ≠ (TX7 b).2.1 := by decide +kernel
theorem tyX7_ok : ∀ k, k < 18 → parseFieldDescriptor (TX7 k).2.2.1 = some (tyX7 k) := by decide +kernel
abbrev cX7_init : ByteArray := prog_9_method_1_code
def yX7_init : MethodName := ⟨RX7, "<init>", "()V"⟩
abbrev cX7_empty : ByteArray := prog_9_method_2_code
def yX7_empty : MethodName := ⟨RX7, "empty", "()V"⟩
abbrev cX7_copyFrom : ByteArray := prog_9_method_3_code
def yX7_copyFrom : MethodName := ⟨RX7, "copyFrom", "(LBorrowedHands$Town;)V"⟩
abbrev cX7_copyRow : ByteArray := prog_9_method_4_code
def yX7_copyRow : MethodName := ⟨RX7, "copyRow", "([I[I)V"⟩
abbrev cX7_addWriter : ByteArray := prog_9_method_5_code
def yX7_addWriter : MethodName := ⟨RX7, "addWriter", "(I)V"⟩
abbrev cX7_addBook : ByteArray := prog_9_method_6_code
def yX7_addBook : MethodName := ⟨RX7, "addBook", "()V"⟩
abbrev cX7_addPage : ByteArray := prog_9_method_7_code
def yX7_addPage : MethodName := ⟨RX7, "addPage", "(I)V"⟩
abbrev cX7_isWriter : ByteArray := prog_9_method_8_code
def yX7_isWriter : MethodName := ⟨RX7, "isWriter", "(I)Z"⟩
abbrev cX7_isBook : ByteArray := prog_9_method_9_code
def yX7_isBook : MethodName := ⟨RX7, "isBook", "(I)Z"⟩
abbrev cX7_isPage : ByteArray := prog_9_method_10_code
def yX7_isPage : MethodName := ⟨RX7, "isPage", "(II)Z"⟩
abbrev cX7_isDead : ByteArray := prog_9_method_11_code
def yX7_isDead : MethodName := ⟨RX7, "isDead", "(I)Z"⟩
abbrev cX7_inMood : ByteArray := prog_9_method_12_code
def yX7_inMood : MethodName := ⟨RX7, "inMood", "(I)Z"⟩
abbrev cX7_hasStock : ByteArray := prog_9_method_13_code
def yX7_hasStock : MethodName := ⟨RX7, "hasStock", "(II)Z"⟩
abbrev cX7_stockOf : ByteArray := prog_9_method_14_code
def yX7_stockOf : MethodName := ⟨RX7, "stockOf", "(III)I"⟩
abbrev cX7_putStock : ByteArray := prog_9_method_15_code
def yX7_putStock : MethodName := ⟨RX7, "putStock", "(IIII)V"⟩
abbrev cX7_hasHabit : ByteArray := prog_9_method_16_code
def yX7_hasHabit : MethodName := ⟨RX7, "hasHabit", "(IIII)Z"⟩
abbrev cX7_setHabit : ByteArray := prog_9_method_17_code
def yX7_setHabit : MethodName := ⟨RX7, "setHabit", "(IIII)V"⟩
abbrev cX7_habitOn : ByteArray := prog_9_method_18_code
def yX7_habitOn : MethodName := ⟨RX7, "habitOn", "(II)I"⟩
abbrev cX7_rowOf : ByteArray := prog_9_method_19_code
def yX7_rowOf : MethodName := ⟨RX7, "rowOf", "(II)I"⟩
abbrev cX7_pageOfSeen : ByteArray := prog_9_method_20_code
def yX7_pageOfSeen : MethodName := ⟨RX7, "pageOfSeen", "(II)I"⟩
abbrev cX7_havingUnder : ByteArray := prog_9_method_21_code
def yX7_havingUnder : MethodName := ⟨RX7, "havingUnder", "(I)I"⟩
abbrev cX7_allPages : ByteArray := prog_9_method_22_code
def yX7_allPages : MethodName := ⟨RX7, "allPages", "()I"⟩
abbrev cX7_sumOf : ByteArray := prog_9_method_23_code
def yX7_sumOf : MethodName := ⟨RX7, "sumOf", "([I)I"⟩
def RX8 : String := "BorrowedHands$Trail"
def TX8 : u_T := fun k => match k with
  | 0 => ("BorrowedHands$Trail", "origin", "[I", true)
  | 1 => ("BorrowedHands$Trail", "changer", "[I", true)
  | _ => ("BorrowedHands$Trail", "spare", "[I", true)
def tyX8 : Nat → FieldType := fun k => match k with
  | 0 => .array .int
  | 1 => .array .int
  | _ => .array .int
theorem nmX8 : ∀ a, a < 3 → ∀ b, b < 3 → a ≠ b → (TX8 a).2.1 ≠ (TX8 b).2.1 := by decide +kernel
theorem tyX8_ok : ∀ k, k < 3 → parseFieldDescriptor (TX8 k).2.2.1 = some (tyX8 k) := by decide +kernel
abbrev cX8_init : ByteArray := prog_10_method_1_code
def yX8_init : MethodName := ⟨RX8, "<init>", "()V"⟩
abbrev cX8_follow : ByteArray := prog_10_method_2_code
def yX8_follow : MethodName := ⟨RX8, "follow", "(LBorrowedHands$Town;LBorrowedHands$Hands;I)V"⟩
abbrev cX8_changedBy : ByteArray := prog_10_method_3_code
def yX8_changedBy : MethodName := ⟨RX8, "changedBy", "(I)I"⟩
abbrev cX8_step : ByteArray := prog_10_method_4_code
def yX8_step : MethodName := ⟨RX8, "step", "(LBorrowedHands$Town;II)V"⟩
abbrev cX8_put : ByteArray := prog_10_method_5_code
def yX8_put : MethodName := ⟨RX8, "put", "(IIIZ)V"⟩
abbrev cX8_turn : ByteArray := prog_10_method_6_code
def yX8_turn : MethodName := ⟨RX8, "turn", "([II)V"⟩
abbrev cX8_swap : ByteArray := prog_10_method_7_code
def yX8_swap : MethodName := ⟨RX8, "swap", "([III)V"⟩
def RX9 : String := "BorrowedHands"
def TX9 : u_T := fun k => match k with
  | 0 => ("BorrowedHands", "town", "LBorrowedHands$Town;", true)
  | 1 => ("BorrowedHands", "told", "LBorrowedHands$Town;", true)
  | 2 => ("BorrowedHands", "tape", "LBorrowedHands$Tape;", true)
  | 3 => ("BorrowedHands", "earlier", "[LBorrowedHands$Town;", true)
  | 4 => ("BorrowedHands", "shelves", "[LBorrowedHands$Town;", true)
  | 5 => ("BorrowedHands", "hands", "LBorrowedHands$Hands;", true)
  | 6 => ("BorrowedHands", "trail", "LBorrowedHands$Trail;", true)
  | 7 => ("BorrowedHands", "slipping", "LBorrowedHands$Slipping;", true)
  | 8 => ("BorrowedHands", "stretches", "LBorrowedHands$Stretches;", true)
  | 9 => ("BorrowedHands", "apart", "LBorrowedHands$Apart;", true)
  | 10 => ("BorrowedHands", "mistakes", "LBorrowedHands$Mistakes;", true)
  | 11 => ("BorrowedHands", "flow", "[I", true)
  | 12 => ("BorrowedHands", "ways", "[J", true)
  | 13 => ("BorrowedHands", "nextEarlier", "I", false)
  | 14 => ("BorrowedHands", "undoable", "I", false)
  | _ => ("BorrowedHands", "kept", "I", false)
def tyX9 : Nat → FieldType := fun k => match k with
  | 0 => .object "BorrowedHands$Town"
  | 1 => .object "BorrowedHands$Town"
  | 2 => .object "BorrowedHands$Tape"
  | 3 => .array (.object "BorrowedHands$Town")
  | 4 => .array (.object "BorrowedHands$Town")
  | 5 => .object "BorrowedHands$Hands"
  | 6 => .object "BorrowedHands$Trail"
  | 7 => .object "BorrowedHands$Slipping"
  | 8 => .object "BorrowedHands$Stretches"
  | 9 => .object "BorrowedHands$Apart"
  | 10 => .object "BorrowedHands$Mistakes"
  | 11 => .array .int
  | 12 => .array .long
  | 13 => .int
  | 14 => .int
  | _ => .int
theorem nmX9 : ∀ a, a < 16 → ∀ b, b < 16 → a ≠ b → (TX9 a).2.1 ≠ (TX9 b).2.1 := by decide +kernel
theorem tyX9_ok : ∀ k, k < 16 → parseFieldDescriptor (TX9 k).2.2.1 = some (tyX9 k) := by decide +kernel
abbrev cX9_init : ByteArray := prog_1_method_1_code
def yX9_init : MethodName := ⟨RX9, "<init>", "()V"⟩
abbrev cX9_feed : ByteArray := prog_1_method_2_code
def yX9_feed : MethodName := ⟨RX9, "feed", "(IIIII)I"⟩
abbrev cX9_end : ByteArray := prog_1_method_3_code
def yX9_end : MethodName := ⟨RX9, "end", "(I)I"⟩
abbrev cX9_tell : ByteArray := prog_1_method_4_code
def yX9_tell : MethodName := ⟨RX9, "tell", "()I"⟩
abbrev cX9_hire : ByteArray := prog_1_method_5_code
def yX9_hire : MethodName := ⟨RX9, "hire", "(II)I"⟩
abbrev cX9_sack : ByteArray := prog_1_method_6_code
def yX9_sack : MethodName := ⟨RX9, "sack", "(I)I"⟩
abbrev cX9_teach : ByteArray := prog_1_method_7_code
def yX9_teach : MethodName := ⟨RX9, "teach", "(IIII)I"⟩
abbrev cX9_praise : ByteArray := prog_1_method_8_code
def yX9_praise : MethodName := ⟨RX9, "praise", "(II)I"⟩
abbrev cX9_blame : ByteArray := prog_1_method_9_code
def yX9_blame : MethodName := ⟨RX9, "blame", "(II)I"⟩
abbrev cX9_order : ByteArray := prog_1_method_10_code
def yX9_order : MethodName := ⟨RX9, "order", "(II)I"⟩
abbrev cX9_day : ByteArray := prog_1_method_11_code
def yX9_day : MethodName := ⟨RX9, "day", "(I)I"⟩
abbrev cX9_store : ByteArray := prog_1_method_12_code
def yX9_store : MethodName := ⟨RX9, "store", "(II)I"⟩
abbrev cX9_die : ByteArray := prog_1_method_13_code
def yX9_die : MethodName := ⟨RX9, "die", "(I)I"⟩
abbrev cX9_see : ByteArray := prog_1_method_14_code
def yX9_see : MethodName := ⟨RX9, "see", "(I)I"⟩
abbrev cX9_forget : ByteArray := prog_1_method_15_code
def yX9_forget : MethodName := ⟨RX9, "forget", "()I"⟩
abbrev cX9_undo : ByteArray := prog_1_method_16_code
def yX9_undo : MethodName := ⟨RX9, "undo", "()I"⟩
abbrev cX9_keep : ByteArray := prog_1_method_17_code
def yX9_keep : MethodName := ⟨RX9, "keep", "(I)I"⟩
abbrev cX9_back : ByteArray := prog_1_method_18_code
def yX9_back : MethodName := ⟨RX9, "back", "(I)I"⟩
abbrev cX9_writer : ByteArray := prog_1_method_19_code
def yX9_writer : MethodName := ⟨RX9, "writer", "(II)I"⟩
abbrev cX9_page : ByteArray := prog_1_method_20_code
def yX9_page : MethodName := ⟨RX9, "page", "(II)I"⟩
abbrev cX9_line : ByteArray := prog_1_method_21_code
def yX9_line : MethodName := ⟨RX9, "line", "(III)I"⟩
abbrev cX9_trace : ByteArray := prog_1_method_22_code
def yX9_trace : MethodName := ⟨RX9, "trace", "(IIIII)I"⟩
abbrev cX9_own : ByteArray := prog_1_method_23_code
def yX9_own : MethodName := ⟨RX9, "own", "(III)I"⟩
abbrev cX9_pay : ByteArray := prog_1_method_24_code
def yX9_pay : MethodName := ⟨RX9, "pay", "(III)I"⟩
abbrev cX9_alike : ByteArray := prog_1_method_25_code
def yX9_alike : MethodName := ⟨RX9, "alike", "(II)I"⟩
abbrev cX9_fits : ByteArray := prog_1_method_26_code
def yX9_fits : MethodName := ⟨RX9, "fits", "(II)I"⟩
abbrev cX9_likeliest : ByteArray := prog_1_method_27_code
def yX9_likeliest : MethodName := ⟨RX9, "likeliest", "(II)I"⟩
abbrev cX9_matches : ByteArray := prog_1_method_28_code
def yX9_matches : MethodName := ⟨RX9, "matches", "(II)J"⟩
abbrev cX9_trees : ByteArray := prog_1_method_29_code
def yX9_trees : MethodName := ⟨RX9, "trees", "(II)J"⟩
abbrev cX9_under : ByteArray := prog_1_method_30_code
def yX9_under : MethodName := ⟨RX9, "under", "(III)I"⟩
abbrev cX9_breaks : ByteArray := prog_1_method_31_code
def yX9_breaks : MethodName := ⟨RX9, "breaks", "(III)I"⟩
abbrev cX9_untangle : ByteArray := prog_1_method_32_code
def yX9_untangle : MethodName := ⟨RX9, "untangle", "(IIII)J"⟩
abbrev cX9_tells : ByteArray := prog_1_method_33_code
def yX9_tells : MethodName := ⟨RX9, "tells", "(III)I"⟩
abbrev cX9_slips : ByteArray := prog_1_method_34_code
def yX9_slips : MethodName := ⟨RX9, "slips", "(IIIII)I"⟩
abbrev cX9_errors : ByteArray := prog_1_method_35_code
def yX9_errors : MethodName := ⟨RX9, "errors", "(III)I"⟩
abbrev cX9_nested : ByteArray := prog_1_method_36_code
def yX9_nested : MethodName := ⟨RX9, "nested", "(III)I"⟩
abbrev cX9_shared : ByteArray := prog_1_method_37_code
def yX9_shared : MethodName := ⟨RX9, "shared", "(II)I"⟩
abbrev cX9_quarrel : ByteArray := prog_1_method_38_code
def yX9_quarrel : MethodName := ⟨RX9, "quarrel", "(IIII)I"⟩
abbrev cX9_served : ByteArray := prog_1_method_39_code
def yX9_served : MethodName := ⟨RX9, "served", "(II)I"⟩
abbrev cX9_between : ByteArray := prog_1_method_40_code
def yX9_between : MethodName := ⟨RX9, "between", "(III)I"⟩
abbrev cX9_count : ByteArray := prog_1_method_41_code
def yX9_count : MethodName := ⟨RX9, "count", "(I)I"⟩
abbrev cX9_isSign : ByteArray := prog_1_method_42_code
def yX9_isSign : MethodName := ⟨RX9, "isSign", "(I)Z"⟩
abbrev cX9_isRow : ByteArray := prog_1_method_43_code
def yX9_isRow : MethodName := ⟨RX9, "isRow", "(I)Z"⟩
abbrev cX9_isGift : ByteArray := prog_1_method_44_code
def yX9_isGift : MethodName := ⟨RX9, "isGift", "(I)Z"⟩
abbrev cX9_isShelf : ByteArray := prog_1_method_45_code
def yX9_isShelf : MethodName := ⟨RX9, "isShelf", "(I)Z"⟩
abbrev cX9_isSetOfWriters : ByteArray := prog_1_method_46_code
def yX9_isSetOfWriters : MethodName := ⟨RX9, "isSetOfWriters", "(I)Z"⟩
abbrev cX9_remember : ByteArray := prog_1_method_47_code
def yX9_remember : MethodName := ⟨RX9, "remember", "()V"⟩
abbrev cX9_handsOf : ByteArray := prog_1_method_48_code
def yX9_handsOf : MethodName := ⟨RX9, "handsOf", "(I)I"⟩
abbrev cX9_lowestOf : ByteArray := prog_1_method_49_code
def yX9_lowestOf : MethodName := ⟨RX9, "lowestOf", "(I)I"⟩
abbrev cX9_mostHands : ByteArray := prog_1_method_50_code
def yX9_mostHands : MethodName := ⟨RX9, "mostHands", "()I"⟩
abbrev cX9_lineOf : ByteArray := prog_1_method_51_code
def yX9_lineOf : MethodName := ⟨RX9, "lineOf", "(III)I"⟩
abbrev cX9_lineAt : ByteArray := prog_1_method_52_code
def yX9_lineAt : MethodName := ⟨RX9, "lineAt", "(I)I"⟩
abbrev cX9_lacksLines : ByteArray := prog_1_method_53_code
def yX9_lacksLines : MethodName := ⟨RX9, "lacksLines", "(I)Z"⟩
abbrev cX9_followTrail : ByteArray := prog_1_method_54_code
def yX9_followTrail : MethodName := ⟨RX9, "followTrail", "(III)Z"⟩
abbrev cX9_passedUp : ByteArray := prog_1_method_55_code
def yX9_passedUp : MethodName := ⟨RX9, "passedUp", "(II)I"⟩
abbrev cX9_seenFitsWriters : ByteArray := prog_1_method_56_code
def yX9_seenFitsWriters : MethodName := ⟨RX9, "seenFitsWriters", "()Z"⟩
abbrev cX9_choicesBySeen : ByteArray := prog_1_method_57_code
def yX9_choicesBySeen : MethodName := ⟨RX9, "choicesBySeen", "(II)I"⟩
abbrev cX9_countWays : ByteArray := prog_1_method_58_code
def yX9_countWays : MethodName := ⟨RX9, "countWays", "(III)V"⟩
abbrev cX9_sendDown : ByteArray := prog_1_method_59_code
def yX9_sendDown : MethodName := ⟨RX9, "sendDown", "(I)I"⟩
def RX10 : String := "BorrowedHandsModel"
def TX10 : u_T := fun k => match k with
  | 0 => ("BorrowedHandsModel", "now", "[I", true)
  | 1 => ("BorrowedHandsModel", "heard", "[I", true)
  | 2 => ("BorrowedHandsModel", "past", "[I", true)
  | 3 => ("BorrowedHandsModel", "shelf", "[I", true)
  | 4 => ("BorrowedHandsModel", "isKept", "[Z", true)
  | 5 => ("BorrowedHandsModel", "pastMany", "I", false)
  | 6 => ("BorrowedHandsModel", "tape", "[B", true)
  | 7 => ("BorrowedHandsModel", "taped", "I", false)
  | 8 => ("BorrowedHandsModel", "at", "I", false)
  | 9 => ("BorrowedHandsModel", "fault", "I", false)
  | 10 => ("BorrowedHandsModel", "numberAt", "I", false)
  | 11 => ("BorrowedHandsModel", "hand", "[I", true)
  | 12 => ("BorrowedHandsModel", "lowest", "I", false)
  | 13 => ("BorrowedHandsModel", "mood", "[I", true)
  | 14 => ("BorrowedHandsModel", "comes", "[I", true)
  | 15 => ("BorrowedHandsModel", "changer", "[I", true)
  | 16 => ("BorrowedHandsModel", "wasComes", "[I", true)
  | 17 => ("BorrowedHandsModel", "wasChanger", "[I", true)
  | 18 => ("BorrowedHandsModel", "source", "[I", true)
  | 19 => ("BorrowedHandsModel", "wasSource", "[I", true)
  | 20 => ("BorrowedHandsModel", "firstSource", "[I", true)
  | 21 => ("BorrowedHandsModel", "stretchAt", "[I", true)
  | 22 => ("BorrowedHandsModel", "stretch", "[I", true)
  | 23 => ("BorrowedHandsModel", "ways", "[J", true)
  | 24 => ("BorrowedHandsModel", "apart", "[I", true)
  | 25 => ("BorrowedHandsModel", "slipMany", "I", false)
  | 26 => ("BorrowedHandsModel", "slipWriter", "I", false)
  | 27 => ("BorrowedHandsModel", "slipKind", "I", false)
  | 28 => ("BorrowedHandsModel", "slipA", "I", false)
  | 29 => ("BorrowedHandsModel", "slipB", "I", false)
  | 30 => ("BorrowedHandsModel", "error", "[I", true)
  | 31 => ("BorrowedHandsModel", "unlike", "[I", true)
  | _ => ("BorrowedHandsModel", "longest", "[I", true)
def tyX10 : Nat → FieldType := fun k => match k with
  | 0 => .array .int
  | 1 => .array .int
  | 2 => .array .int
  | 3 => .array .int
  | 4 => .array .boolean
  | 5 => .int
  | 6 => .array .byte
  | 7 => .int
  | 8 => .int
  | 9 => .int
  | 10 => .int
  | 11 => .array .int
  | 12 => .int
  | 13 => .array .int
  | 14 => .array .int
  | 15 => .array .int
  | 16 => .array .int
  | 17 => .array .int
  | 18 => .array .int
  | 19 => .array .int
  | 20 => .array .int
  | 21 => .array .int
  | 22 => .array .int
  | 23 => .array .long
  | 24 => .array .int
  | 25 => .int
  | 26 => .int
  | 27 => .int
  | 28 => .int
  | 29 => .int
  | 30 => .array .int
  | 31 => .array .int
  | _ => .array .int
theorem nmX10 : ∀ a, a < 33 → ∀ b, b < 33 → a ≠ b → (TX10 a).2.1 ≠ (TX10 b).2.1 := by decide +kernel
theorem tyX10_ok : ∀ k, k < 33 → parseFieldDescriptor (TX10 k).2.2.1 = some (tyX10 k) := by decide +kernel
abbrev cX10_init : ByteArray := prog_12_method_1_code
def yX10_init : MethodName := ⟨RX10, "<init>", "()V"⟩
abbrev cX10_in : ByteArray := prog_12_method_2_code
def yX10_in : MethodName := ⟨RX10, "in", "(JJJ)Z"⟩
abbrev cX10_truth : ByteArray := prog_12_method_3_code
def yX10_truth : MethodName := ⟨RX10, "truth", "(Z)I"⟩
abbrev cX10_has : ByteArray := prog_12_method_4_code
def yX10_has : MethodName := ⟨RX10, "has", "(II)Z"⟩
abbrev cX10_moves : ByteArray := prog_12_method_5_code
def yX10_moves : MethodName := ⟨RX10, "moves", "([II[II)V"⟩
abbrev cX10_feed : ByteArray := prog_12_method_6_code
def yX10_feed : MethodName := ⟨RX10, "feed", "(IIIII)I"⟩
abbrev cX10_puts : ByteArray := prog_12_method_7_code
def yX10_puts : MethodName := ⟨RX10, "puts", "(I)V"⟩
abbrev cX10_end : ByteArray := prog_12_method_8_code
def yX10_end : MethodName := ⟨RX10, "end", "(I)I"⟩
abbrev cX10_sign : ByteArray := prog_12_method_9_code
def yX10_sign : MethodName := ⟨RX10, "sign", "()I"⟩
abbrev cX10_next : ByteArray := prog_12_method_10_code
def yX10_next : MethodName := ⟨RX10, "next", "()I"⟩
abbrev cX10_isRight : ByteArray := prog_12_method_11_code
def yX10_isRight : MethodName := ⟨RX10, "isRight", "()Z"⟩
abbrev cX10_fails : ByteArray := prog_12_method_12_code
def yX10_fails : MethodName := ⟨RX10, "fails", "(II)V"⟩
abbrev cX10_isDigit : ByteArray := prog_12_method_13_code
def yX10_isDigit : MethodName := ⟨RX10, "isDigit", "()Z"⟩
abbrev cX10_number : ByteArray := prog_12_method_14_code
def yX10_number : MethodName := ⟨RX10, "number", "(II)I"⟩
abbrev cX10_isWord : ByteArray := prog_12_method_15_code
def yX10_isWord : MethodName := ⟨RX10, "isWord", "(Ljava/lang/String;)Z"⟩
abbrev cX10_takes : ByteArray := prog_12_method_16_code
def yX10_takes : MethodName := ⟨RX10, "takes", "(Ljava/lang/String;)Z"⟩
abbrev cX10_kindTold : ByteArray := prog_12_method_17_code
def yX10_kindTold : MethodName := ⟨RX10, "kindTold", "()I"⟩
abbrev cX10_needs : ByteArray := prog_12_method_18_code
def yX10_needs : MethodName := ⟨RX10, "needs", "(I)I"⟩
abbrev cX10_readsHabit : ByteArray := prog_12_method_19_code
def yX10_readsHabit : MethodName := ⟨RX10, "readsHabit", "(I)V"⟩
abbrev cX10_readsWriter : ByteArray := prog_12_method_20_code
def yX10_readsWriter : MethodName := ⟨RX10, "readsWriter", "(I)V"⟩
abbrev cX10_readsBook : ByteArray := prog_12_method_21_code
def yX10_readsBook : MethodName := ⟨RX10, "readsBook", "(I)V"⟩
abbrev cX10_readsPart : ByteArray := prog_12_method_22_code
def yX10_readsPart : MethodName := ⟨RX10, "readsPart", "()V"⟩
abbrev cX10_tell : ByteArray := prog_12_method_23_code
def yX10_tell : MethodName := ⟨RX10, "tell", "()I"⟩
abbrev cX10_isWriter : ByteArray := prog_12_method_24_code
def yX10_isWriter : MethodName := ⟨RX10, "isWriter", "(I)Z"⟩
abbrev cX10_of : ByteArray := prog_12_method_25_code
def yX10_of : MethodName := ⟨RX10, "of", "(II)I"⟩
abbrev cX10_puts_ : ByteArray := prog_12_method_26_code
def yX10_puts_ : MethodName := ⟨RX10, "puts", "(III)V"⟩
abbrev cX10_under : ByteArray := prog_12_method_27_code
def yX10_under : MethodName := ⟨RX10, "under", "(I)I"⟩
abbrev cX10_isDead : ByteArray := prog_12_method_28_code
def yX10_isDead : MethodName := ⟨RX10, "isDead", "(I)Z"⟩
abbrev cX10_isBook : ByteArray := prog_12_method_29_code
def yX10_isBook : MethodName := ⟨RX10, "isBook", "(I)Z"⟩
abbrev cX10_pagesOf : ByteArray := prog_12_method_30_code
def yX10_pagesOf : MethodName := ⟨RX10, "pagesOf", "(I)I"⟩
abbrev cX10_isPage : ByteArray := prog_12_method_31_code
def yX10_isPage : MethodName := ⟨RX10, "isPage", "(II)Z"⟩
abbrev cX10_pageOf : ByteArray := prog_12_method_32_code
def yX10_pageOf : MethodName := ⟨RX10, "pageOf", "(II)I"⟩
abbrev cX10_hasStock : ByteArray := prog_12_method_33_code
def yX10_hasStock : MethodName := ⟨RX10, "hasStock", "(II)Z"⟩
abbrev cX10_stockAt : ByteArray := prog_12_method_34_code
def yX10_stockAt : MethodName := ⟨RX10, "stockAt", "(III)I"⟩
abbrev cX10_hands : ByteArray := prog_12_method_35_code
def yX10_hands : MethodName := ⟨RX10, "hands", "(I)I"⟩
abbrev cX10_handsSet : ByteArray := prog_12_method_36_code
def yX10_handsSet : MethodName := ⟨RX10, "handsSet", "(I)I"⟩
abbrev cX10_done : ByteArray := prog_12_method_37_code
def yX10_done : MethodName := ⟨RX10, "done", "(IIII)I"⟩
abbrev cX10_with : ByteArray := prog_12_method_38_code
def yX10_with : MethodName := ⟨RX10, "with", "(III)I"⟩
abbrev cX10_habit : ByteArray := prog_12_method_39_code
def yX10_habit : MethodName := ⟨RX10, "habit", "(II)I"⟩
abbrev cX10_passes : ByteArray := prog_12_method_40_code
def yX10_passes : MethodName := ⟨RX10, "passes", "(II)I"⟩
abbrev cX10_lineOf : ByteArray := prog_12_method_41_code
def yX10_lineOf : MethodName := ⟨RX10, "lineOf", "(III)I"⟩
abbrev cX10_isAnyDead : ByteArray := prog_12_method_42_code
def yX10_isAnyDead : MethodName := ⟨RX10, "isAnyDead", "(I)Z"⟩
abbrev cX10_keepsPast : ByteArray := prog_12_method_43_code
def yX10_keepsPast : MethodName := ⟨RX10, "keepsPast", "()V"⟩
abbrev cX10_undo : ByteArray := prog_12_method_44_code
def yX10_undo : MethodName := ⟨RX10, "undo", "()I"⟩
abbrev cX10_keep : ByteArray := prog_12_method_45_code
def yX10_keep : MethodName := ⟨RX10, "keep", "(I)I"⟩
abbrev cX10_back : ByteArray := prog_12_method_46_code
def yX10_back : MethodName := ⟨RX10, "back", "(I)I"⟩
abbrev cX10_hire : ByteArray := prog_12_method_47_code
def yX10_hire : MethodName := ⟨RX10, "hire", "(II)I"⟩
abbrev cX10_sack : ByteArray := prog_12_method_48_code
def yX10_sack : MethodName := ⟨RX10, "sack", "(I)I"⟩
abbrev cX10_isHabit : ByteArray := prog_12_method_49_code
def yX10_isHabit : MethodName := ⟨RX10, "isHabit", "(III)Z"⟩
abbrev cX10_hasHabit : ByteArray := prog_12_method_50_code
def yX10_hasHabit : MethodName := ⟨RX10, "hasHabit", "(IIII)Z"⟩
abbrev cX10_learns : ByteArray := prog_12_method_51_code
def yX10_learns : MethodName := ⟨RX10, "learns", "(IIII)V"⟩
abbrev cX10_teach : ByteArray := prog_12_method_52_code
def yX10_teach : MethodName := ⟨RX10, "teach", "(IIII)I"⟩
abbrev cX10_goesDown : ByteArray := prog_12_method_53_code
def yX10_goesDown : MethodName := ⟨RX10, "goesDown", "(IIIZ)I"⟩
abbrev cX10_praise : ByteArray := prog_12_method_54_code
def yX10_praise : MethodName := ⟨RX10, "praise", "(II)I"⟩
abbrev cX10_blame : ByteArray := prog_12_method_55_code
def yX10_blame : MethodName := ⟨RX10, "blame", "(II)I"⟩
abbrev cX10_order : ByteArray := prog_12_method_56_code
def yX10_order : MethodName := ⟨RX10, "order", "(II)I"⟩
abbrev cX10_day : ByteArray := prog_12_method_57_code
def yX10_day : MethodName := ⟨RX10, "day", "(I)I"⟩
abbrev cX10_moods : ByteArray := prog_12_method_58_code
def yX10_moods : MethodName := ⟨RX10, "moods", "()I"⟩
abbrev cX10_hasAll : ByteArray := prog_12_method_59_code
def yX10_hasAll : MethodName := ⟨RX10, "hasAll", "(II)Z"⟩
abbrev cX10_store : ByteArray := prog_12_method_60_code
def yX10_store : MethodName := ⟨RX10, "store", "(II)I"⟩
abbrev cX10_die : ByteArray := prog_12_method_61_code
def yX10_die : MethodName := ⟨RX10, "die", "(I)I"⟩
abbrev cX10_see : ByteArray := prog_12_method_62_code
def yX10_see : MethodName := ⟨RX10, "see", "(I)I"⟩
abbrev cX10_forget : ByteArray := prog_12_method_63_code
def yX10_forget : MethodName := ⟨RX10, "forget", "()I"⟩
abbrev cX10_overWhom : ByteArray := prog_12_method_64_code
def yX10_overWhom : MethodName := ⟨RX10, "overWhom", "(I)I"⟩
abbrev cX10_writer : ByteArray := prog_12_method_65_code
def yX10_writer : MethodName := ⟨RX10, "writer", "(II)I"⟩
abbrev cX10_page : ByteArray := prog_12_method_66_code
def yX10_page : MethodName := ⟨RX10, "page", "(II)I"⟩
abbrev cX10_line : ByteArray := prog_12_method_67_code
def yX10_line : MethodName := ⟨RX10, "line", "(III)I"⟩
abbrev cX10_brings : ByteArray := prog_12_method_68_code
def yX10_brings : MethodName := ⟨RX10, "brings", "(II)V"⟩
abbrev cX10_traces : ByteArray := prog_12_method_69_code
def yX10_traces : MethodName := ⟨RX10, "traces", "(III)V"⟩
abbrev cX10_laysTrace : ByteArray := prog_12_method_70_code
def yX10_laysTrace : MethodName := ⟨RX10, "laysTrace", "(III)V"⟩
abbrev cX10_trace : ByteArray := prog_12_method_71_code
def yX10_trace : MethodName := ⟨RX10, "trace", "(IIIII)I"⟩
abbrev cX10_own : ByteArray := prog_12_method_72_code
def yX10_own : MethodName := ⟨RX10, "own", "(III)I"⟩
abbrev cX10_pay : ByteArray := prog_12_method_73_code
def yX10_pay : MethodName := ⟨RX10, "pay", "(III)I"⟩
abbrev cX10_laysSource : ByteArray := prog_12_method_74_code
def yX10_laysSource : MethodName := ⟨RX10, "laysSource", "(I)V"⟩
abbrev cX10_leads : ByteArray := prog_12_method_75_code
def yX10_leads : MethodName := ⟨RX10, "leads", "(III)V"⟩
abbrev cX10_alike : ByteArray := prog_12_method_76_code
def yX10_alike : MethodName := ⟨RX10, "alike", "(II)I"⟩
abbrev cX10_fits : ByteArray := prog_12_method_77_code
def yX10_fits : MethodName := ⟨RX10, "fits", "(II)I"⟩
abbrev cX10_likeliest : ByteArray := prog_12_method_78_code
def yX10_likeliest : MethodName := ⟨RX10, "likeliest", "(II)I"⟩
abbrev cX10_matches : ByteArray := prog_12_method_79_code
def yX10_matches : MethodName := ⟨RX10, "matches", "(II)J"⟩
abbrev cX10_seen : ByteArray := prog_12_method_80_code
def yX10_seen : MethodName := ⟨RX10, "seen", "(I)I"⟩
abbrev cX10_canTree : ByteArray := prog_12_method_81_code
def yX10_canTree : MethodName := ⟨RX10, "canTree", "(II)Z"⟩
abbrev cX10_choices : ByteArray := prog_12_method_82_code
def yX10_choices : MethodName := ⟨RX10, "choices", "(III)I"⟩
abbrev cX10_trees : ByteArray := prog_12_method_83_code
def yX10_trees : MethodName := ⟨RX10, "trees", "(II)J"⟩
abbrev cX10_under_ : ByteArray := prog_12_method_84_code
def yX10_under_ : MethodName := ⟨RX10, "under", "(III)I"⟩
abbrev cX10_couldBe : ByteArray := prog_12_method_85_code
def yX10_couldBe : MethodName := ⟨RX10, "couldBe", "(III)I"⟩
abbrev cX10_stretches : ByteArray := prog_12_method_86_code
def yX10_stretches : MethodName := ⟨RX10, "stretches", "(II)I"⟩
abbrev cX10_canBreak : ByteArray := prog_12_method_87_code
def yX10_canBreak : MethodName := ⟨RX10, "canBreak", "(II)Z"⟩
abbrev cX10_breaks : ByteArray := prog_12_method_88_code
def yX10_breaks : MethodName := ⟨RX10, "breaks", "(III)I"⟩
abbrev cX10_between : ByteArray := prog_12_method_89_code
def yX10_between : MethodName := ⟨RX10, "between", "(III)I"⟩
abbrev cX10_untangle : ByteArray := prog_12_method_90_code
def yX10_untangle : MethodName := ⟨RX10, "untangle", "(IIII)J"⟩
abbrev cX10_isSet : ByteArray := prog_12_method_91_code
def yX10_isSet : MethodName := ⟨RX10, "isSet", "(I)Z"⟩
abbrev cX10_unlikeOn : ByteArray := prog_12_method_92_code
def yX10_unlikeOn : MethodName := ⟨RX10, "unlikeOn", "(III)I"⟩
abbrev cX10_laysApart : ByteArray := prog_12_method_93_code
def yX10_laysApart : MethodName := ⟨RX10, "laysApart", "(II)I"⟩
abbrev cX10_tells : ByteArray := prog_12_method_94_code
def yX10_tells : MethodName := ⟨RX10, "tells", "(III)I"⟩
abbrev cX10_lineWith : ByteArray := prog_12_method_95_code
def yX10_lineWith : MethodName := ⟨RX10, "lineWith", "(IIIIII)I"⟩
abbrev cX10_slipsBy : ByteArray := prog_12_method_96_code
def yX10_slipsBy : MethodName := ⟨RX10, "slipsBy", "(IIIII)V"⟩
abbrev cX10_slips : ByteArray := prog_12_method_97_code
def yX10_slips : MethodName := ⟨RX10, "slips", "(IIIII)I"⟩
abbrev cX10_errorsOf : ByteArray := prog_12_method_98_code
def yX10_errorsOf : MethodName := ⟨RX10, "errorsOf", "(III)I"⟩
abbrev cX10_errors : ByteArray := prog_12_method_99_code
def yX10_errors : MethodName := ⟨RX10, "errors", "(III)I"⟩
abbrev cX10_isWithin : ByteArray := prog_12_method_100_code
def yX10_isWithin : MethodName := ⟨RX10, "isWithin", "(II)Z"⟩
abbrev cX10_clashes : ByteArray := prog_12_method_101_code
def yX10_clashes : MethodName := ⟨RX10, "clashes", "()I"⟩
abbrev cX10_laysUnlike : ByteArray := prog_12_method_102_code
def yX10_laysUnlike : MethodName := ⟨RX10, "laysUnlike", "()I"⟩
abbrev cX10_longestRow : ByteArray := prog_12_method_103_code
def yX10_longestRow : MethodName := ⟨RX10, "longestRow", "(I)I"⟩
abbrev cX10_nested : ByteArray := prog_12_method_104_code
def yX10_nested : MethodName := ⟨RX10, "nested", "(III)I"⟩
abbrev cX10_shared : ByteArray := prog_12_method_105_code
def yX10_shared : MethodName := ⟨RX10, "shared", "(II)I"⟩
abbrev cX10_quarrel : ByteArray := prog_12_method_106_code
def yX10_quarrel : MethodName := ⟨RX10, "quarrel", "(IIII)I"⟩
abbrev cX10_makes : ByteArray := prog_12_method_107_code
def yX10_makes : MethodName := ⟨RX10, "makes", "(III)I"⟩
abbrev cX10_served : ByteArray := prog_12_method_108_code
def yX10_served : MethodName := ⟨RX10, "served", "(II)I"⟩
abbrev cX10_sumOf : ByteArray := prog_12_method_109_code
def yX10_sumOf : MethodName := ⟨RX10, "sumOf", "(I)I"⟩
abbrev cX10_pagesOfAll : ByteArray := prog_12_method_110_code
def yX10_pagesOfAll : MethodName := ⟨RX10, "pagesOfAll", "()I"⟩
abbrev cX10_alone : ByteArray := prog_12_method_111_code
def yX10_alone : MethodName := ⟨RX10, "alone", "()I"⟩
abbrev cX10_mostHands : ByteArray := prog_12_method_112_code
def yX10_mostHands : MethodName := ⟨RX10, "mostHands", "()I"⟩
abbrev cX10_deadOnes : ByteArray := prog_12_method_113_code
def yX10_deadOnes : MethodName := ⟨RX10, "deadOnes", "()I"⟩
abbrev cX10_count : ByteArray := prog_12_method_114_code
def yX10_count : MethodName := ⟨RX10, "count", "(I)I"⟩
def RJ6 : String := "java/lang/Integer"
abbrev cJ6_bitCount_0f7a4 : ByteArray := prog_13_method_49_code
def yJ6_bitCount_0f7a4 : MethodName := ⟨RJ6, "bitCount", "(I)I"⟩
def RJ9 : String := "java/lang/Math"
abbrev cJ9_max_7cf53 : ByteArray := prog_14_method_65_code
def yJ9_max_7cf53 : MethodName := ⟨RJ9, "max", "(II)I"⟩
abbrev cJ9_min_7cf53 : ByteArray := prog_14_method_69_code
def yJ9_min_7cf53 : MethodName := ⟨RJ9, "min", "(II)I"⟩
def RJ0 : String := "java/lang/String"
abbrev cJ0_length_8abf5 : ByteArray := prog_15_method_54_code
def yJ0_length_8abf5 : MethodName := ⟨RJ0, "length", "()I"⟩
abbrev cJ0_charAt_5068e : ByteArray := prog_15_method_56_code
def yJ0_charAt_5068e : MethodName := ⟨RJ0, "charAt", "(I)C"⟩
abbrev cJ0_coder_7d493 : ByteArray := prog_15_method_152_code
def yJ0_coder_7d493 : MethodName := ⟨RJ0, "coder", "()B"⟩
abbrev cJ0_isLatin1_aae02 : ByteArray := prog_15_method_154_code
def yJ0_isLatin1_aae02 : MethodName := ⟨RJ0, "isLatin1", "()Z"⟩
abbrev cJ0_checkIndex_df160 : ByteArray := prog_15_method_155_code
def yJ0_checkIndex_df160 : MethodName := ⟨RJ0, "checkIndex", "(II)V"⟩
def RJ1 : String := "java/lang/StringLatin1"
abbrev cJ1_charAt_3b067 : ByteArray := prog_16_method_2_code
def yJ1_charAt_3b067 : MethodName := ⟨RJ1, "charAt", "([BI)C"⟩
def RJ2 : String := "java/lang/StringUTF16"
abbrev cJ2_getChar_3b067 : ByteArray := prog_17_method_5_code
def yJ2_getChar_3b067 : MethodName := ⟨RJ2, "getChar", "([BI)C"⟩
abbrev cJ2_length_9d52b : ByteArray := prog_17_method_6_code
def yJ2_length_9d52b : MethodName := ⟨RJ2, "length", "([B)I"⟩
abbrev cJ2_charAt_3b067 : ByteArray := prog_17_method_83_code
def yJ2_charAt_3b067 : MethodName := ⟨RJ2, "charAt", "([BI)C"⟩
abbrev cJ2_checkIndex_2214a : ByteArray := prog_17_method_91_code
def yJ2_checkIndex_2214a : MethodName := ⟨RJ2, "checkIndex", "(I[B)V"⟩
def RJ10 : String := "java/lang/System"
def RJ3 : String := "jdk/internal/util/Preconditions"
abbrev cJ3_checkIndex_8e157 : ByteArray := prog_19_method_11_code
def yJ3_checkIndex_8e157 : MethodName := ⟨RJ3, "checkIndex", "(IILjava/util/function/BiFunction;)I"⟩
def RL : String := "BorrowedHandsLaw"
end
section
/-! ===== the program as a table: op, length, number, constant, list ===== -/
abbrev bh_I : Type := Nat × Nat × Nat × Int × List Nat
abbrev bz : bh_I := (0, 0, 0, 0, [])
abbrev bh_cls : List vw_C := [(RX0, TX0, 3), (RX1, TX1, 0), (RX2, TX2, 2), (RX3, TX3, 2), (RX4, TX4, 7), (RX5, TX5, 3), (RX6, TX6, 5), (RX7, TX7, 18), (RX8, TX8, 3), (RX9, TX9, 16), (RX10, TX10, 33)]
def bh_WS : List Cond := lw_tbl.filter goodWord
theorem bh_WS_of {i : Nat} {w : Cond} (h : lw_tbl[i]? = some w) (g : goodWord w = true) : w ∈ bh_WS := List.mem_filter.mpr ⟨List.mem_of_getElem? h, g⟩
theorem bh_WS_tbl {w : Cond} (h : w ∈ bh_WS) : w ∈ lw_tbl := (List.mem_filter.mp h).1
theorem bh_WS_good {w : Cond} (h : w ∈ bh_WS) : goodWord w = true := (List.mem_filter.mp h).2
def cd_X0_init : List bh_I := [(5, 1, 0, 1, []), (39, 3, 0, 3, [341]), bz, bz, (5, 1, 0, 1, []), (1, 2, 1, 96, []), bz, (37, 2, 20, 0, []), bz, (26, 3, 87, 0, []), bz, bz, (5, 1, 0, 1, []), (1, 3, 2, 144, []), bz, bz, (37, 2, 20, 0, []), bz, (26, 3, 88, 0, []), bz, bz, (44, 1, 0, 0, [])]
def cd_X0_fewestPages : List bh_I := [(5, 1, 1, 1, []), (25, 3, 47, 0, []), bz, bz, (3, 1, 3, 1, []), (27, 1, 0, 0, []), (6, 2, 5, 0, []), bz, (5, 1, 0, 1, []), (5, 1, 1, 1, []), (5, 1, 2, 1, []), (3, 1, 3, 1, []), (3, 2, 4, 0, []), bz, (40, 3, 0, 0, []), bz, bz, (5, 1, 0, 1, []), (5, 1, 1, 1, []), (25, 3, 2, 0, []), bz, bz, (3, 2, 5, 0, []), bz, (3, 2, 4, 0, []), bz, (40, 3, 1, 0, []), bz, bz, (1, 1, 0, 0, []), (6, 2, 6, 0, []), bz, (1, 1, 0, 1, []), (6, 2, 7, 0, []), bz, (3, 2, 7, 0, []), bz, (1, 1, 0, 1, []), (3, 2, 5, 0, []), bz, (10, 1, 6, 0, []), (22, 3, 93, 3, []), bz, bz, (3, 2, 6, 0, []), bz, (21, 3, 62, 0, []), bz, bz, (3, 2, 7, 0, []), bz, (40, 3, 2, 0, []), bz, bz, (3, 2, 6, 0, []), bz, (40, 3, 2, 0, []), bz, bz, (22, 3, 66, 3, []), bz, bz, (1, 1, 0, 1, []), (23, 3, 67, 0, []), bz, bz, (1, 1, 0, 0, []), (6, 2, 8, 0, []), bz, (3, 2, 8, 0, []), bz, (21, 3, 87, 0, []), bz, bz, (5, 1, 0, 1, []), (3, 2, 7, 0, []), bz, (40, 3, 3, 0, []), bz, bz, (21, 3, 87, 0, []), bz, bz, (3, 2, 7, 0, []), bz, (6, 2, 6, 0, []), bz, (9, 3, 7, 1, []), bz, bz, (23, 3, 35, 0, []), bz, bz, (3, 2, 6, 0, []), bz, (41, 1, 0, 0, [])]
def cd_X0_fillRows : List bh_I := [(1, 1, 0, 0, []), (6, 2, 5, 0, []), bz, (3, 2, 5, 0, []), bz, (5, 1, 1, 1, []), (25, 3, 2, 0, []), bz, bz, (22, 3, 72, 3, []), bz, bz, (3, 2, 4, 0, []), bz, (3, 2, 5, 0, []), bz, (10, 1, 7, 0, []), (1, 1, 0, 1, []), (10, 1, 3, 0, []), (1, 1, 0, 1, []), (22, 3, 66, 1, []), bz, bz, (1, 1, 0, 0, []), (6, 2, 6, 0, []), bz, (3, 2, 6, 0, []), bz, (5, 1, 1, 1, []), (25, 3, 47, 0, []), bz, bz, (3, 1, 3, 1, []), (27, 1, 0, 0, []), (22, 3, 66, 3, []), bz, bz, (5, 1, 0, 1, []), (25, 3, 87, 0, []), bz, bz, (3, 2, 5, 0, []), bz, (1, 2, 1, 8, []), bz, (10, 1, 2, 0, []), (3, 2, 6, 0, []), bz, (10, 1, 0, 0, []), (5, 1, 2, 1, []), (5, 1, 1, 1, []), (3, 2, 5, 0, []), bz, (3, 1, 3, 1, []), (3, 2, 6, 0, []), bz, (40, 3, 4, 0, []), bz, bz, (28, 1, 0, 0, []), (9, 3, 6, 1, []), bz, bz, (23, 3, 26, 0, []), bz, bz, (9, 3, 5, 1, []), bz, bz, (23, 3, 3, 0, []), bz, bz, (44, 1, 0, 0, [])]
def cd_X0_listTwos : List bh_I := [(5, 1, 0, 1, []), (1, 1, 0, 0, []), (26, 3, 89, 0, []), bz, bz, (1, 1, 0, 0, []), (6, 2, 4, 0, []), bz, (3, 2, 4, 0, []), bz, (3, 1, 1, 1, []), (22, 3, 81, 3, []), bz, bz, (3, 2, 4, 0, []), bz, (1, 1, 0, 1, []), (10, 1, 0, 0, []), (6, 2, 5, 0, []), bz, (3, 2, 5, 0, []), bz, (3, 1, 1, 1, []), (22, 3, 75, 3, []), bz, bz, (3, 1, 3, 1, []), (3, 2, 4, 0, []), bz, (10, 1, 7, 0, []), (3, 1, 3, 1, []), (3, 2, 5, 0, []), bz, (10, 1, 7, 0, []), (10, 1, 3, 0, []), (1, 1, 0, 1, []), (10, 1, 3, 0, []), (1, 1, 0, 1, []), (22, 3, 69, 1, []), bz, bz, (5, 1, 0, 1, []), (25, 3, 88, 0, []), bz, bz, (5, 1, 0, 1, []), (25, 3, 89, 0, []), bz, bz, (5, 1, 0, 1, []), (3, 2, 4, 0, []), bz, (3, 2, 5, 0, []), bz, (3, 1, 2, 1, []), (40, 3, 5, 0, []), bz, bz, (28, 1, 0, 0, []), (5, 1, 0, 1, []), (18, 1, 0, 0, []), (25, 3, 89, 0, []), bz, bz, (1, 1, 0, 1, []), (10, 1, 0, 0, []), (26, 3, 89, 0, []), bz, bz, (9, 3, 5, 1, []), bz, bz, (23, 3, 20, 0, []), bz, bz, (9, 3, 4, 1, []), bz, bz, (23, 3, 8, 0, []), bz, bz, (44, 1, 0, 0, [])]
def cd_X0_differingPages : List bh_I := [(1, 1, 0, 0, []), (6, 2, 4, 0, []), bz, (1, 1, 0, 0, []), (6, 2, 5, 0, []), bz, (3, 2, 5, 0, []), bz, (3, 1, 3, 1, []), (22, 3, 54, 3, []), bz, bz, (5, 1, 0, 1, []), (25, 3, 87, 0, []), bz, bz, (3, 1, 1, 1, []), (1, 2, 1, 8, []), bz, (10, 1, 2, 0, []), (3, 2, 5, 0, []), bz, (10, 1, 0, 0, []), (27, 1, 0, 0, []), (5, 1, 0, 1, []), (25, 3, 87, 0, []), bz, bz, (3, 1, 2, 1, []), (1, 2, 1, 8, []), bz, (10, 1, 2, 0, []), (3, 2, 5, 0, []), bz, (10, 1, 0, 0, []), (27, 1, 0, 0, []), (22, 3, 48, 0, []), bz, bz, (3, 2, 4, 0, []), bz, (1, 1, 0, 1, []), (3, 2, 5, 0, []), bz, (10, 1, 6, 0, []), (10, 1, 4, 0, []), (6, 2, 4, 0, []), bz, (9, 3, 5, 1, []), bz, bz, (23, 3, 6, 0, []), bz, bz, (3, 2, 4, 0, []), bz, (41, 1, 0, 0, [])]
def cd_X0_allApart : List bh_I := [(1, 1, 0, 0, []), (6, 1, 2, 1, []), (3, 1, 2, 1, []), (5, 1, 0, 1, []), (25, 3, 89, 0, []), bz, bz, (22, 3, 29, 3, []), bz, bz, (5, 1, 0, 1, []), (25, 3, 88, 0, []), bz, bz, (3, 1, 2, 1, []), (27, 1, 0, 0, []), (3, 1, 1, 1, []), (10, 1, 3, 0, []), (21, 3, 23, 1, []), bz, bz, (1, 1, 0, 0, []), (41, 1, 0, 0, []), (9, 3, 2, 1, []), bz, bz, (23, 3, 2, 0, []), bz, bz, (1, 1, 0, 1, []), (41, 1, 0, 0, [])]
def cd_X1_signsOf : List bh_I := [(3, 1, 0, 1, []), (21, 3, 6, 1, []), bz, bz, (1, 1, 0, 0, []), (41, 1, 0, 0, []), (3, 1, 0, 1, []), (1, 1, 0, 5, []), (22, 3, 17, 0, []), bz, bz, (3, 1, 0, 1, []), (1, 2, 1, 6, []), bz, (22, 3, 21, 1, []), bz, bz, (1, 1, 0, 2, []), (23, 3, 22, 0, []), bz, bz, (1, 1, 0, 1, []), (41, 1, 0, 0, [])]
def cd_X1_firstSign : List bh_I := [(3, 1, 0, 1, []), (40, 3, 6, 0, []), bz, bz, (21, 3, 11, 5, []), bz, bz, (3, 1, 1, 1, []), (23, 3, 12, 0, []), bz, bz, (1, 1, 0, (-1), []), (41, 1, 0, 0, [])]
def cd_X1_secondSign : List bh_I := [(3, 1, 0, 1, []), (40, 3, 6, 0, []), bz, bz, (1, 1, 0, 1, []), (22, 3, 12, 5, []), bz, bz, (3, 1, 1, 1, []), (23, 3, 13, 0, []), bz, bz, (1, 1, 0, (-1), []), (41, 1, 0, 0, [])]
def cd_X1_stands : List bh_I := [(3, 1, 0, 1, []), (21, 3, 10, 2, []), bz, bz, (3, 1, 0, 1, []), (1, 2, 1, 6, []), bz, (22, 3, 12, 5, []), bz, bz, (1, 1, 0, 0, []), (41, 1, 0, 0, []), (3, 1, 0, 1, []), (21, 3, 18, 1, []), bz, bz, (1, 1, 0, 1, []), (41, 1, 0, 0, []), (3, 1, 1, 1, []), (40, 3, 7, 0, []), bz, bz, (21, 3, 34, 0, []), bz, bz, (3, 1, 0, 1, []), (1, 1, 0, 4, []), (22, 3, 36, 1, []), bz, bz, (3, 1, 1, 1, []), (21, 3, 36, 1, []), bz, bz, (1, 1, 0, 0, []), (41, 1, 0, 0, []), (3, 1, 0, 1, []), (40, 3, 6, 0, []), bz, bz, (1, 1, 0, 1, []), (22, 3, 56, 0, []), bz, bz, (3, 1, 2, 1, []), (40, 3, 7, 0, []), bz, bz, (21, 3, 60, 0, []), bz, bz, (3, 1, 2, 1, []), (3, 1, 1, 1, []), (22, 3, 60, 0, []), bz, bz, (1, 1, 0, 1, []), (23, 3, 61, 0, []), bz, bz, (1, 1, 0, 0, []), (41, 1, 0, 0, [])]
def cd_X1_changeRow : List bh_I := [(3, 1, 0, 1, []), (24, 39, 116, 1, [40, 46, 52, 60, 74, 100]), bz, bz, bz, bz, bz, bz, bz, bz, bz, bz, bz, bz, bz, bz, bz, bz, bz, bz, bz, bz, bz, bz, bz, bz, bz, bz, bz, bz, bz, bz, bz, bz, bz, bz, bz, bz, bz, bz, (3, 1, 3, 1, []), (1, 1, 0, 1, []), (3, 1, 1, 1, []), (10, 1, 6, 0, []), (10, 1, 5, 0, []), (41, 1, 0, 0, []), (3, 1, 3, 1, []), (1, 1, 0, 1, []), (3, 1, 1, 1, []), (10, 1, 6, 0, []), (10, 1, 4, 0, []), (41, 1, 0, 0, []), (3, 1, 3, 1, []), (1, 1, 0, 1, []), (3, 1, 1, 1, []), (10, 1, 6, 0, []), (1, 1, 0, (-1), []), (10, 1, 5, 0, []), (10, 1, 3, 0, []), (41, 1, 0, 0, []), (3, 1, 3, 1, []), (3, 1, 1, 1, []), (10, 1, 6, 0, []), (3, 1, 3, 1, []), (1, 2, 1, 16, []), bz, (3, 1, 1, 1, []), (10, 1, 1, 0, []), (10, 1, 8, 0, []), (10, 1, 4, 0, []), (1, 2, 3, 65535, [19, 698]), bz, (10, 1, 3, 0, []), (41, 1, 0, 0, []), (3, 1, 3, 1, []), (3, 1, 1, 1, []), (10, 1, 7, 0, []), (3, 1, 3, 1, []), (3, 1, 2, 1, []), (10, 1, 7, 0, []), (10, 1, 5, 0, []), (1, 1, 0, 1, []), (10, 1, 3, 0, []), (21, 3, 90, 1, []), bz, bz, (3, 1, 3, 1, []), (23, 3, 99, 0, []), bz, bz, (3, 1, 3, 1, []), (1, 1, 0, 1, []), (3, 1, 1, 1, []), (10, 1, 6, 0, []), (1, 1, 0, 1, []), (3, 1, 2, 1, []), (10, 1, 6, 0, []), (10, 1, 4, 0, []), (10, 1, 5, 0, []), (41, 1, 0, 0, []), (3, 1, 3, 1, []), (1, 1, 0, 1, []), (3, 1, 2, 1, []), (10, 1, 6, 0, []), (1, 1, 0, (-1), []), (10, 1, 5, 0, []), (10, 1, 3, 0, []), (3, 1, 3, 1, []), (3, 1, 1, 1, []), (10, 1, 7, 0, []), (1, 1, 0, 1, []), (10, 1, 3, 0, []), (3, 1, 2, 1, []), (10, 1, 6, 0, []), (10, 1, 4, 0, []), (41, 1, 0, 0, []), (3, 1, 3, 1, []), (41, 1, 0, 0, [])]
def cd_X1_signAt : List bh_I := [(3, 1, 0, 1, []), (3, 1, 1, 1, []), (10, 1, 7, 0, []), (1, 1, 0, 1, []), (10, 1, 3, 0, []), (41, 1, 0, 0, [])]
def cd_X2_init : List bh_I := [(5, 1, 0, 1, []), (39, 3, 0, 3, [256]), bz, bz, (5, 1, 0, 1, []), (1, 2, 1, 12, []), bz, (37, 2, 20, 0, []), bz, (26, 3, 60, 0, []), bz, bz, (44, 1, 0, 0, [])]
def cd_X2_listFrom : List bh_I := [(5, 1, 0, 1, []), (5, 1, 1, 1, []), (3, 1, 2, 1, []), (1, 1, 0, 0, []), (40, 3, 8, 0, []), bz, bz, (19, 1, 0, 0, []), (44, 1, 0, 0, [])]
def cd_X2_listUntilDead : List bh_I := [(5, 1, 0, 1, []), (1, 1, 0, 0, []), (26, 3, 66, 0, []), bz, bz, (3, 1, 2, 1, []), (6, 2, 4, 0, []), bz, (3, 2, 4, 0, []), bz, (1, 1, 0, (-1), []), (22, 3, 65, 0, []), bz, bz, (5, 1, 0, 1, []), (25, 3, 66, 0, []), bz, bz, (1, 2, 1, 12, []), bz, (22, 3, 65, 3, []), bz, bz, (3, 1, 3, 1, []), (3, 2, 4, 0, []), bz, (10, 1, 7, 0, []), (1, 1, 0, 1, []), (10, 1, 3, 0, []), (21, 3, 65, 1, []), bz, bz, (5, 1, 0, 1, []), (25, 3, 60, 0, []), bz, bz, (5, 1, 0, 1, []), (25, 3, 66, 0, []), bz, bz, (3, 2, 4, 0, []), bz, (28, 1, 0, 0, []), (5, 1, 0, 1, []), (18, 1, 0, 0, []), (25, 3, 66, 0, []), bz, bz, (1, 1, 0, 1, []), (10, 1, 0, 0, []), (26, 3, 66, 0, []), bz, bz, (5, 1, 1, 1, []), (25, 3, 37, 0, []), bz, bz, (3, 2, 4, 0, []), bz, (27, 1, 0, 0, []), (6, 2, 4, 0, []), bz, (23, 3, 8, 0, []), bz, bz, (3, 2, 4, 0, []), bz, (41, 1, 0, 0, [])]
def cd_X2_lowest : List bh_I := [(5, 1, 0, 1, []), (25, 3, 66, 0, []), bz, bz, (21, 3, 21, 5, []), bz, bz, (5, 1, 0, 1, []), (25, 3, 60, 0, []), bz, bz, (5, 1, 0, 1, []), (25, 3, 66, 0, []), bz, bz, (1, 1, 0, 1, []), (10, 1, 1, 0, []), (27, 1, 0, 0, []), (23, 3, 22, 0, []), bz, bz, (1, 1, 0, (-1), []), (41, 1, 0, 0, [])]
def cd_X2_asBits : List bh_I := [(1, 1, 0, 0, []), (6, 1, 1, 1, []), (1, 1, 0, 0, []), (6, 1, 2, 1, []), (3, 1, 2, 1, []), (5, 1, 0, 1, []), (25, 3, 66, 0, []), bz, bz, (22, 3, 29, 3, []), bz, bz, (3, 1, 1, 1, []), (1, 1, 0, 1, []), (5, 1, 0, 1, []), (25, 3, 60, 0, []), bz, bz, (3, 1, 2, 1, []), (27, 1, 0, 0, []), (10, 1, 6, 0, []), (10, 1, 4, 0, []), (6, 1, 1, 1, []), (9, 3, 2, 1, []), bz, bz, (23, 3, 4, 0, []), bz, bz, (3, 1, 1, 1, []), (41, 1, 0, 0, [])]
def cd_X2_anyDead : List bh_I := [(5, 1, 0, 1, []), (40, 3, 9, 0, []), bz, bz, (5, 1, 1, 1, []), (25, 3, 18, 0, []), bz, bz, (10, 1, 3, 0, []), (21, 3, 16, 0, []), bz, bz, (1, 1, 0, 1, []), (23, 3, 17, 0, []), bz, bz, (1, 1, 0, 0, []), (41, 1, 0, 0, [])]
def cd_X2_passUp : List bh_I := [(3, 2, 4, 0, []), bz, (6, 2, 5, 0, []), bz, (3, 1, 3, 1, []), (1, 1, 0, 1, []), (10, 1, 1, 0, []), (6, 2, 6, 0, []), bz, (3, 2, 6, 0, []), bz, (3, 1, 2, 1, []), (22, 3, 67, 2, []), bz, bz, (5, 1, 0, 1, []), (25, 3, 60, 0, []), bz, bz, (3, 2, 6, 0, []), bz, (27, 1, 0, 0, []), (6, 2, 7, 0, []), bz, (5, 1, 1, 1, []), (3, 2, 7, 0, []), bz, (40, 3, 10, 0, []), bz, bz, (21, 3, 61, 1, []), bz, bz, (5, 1, 1, 1, []), (25, 3, 26, 0, []), bz, bz, (3, 2, 7, 0, []), bz, (27, 1, 0, 0, []), (5, 1, 1, 1, []), (25, 3, 30, 0, []), bz, bz, (3, 2, 7, 0, []), bz, (27, 1, 0, 0, []), (5, 1, 1, 1, []), (25, 3, 34, 0, []), bz, bz, (3, 2, 7, 0, []), bz, (27, 1, 0, 0, []), (3, 2, 5, 0, []), bz, (40, 3, 11, 0, []), bz, bz, (6, 2, 5, 0, []), bz, (9, 3, 6, (-1), []), bz, bz, (23, 3, 9, 0, []), bz, bz, (3, 2, 5, 0, []), bz, (41, 1, 0, 0, [])]
def cd_X2_lineOf : List bh_I := [(5, 1, 0, 1, []), (5, 1, 1, 1, []), (3, 1, 2, 1, []), (5, 1, 1, 1, []), (25, 3, 18, 0, []), bz, bz, (40, 3, 8, 0, []), bz, bz, (6, 2, 5, 0, []), bz, (3, 2, 5, 0, []), bz, (1, 1, 0, (-1), []), (22, 3, 36, 1, []), bz, bz, (5, 1, 0, 1, []), (5, 1, 1, 1, []), (1, 1, 0, 0, []), (5, 1, 0, 1, []), (25, 3, 66, 0, []), bz, bz, (5, 1, 1, 1, []), (3, 1, 3, 1, []), (3, 2, 4, 0, []), bz, (40, 3, 12, 0, []), bz, bz, (40, 3, 13, 0, []), bz, bz, (41, 1, 0, 0, []), (5, 1, 1, 1, []), (3, 2, 5, 0, []), bz, (3, 1, 3, 1, []), (40, 3, 14, 0, []), bz, bz, (21, 3, 49, 1, []), bz, bz, (1, 2, 1, (-2), []), bz, (41, 1, 0, 0, []), (5, 1, 0, 1, []), (5, 1, 1, 1, []), (1, 1, 0, 0, []), (5, 1, 0, 1, []), (25, 3, 66, 0, []), bz, bz, (5, 1, 1, 1, []), (3, 2, 5, 0, []), bz, (3, 1, 3, 1, []), (3, 2, 4, 0, []), bz, (40, 3, 15, 0, []), bz, bz, (40, 3, 13, 0, []), bz, bz, (41, 1, 0, 0, [])]
def cd_X3_init : List bh_I := [(5, 1, 0, 1, []), (39, 3, 0, 3, [357]), bz, bz, (5, 1, 0, 1, []), (1, 2, 1, 16, []), bz, (37, 2, 20, 0, []), bz, (26, 3, 90, 0, []), bz, bz, (5, 1, 0, 1, []), (1, 2, 1, 16, []), bz, (37, 2, 20, 0, []), bz, (26, 3, 92, 0, []), bz, bz, (44, 1, 0, 0, [])]
def cd_X3_gather : List bh_I := [(1, 1, 0, 0, []), (6, 2, 5, 0, []), bz, (3, 2, 5, 0, []), bz, (1, 2, 1, 16, []), bz, (22, 3, 24, 3, []), bz, bz, (5, 1, 0, 1, []), (25, 3, 90, 0, []), bz, bz, (3, 2, 5, 0, []), bz, (1, 1, 0, 0, []), (28, 1, 0, 0, []), (9, 3, 5, 1, []), bz, bz, (23, 3, 3, 0, []), bz, bz, (1, 1, 0, 0, []), (6, 2, 5, 0, []), bz, (3, 2, 5, 0, []), bz, (5, 1, 1, 1, []), (25, 3, 3, 0, []), bz, bz, (22, 3, 113, 3, []), bz, bz, (5, 1, 2, 1, []), (5, 1, 1, 1, []), (3, 2, 5, 0, []), bz, (3, 1, 3, 1, []), (3, 2, 4, 0, []), bz, (40, 3, 16, 0, []), bz, bz, (6, 2, 6, 0, []), bz, (3, 2, 6, 0, []), bz, (1, 2, 1, (-2), []), bz, (22, 3, 59, 1, []), bz, bz, (1, 1, 0, 0, []), (23, 3, 69, 0, []), bz, bz, (3, 2, 6, 0, []), bz, (5, 1, 1, 1, []), (3, 1, 3, 1, []), (3, 2, 4, 0, []), bz, (40, 3, 17, 0, []), bz, bz, (10, 1, 5, 0, []), (6, 2, 7, 0, []), bz, (1, 1, 0, 0, []), (6, 2, 8, 0, []), bz, (3, 2, 8, 0, []), bz, (1, 2, 1, 16, []), bz, (22, 3, 107, 3, []), bz, bz, (5, 1, 0, 1, []), (25, 3, 90, 0, []), bz, bz, (3, 2, 8, 0, []), bz, (20, 1, 0, 0, []), (27, 1, 0, 0, []), (3, 2, 7, 0, []), bz, (3, 2, 8, 0, []), bz, (10, 1, 7, 0, []), (1, 1, 0, 1, []), (10, 1, 3, 0, []), (3, 2, 5, 0, []), bz, (10, 1, 6, 0, []), (10, 1, 4, 0, []), (28, 1, 0, 0, []), (9, 3, 8, 1, []), bz, bz, (23, 3, 74, 0, []), bz, bz, (9, 3, 5, 1, []), bz, bz, (23, 3, 27, 0, []), bz, bz, (44, 1, 0, 0, [])]
def cd_X3_clashes : List bh_I := [(1, 1, 0, 0, []), (6, 1, 1, 1, []), (1, 1, 0, 0, []), (6, 1, 2, 1, []), (3, 1, 2, 1, []), (1, 2, 1, 16, []), bz, (22, 3, 53, 3, []), bz, bz, (3, 1, 2, 1, []), (1, 1, 0, 1, []), (10, 1, 0, 0, []), (6, 1, 3, 1, []), (3, 1, 3, 1, []), (1, 2, 1, 16, []), bz, (22, 3, 47, 3, []), bz, bz, (5, 1, 0, 1, []), (25, 3, 90, 0, []), bz, bz, (3, 1, 2, 1, []), (27, 1, 0, 0, []), (5, 1, 0, 1, []), (25, 3, 90, 0, []), bz, bz, (3, 1, 3, 1, []), (27, 1, 0, 0, []), (40, 3, 18, 0, []), bz, bz, (21, 3, 41, 0, []), bz, bz, (9, 3, 1, 1, []), bz, bz, (9, 3, 3, 1, []), bz, bz, (23, 3, 14, 0, []), bz, bz, (9, 3, 2, 1, []), bz, bz, (23, 3, 4, 0, []), bz, bz, (3, 1, 1, 1, []), (41, 1, 0, 0, [])]
def cd_X3_clash : List bh_I := [(3, 1, 0, 1, []), (3, 1, 1, 1, []), (10, 1, 3, 0, []), (6, 1, 2, 1, []), (3, 1, 2, 1, []), (21, 3, 22, 0, []), bz, bz, (3, 1, 2, 1, []), (3, 1, 0, 1, []), (22, 3, 22, 0, []), bz, bz, (3, 1, 2, 1, []), (3, 1, 1, 1, []), (22, 3, 22, 0, []), bz, bz, (1, 1, 0, 1, []), (23, 3, 23, 0, []), bz, bz, (1, 1, 0, 0, []), (41, 1, 0, 0, [])]
def cd_X3_unlikeSets : List bh_I := [(1, 1, 0, 0, []), (6, 1, 1, 1, []), (1, 1, 0, 0, []), (6, 1, 2, 1, []), (3, 1, 2, 1, []), (1, 2, 1, 16, []), bz, (22, 3, 36, 3, []), bz, bz, (5, 1, 0, 1, []), (25, 3, 90, 0, []), bz, bz, (3, 1, 2, 1, []), (27, 1, 0, 0, []), (21, 3, 30, 0, []), bz, bz, (5, 1, 0, 1, []), (3, 1, 2, 1, []), (40, 3, 19, 0, []), bz, bz, (21, 3, 30, 0, []), bz, bz, (9, 3, 1, 1, []), bz, bz, (9, 3, 2, 1, []), bz, bz, (23, 3, 4, 0, []), bz, bz, (3, 1, 1, 1, []), (41, 1, 0, 0, [])]
def cd_X3_isFirstOfItsLike : List bh_I := [(1, 1, 0, 0, []), (6, 1, 2, 1, []), (3, 1, 2, 1, []), (3, 1, 1, 1, []), (22, 3, 30, 3, []), bz, bz, (5, 1, 0, 1, []), (25, 3, 90, 0, []), bz, bz, (3, 1, 2, 1, []), (27, 1, 0, 0, []), (5, 1, 0, 1, []), (25, 3, 90, 0, []), bz, bz, (3, 1, 1, 1, []), (27, 1, 0, 0, []), (22, 3, 24, 1, []), bz, bz, (1, 1, 0, 0, []), (41, 1, 0, 0, []), (9, 3, 2, 1, []), bz, bz, (23, 3, 2, 0, []), bz, bz, (1, 1, 0, 1, []), (41, 1, 0, 0, [])]
def cd_X3_longestRow : List bh_I := [(1, 1, 0, 0, []), (6, 1, 1, 1, []), (1, 1, 0, 1, []), (6, 1, 2, 1, []), (3, 1, 2, 1, []), (1, 2, 1, 12, []), bz, (22, 3, 67, 4, []), bz, bz, (1, 1, 0, 0, []), (6, 1, 3, 1, []), (3, 1, 3, 1, []), (1, 2, 1, 16, []), bz, (22, 3, 61, 3, []), bz, bz, (5, 1, 0, 1, []), (25, 3, 90, 0, []), bz, bz, (3, 1, 3, 1, []), (27, 1, 0, 0, []), (40, 3, 20, 0, []), bz, bz, (3, 1, 2, 1, []), (22, 3, 55, 1, []), bz, bz, (5, 1, 0, 1, []), (25, 3, 92, 0, []), bz, bz, (3, 1, 3, 1, []), (1, 1, 0, 1, []), (5, 1, 0, 1, []), (3, 1, 3, 1, []), (40, 3, 21, 0, []), bz, bz, (10, 1, 0, 0, []), (28, 1, 0, 0, []), (3, 1, 1, 1, []), (5, 1, 0, 1, []), (25, 3, 92, 0, []), bz, bz, (3, 1, 3, 1, []), (27, 1, 0, 0, []), (49, 3, 0, 51, [1017]), bz, bz, (6, 1, 1, 1, []), (9, 3, 3, 1, []), bz, bz, (23, 3, 12, 0, []), bz, bz, (9, 3, 2, 1, []), bz, bz, (23, 3, 4, 0, []), bz, bz, (3, 1, 1, 1, []), (41, 1, 0, 0, [])]
def cd_X3_longestWithin : List bh_I := [(1, 1, 0, 0, []), (6, 1, 2, 1, []), (1, 1, 0, 0, []), (6, 1, 3, 1, []), (3, 1, 3, 1, []), (1, 2, 1, 16, []), bz, (22, 3, 81, 3, []), bz, bz, (5, 1, 0, 1, []), (25, 3, 90, 0, []), bz, bz, (3, 1, 3, 1, []), (27, 1, 0, 0, []), (21, 3, 38, 0, []), bz, bz, (5, 1, 0, 1, []), (25, 3, 90, 0, []), bz, bz, (3, 1, 3, 1, []), (27, 1, 0, 0, []), (5, 1, 0, 1, []), (25, 3, 90, 0, []), bz, bz, (3, 1, 1, 1, []), (27, 1, 0, 0, []), (22, 3, 38, 0, []), bz, bz, (1, 1, 0, 1, []), (23, 3, 39, 0, []), bz, bz, (1, 1, 0, 0, []), (6, 2, 4, 0, []), bz, (3, 2, 4, 0, []), bz, (21, 3, 75, 0, []), bz, bz, (5, 1, 0, 1, []), (25, 3, 90, 0, []), bz, bz, (3, 1, 3, 1, []), (27, 1, 0, 0, []), (5, 1, 0, 1, []), (25, 3, 90, 0, []), bz, bz, (3, 1, 1, 1, []), (27, 1, 0, 0, []), (1, 1, 0, (-1), []), (10, 1, 5, 0, []), (10, 1, 3, 0, []), (21, 3, 75, 1, []), bz, bz, (3, 1, 2, 1, []), (5, 1, 0, 1, []), (25, 3, 92, 0, []), bz, bz, (3, 1, 3, 1, []), (27, 1, 0, 0, []), (49, 3, 0, 51, [1017]), bz, bz, (6, 1, 2, 1, []), (9, 3, 3, 1, []), bz, bz, (23, 3, 4, 0, []), bz, bz, (3, 1, 2, 1, []), (41, 1, 0, 0, [])]
def cd_X4_init : List bh_I := [(5, 1, 0, 1, []), (39, 3, 0, 3, [293]), bz, bz, (44, 1, 0, 0, [])]
def cd_X4_search : List bh_I := [(5, 1, 0, 1, []), (1, 1, 0, 0, []), (26, 3, 73, 0, []), bz, bz, (1, 1, 0, 0, []), (6, 2, 5, 0, []), bz, (3, 2, 5, 0, []), bz, (5, 1, 1, 1, []), (25, 3, 1, 0, []), bz, bz, (22, 3, 108, 3, []), bz, bz, (1, 1, 0, 0, []), (6, 2, 6, 0, []), bz, (3, 2, 6, 0, []), bz, (5, 1, 2, 1, []), (25, 3, 64, 0, []), bz, bz, (22, 3, 102, 3, []), bz, bz, (5, 1, 2, 1, []), (25, 3, 61, 0, []), bz, bz, (3, 2, 6, 0, []), bz, (27, 1, 0, 0, []), (3, 2, 5, 0, []), bz, (22, 3, 54, 1, []), bz, bz, (5, 1, 1, 1, []), (3, 2, 5, 0, []), bz, (40, 3, 22, 0, []), bz, bz, (21, 3, 54, 1, []), bz, bz, (1, 1, 0, 1, []), (23, 3, 55, 0, []), bz, bz, (1, 1, 0, 0, []), (6, 2, 7, 0, []), bz, (3, 2, 7, 0, []), bz, (21, 3, 96, 0, []), bz, bz, (5, 1, 0, 1, []), (5, 1, 1, 1, []), (5, 1, 2, 1, []), (3, 2, 6, 0, []), bz, (3, 2, 4, 0, []), bz, (40, 3, 23, 0, []), bz, bz, (21, 3, 96, 0, []), bz, bz, (5, 1, 0, 1, []), (5, 1, 1, 1, []), (3, 2, 5, 0, []), bz, (5, 1, 2, 1, []), (5, 1, 1, 1, []), (3, 2, 6, 0, []), bz, (1, 1, 0, 1, []), (10, 1, 0, 0, []), (5, 1, 2, 1, []), (25, 3, 64, 0, []), bz, bz, (3, 1, 3, 1, []), (40, 3, 24, 0, []), bz, bz, (40, 3, 25, 0, []), bz, bz, (9, 3, 6, 1, []), bz, bz, (23, 3, 20, 0, []), bz, bz, (9, 3, 5, 1, []), bz, bz, (23, 3, 8, 0, []), bz, bz, (44, 1, 0, 0, [])]
def cd_X4_ofFirst : List bh_I := [(3, 1, 1, 1, []), (24, 27, 50, 1, [28, 33, 38]), bz, bz, bz, bz, bz, bz, bz, bz, bz, bz, bz, bz, bz, bz, bz, bz, bz, bz, bz, bz, bz, bz, bz, bz, bz, bz, (5, 1, 0, 1, []), (25, 3, 75, 0, []), bz, bz, (41, 1, 0, 0, []), (5, 1, 0, 1, []), (25, 3, 76, 0, []), bz, bz, (41, 1, 0, 0, []), (5, 1, 0, 1, []), (25, 3, 76, 0, []), bz, bz, (5, 1, 0, 1, []), (25, 3, 77, 0, []), bz, bz, (40, 3, 26, 0, []), bz, bz, (41, 1, 0, 0, []), (5, 1, 0, 1, []), (25, 3, 76, 0, []), bz, bz, (5, 1, 0, 1, []), (25, 3, 78, 0, []), bz, bz, (40, 3, 27, 0, []), bz, bz, (41, 1, 0, 0, [])]
def cd_X4_findDemand : List bh_I := [(5, 1, 2, 1, []), (5, 1, 1, 1, []), (1, 1, 0, 0, []), (3, 1, 3, 1, []), (1, 1, 0, 0, []), (40, 3, 24, 0, []), bz, bz, (6, 2, 5, 0, []), bz, (3, 2, 4, 0, []), bz, (3, 2, 5, 0, []), bz, (10, 1, 5, 0, []), (6, 2, 6, 0, []), bz, (1, 1, 0, 0, []), (6, 2, 7, 0, []), bz, (5, 1, 0, 1, []), (1, 1, 0, 0, []), (26, 3, 79, 0, []), bz, bz, (5, 1, 0, 1, []), (1, 1, 0, 0, []), (26, 3, 80, 0, []), bz, bz, (1, 1, 0, 0, []), (6, 2, 8, 0, []), bz, (3, 2, 8, 0, []), bz, (1, 2, 1, 16, []), bz, (22, 3, 128, 3, []), bz, bz, (5, 1, 2, 1, []), (5, 1, 1, 1, []), (1, 1, 0, 0, []), (3, 1, 3, 1, []), (1, 1, 0, 1, []), (3, 2, 8, 0, []), bz, (10, 1, 6, 0, []), (40, 3, 24, 0, []), bz, bz, (3, 2, 5, 0, []), bz, (10, 1, 5, 0, []), (6, 2, 9, 0, []), bz, (3, 2, 7, 0, []), bz, (3, 2, 9, 0, []), bz, (10, 1, 4, 0, []), (6, 2, 7, 0, []), bz, (3, 2, 9, 0, []), bz, (21, 3, 81, 0, []), bz, bz, (5, 1, 0, 1, []), (18, 1, 0, 0, []), (25, 3, 79, 0, []), bz, bz, (1, 1, 0, 1, []), (3, 2, 8, 0, []), bz, (10, 1, 6, 0, []), (10, 1, 4, 0, []), (26, 3, 79, 0, []), bz, bz, (3, 2, 9, 0, []), bz, (21, 3, 112, 0, []), bz, bz, (3, 2, 6, 0, []), bz, (3, 2, 9, 0, []), bz, (10, 1, 3, 0, []), (3, 2, 9, 0, []), bz, (22, 3, 112, 1, []), bz, bz, (5, 1, 0, 1, []), (18, 1, 0, 0, []), (25, 3, 80, 0, []), bz, bz, (1, 1, 0, 1, []), (3, 2, 8, 0, []), bz, (10, 1, 6, 0, []), (10, 1, 4, 0, []), (26, 3, 80, 0, []), bz, bz, (23, 3, 122, 0, []), bz, bz, (3, 2, 6, 0, []), bz, (3, 2, 9, 0, []), bz, (10, 1, 3, 0, []), (21, 3, 122, 0, []), bz, bz, (1, 1, 0, 0, []), (41, 1, 0, 0, []), (9, 3, 8, 1, []), bz, bz, (23, 3, 33, 0, []), bz, bz, (3, 2, 6, 0, []), bz, (3, 2, 7, 0, []), bz, (1, 1, 0, (-1), []), (10, 1, 5, 0, []), (10, 1, 3, 0, []), (21, 3, 142, 1, []), bz, bz, (1, 1, 0, 1, []), (23, 3, 143, 0, []), bz, bz, (1, 1, 0, 0, []), (41, 1, 0, 0, [])]
def cd_X4_tryHabits : List bh_I := [(1, 1, 0, 0, []), (6, 2, 4, 0, []), bz, (3, 2, 4, 0, []), bz, (1, 2, 1, 6, []), bz, (22, 3, 131, 4, []), bz, bz, (3, 2, 4, 0, []), bz, (40, 3, 28, 0, []), bz, bz, (21, 3, 23, 5, []), bz, bz, (1, 2, 1, 16, []), bz, (23, 3, 24, 0, []), bz, bz, (1, 1, 0, 1, []), (6, 2, 5, 0, []), bz, (3, 2, 4, 0, []), bz, (40, 3, 28, 0, []), bz, bz, (1, 1, 0, 1, []), (22, 3, 40, 5, []), bz, bz, (1, 2, 1, 16, []), bz, (23, 3, 41, 0, []), bz, bz, (1, 1, 0, 1, []), (6, 2, 6, 0, []), bz, (1, 1, 0, 0, []), (6, 2, 7, 0, []), bz, (3, 2, 7, 0, []), bz, (3, 2, 5, 0, []), bz, (22, 3, 125, 3, []), bz, bz, (1, 1, 0, 0, []), (6, 2, 8, 0, []), bz, (3, 2, 8, 0, []), bz, (3, 2, 6, 0, []), bz, (22, 3, 119, 3, []), bz, bz, (5, 1, 1, 1, []), (3, 1, 2, 1, []), (3, 2, 4, 0, []), bz, (3, 2, 7, 0, []), bz, (3, 2, 8, 0, []), bz, (40, 3, 29, 0, []), bz, bz, (21, 3, 81, 1, []), bz, bz, (1, 1, 0, 1, []), (23, 3, 82, 0, []), bz, bz, (1, 1, 0, 0, []), (6, 2, 9, 0, []), bz, (3, 2, 9, 0, []), bz, (21, 3, 113, 0, []), bz, bz, (3, 2, 4, 0, []), bz, (3, 2, 7, 0, []), bz, (3, 2, 8, 0, []), bz, (40, 3, 30, 0, []), bz, bz, (21, 3, 113, 0, []), bz, bz, (5, 1, 0, 1, []), (3, 1, 2, 1, []), (3, 2, 4, 0, []), bz, (3, 2, 7, 0, []), bz, (3, 2, 8, 0, []), bz, (3, 1, 3, 1, []), (40, 3, 31, 0, []), bz, bz, (9, 3, 8, 1, []), bz, bz, (23, 3, 56, 0, []), bz, bz, (9, 3, 7, 1, []), bz, bz, (23, 3, 46, 0, []), bz, bz, (9, 3, 4, 1, []), bz, bz, (23, 3, 3, 0, []), bz, bz, (44, 1, 0, 0, [])]
def cd_X4_tryOne : List bh_I := [(3, 1, 2, 1, []), (3, 1, 3, 1, []), (3, 2, 4, 0, []), bz, (3, 2, 5, 0, []), bz, (40, 3, 32, 0, []), bz, bz, (5, 1, 0, 1, []), (25, 3, 79, 0, []), bz, bz, (10, 1, 3, 0, []), (5, 1, 0, 1, []), (25, 3, 80, 0, []), bz, bz, (22, 3, 22, 0, []), bz, bz, (44, 1, 0, 0, []), (5, 1, 0, 1, []), (25, 3, 73, 0, []), bz, bz, (21, 3, 50, 1, []), bz, bz, (5, 1, 0, 1, []), (3, 1, 1, 1, []), (26, 3, 75, 0, []), bz, bz, (5, 1, 0, 1, []), (3, 1, 2, 1, []), (26, 3, 76, 0, []), bz, bz, (5, 1, 0, 1, []), (3, 1, 3, 1, []), (26, 3, 77, 0, []), bz, bz, (5, 1, 0, 1, []), (3, 2, 4, 0, []), bz, (26, 3, 78, 0, []), bz, bz, (5, 1, 0, 1, []), (18, 1, 0, 0, []), (25, 3, 73, 0, []), bz, bz, (1, 1, 0, 1, []), (10, 1, 0, 0, []), (26, 3, 73, 0, []), bz, bz, (44, 1, 0, 0, [])]
def cd_X5_init : List bh_I := [(5, 1, 0, 1, []), (39, 3, 0, 3, [322]), bz, bz, (5, 1, 0, 1, []), (1, 2, 1, 16, []), bz, (37, 2, 20, 0, []), bz, (26, 3, 81, 0, []), bz, bz, (5, 1, 0, 1, []), (1, 2, 1, 16, []), bz, (37, 2, 20, 0, []), bz, (26, 3, 83, 0, []), bz, bz, (44, 1, 0, 0, [])]
def cd_X5_cut : List bh_I := [(5, 1, 0, 1, []), (1, 1, 0, 0, []), (26, 3, 85, 0, []), bz, bz, (1, 1, 0, 0, []), (6, 2, 5, 0, []), bz, (3, 2, 5, 0, []), bz, (5, 1, 1, 1, []), (25, 3, 10, 0, []), bz, bz, (22, 3, 121, 3, []), bz, bz, (5, 1, 1, 1, []), (5, 1, 2, 1, []), (3, 1, 3, 1, []), (3, 2, 4, 0, []), bz, (3, 2, 5, 0, []), bz, (40, 3, 33, 0, []), bz, bz, (6, 2, 6, 0, []), bz, (3, 2, 6, 0, []), bz, (21, 3, 40, 1, []), bz, bz, (5, 1, 0, 1, []), (1, 1, 0, 0, []), (26, 3, 85, 0, []), bz, bz, (44, 1, 0, 0, []), (5, 1, 0, 1, []), (25, 3, 85, 0, []), bz, bz, (21, 3, 83, 5, []), bz, bz, (5, 1, 0, 1, []), (25, 3, 83, 0, []), bz, bz, (5, 1, 0, 1, []), (25, 3, 85, 0, []), bz, bz, (1, 1, 0, 1, []), (10, 1, 1, 0, []), (27, 1, 0, 0, []), (3, 2, 6, 0, []), bz, (10, 1, 3, 0, []), (21, 3, 83, 0, []), bz, bz, (5, 1, 0, 1, []), (25, 3, 83, 0, []), bz, bz, (5, 1, 0, 1, []), (25, 3, 85, 0, []), bz, bz, (1, 1, 0, 1, []), (10, 1, 1, 0, []), (20, 1, 0, 0, []), (27, 1, 0, 0, []), (3, 2, 6, 0, []), bz, (10, 1, 3, 0, []), (28, 1, 0, 0, []), (23, 3, 115, 0, []), bz, bz, (5, 1, 0, 1, []), (25, 3, 81, 0, []), bz, bz, (5, 1, 0, 1, []), (25, 3, 85, 0, []), bz, bz, (3, 2, 5, 0, []), bz, (28, 1, 0, 0, []), (5, 1, 0, 1, []), (25, 3, 83, 0, []), bz, bz, (5, 1, 0, 1, []), (25, 3, 85, 0, []), bz, bz, (3, 2, 6, 0, []), bz, (28, 1, 0, 0, []), (5, 1, 0, 1, []), (18, 1, 0, 0, []), (25, 3, 85, 0, []), bz, bz, (1, 1, 0, 1, []), (10, 1, 0, 0, []), (26, 3, 85, 0, []), bz, bz, (9, 3, 5, 1, []), bz, bz, (23, 3, 8, 0, []), bz, bz, (44, 1, 0, 0, [])]
def cd_X5_whoMade : List bh_I := [(5, 1, 0, 1, []), (3, 1, 3, 1, []), (3, 2, 4, 0, []), bz, (40, 3, 34, 0, []), bz, bz, (6, 2, 5, 0, []), bz, (5, 1, 0, 1, []), (25, 3, 52, 0, []), bz, bz, (3, 2, 4, 0, []), bz, (27, 1, 0, 0, []), (6, 2, 6, 0, []), bz, (5, 1, 0, 1, []), (3, 1, 2, 1, []), (5, 1, 0, 1, []), (3, 1, 3, 1, []), (3, 2, 5, 0, []), bz, (40, 3, 35, 0, []), bz, bz, (40, 3, 36, 0, []), bz, bz, (3, 2, 6, 0, []), bz, (22, 3, 41, 1, []), bz, bz, (1, 3, 2, 4096, []), bz, bz, (23, 3, 42, 0, []), bz, bz, (1, 1, 0, 0, []), (6, 2, 7, 0, []), bz, (1, 1, 0, 0, []), (6, 2, 8, 0, []), bz, (3, 2, 8, 0, []), bz, (5, 1, 0, 1, []), (25, 3, 4, 0, []), bz, bz, (22, 3, 118, 3, []), bz, bz, (5, 1, 0, 1, []), (25, 3, 21, 0, []), bz, bz, (3, 2, 8, 0, []), bz, (27, 1, 0, 0, []), (5, 1, 0, 1, []), (25, 3, 21, 0, []), bz, bz, (3, 1, 2, 1, []), (27, 1, 0, 0, []), (22, 3, 112, 3, []), bz, bz, (5, 1, 1, 1, []), (5, 1, 0, 1, []), (3, 2, 8, 0, []), bz, (3, 1, 3, 1, []), (3, 2, 5, 0, []), bz, (40, 3, 37, 0, []), bz, bz, (6, 2, 9, 0, []), bz, (3, 2, 9, 0, []), bz, (1, 2, 1, (-2), []), bz, (22, 3, 112, 0, []), bz, bz, (5, 1, 0, 1, []), (3, 1, 2, 1, []), (3, 2, 9, 0, []), bz, (40, 3, 36, 0, []), bz, bz, (3, 2, 6, 0, []), bz, (22, 3, 112, 1, []), bz, bz, (3, 2, 7, 0, []), bz, (1, 1, 0, 1, []), (3, 2, 8, 0, []), bz, (10, 1, 6, 0, []), (10, 1, 4, 0, []), (6, 2, 7, 0, []), bz, (9, 3, 8, 1, []), bz, bz, (23, 3, 47, 0, []), bz, bz, (3, 2, 7, 0, []), bz, (41, 1, 0, 0, [])]
def cd_X6_init : List bh_I := [(5, 1, 0, 1, []), (39, 3, 0, 3, [232]), bz, bz, (5, 1, 0, 1, []), (1, 3, 2, 400, []), bz, bz, (37, 2, 20, 0, []), bz, (26, 3, 54, 0, []), bz, bz, (44, 1, 0, 0, [])]
def cd_X6_hasRoom : List bh_I := [(5, 1, 0, 1, []), (25, 3, 55, 0, []), bz, bz, (3, 1, 1, 1, []), (10, 1, 0, 0, []), (1, 3, 2, 400, []), bz, bz, (22, 3, 16, 4, []), bz, bz, (1, 1, 0, 1, []), (23, 3, 17, 0, []), bz, bz, (1, 1, 0, 0, []), (41, 1, 0, 0, [])]
def cd_X6_append : List bh_I := [(1, 2, 1, 24, []), bz, (6, 1, 2, 1, []), (3, 1, 2, 1, []), (21, 3, 39, 2, []), bz, bz, (5, 1, 0, 1, []), (25, 3, 54, 0, []), bz, bz, (5, 1, 0, 1, []), (25, 3, 55, 0, []), bz, bz, (3, 1, 1, 1, []), (3, 1, 2, 1, []), (10, 1, 8, 0, []), (1, 3, 2, 255, []), bz, bz, (10, 1, 3, 0, []), (28, 1, 0, 0, []), (5, 1, 0, 1, []), (18, 1, 0, 0, []), (25, 3, 55, 0, []), bz, bz, (1, 1, 0, 1, []), (10, 1, 0, 0, []), (26, 3, 55, 0, []), bz, bz, (9, 3, 2, (-8), []), bz, bz, (23, 3, 3, 0, []), bz, bz, (44, 1, 0, 0, [])]
def cd_X6_readInto : List bh_I := [(5, 1, 1, 1, []), (40, 3, 38, 0, []), bz, bz, (5, 1, 0, 1, []), (1, 1, 0, 0, []), (26, 3, 57, 0, []), bz, bz, (5, 1, 0, 1, []), (1, 1, 0, 0, []), (26, 3, 59, 0, []), bz, bz, (5, 1, 0, 1, []), (40, 3, 39, 0, []), bz, bz, (5, 1, 0, 1, []), (25, 3, 57, 0, []), bz, bz, (5, 1, 0, 1, []), (25, 3, 55, 0, []), bz, bz, (22, 3, 33, 3, []), bz, bz, (1, 1, 0, 1, []), (23, 3, 34, 0, []), bz, bz, (1, 1, 0, 0, []), (6, 1, 2, 1, []), (1, 1, 0, 0, []), (6, 1, 3, 1, []), (3, 1, 2, 1, []), (21, 3, 75, 0, []), bz, bz, (3, 1, 3, 1, []), (1, 3, 2, 400, []), bz, bz, (22, 3, 75, 4, []), bz, bz, (5, 1, 0, 1, []), (5, 1, 1, 1, []), (40, 3, 40, 0, []), bz, bz, (21, 3, 67, 0, []), bz, bz, (5, 1, 0, 1, []), (40, 3, 41, 0, []), bz, bz, (21, 3, 67, 0, []), bz, bz, (1, 1, 0, 1, []), (23, 3, 68, 0, []), bz, bz, (1, 1, 0, 0, []), (6, 1, 2, 1, []), (9, 3, 3, 1, []), bz, bz, (23, 3, 37, 0, []), bz, bz, (5, 1, 0, 1, []), (25, 3, 59, 0, []), bz, bz, (41, 1, 0, 0, [])]
def cd_X6_readPart : List bh_I := [(5, 1, 0, 1, []), (40, 3, 42, 0, []), bz, bz, (5, 1, 0, 1, []), (45, 2, 0, 44, []), bz, (40, 3, 43, 0, []), bz, bz, (21, 3, 40, 0, []), bz, bz, (5, 1, 1, 1, []), (25, 3, 6, 0, []), bz, bz, (1, 2, 1, 12, []), bz, (22, 3, 30, 3, []), bz, bz, (5, 1, 0, 1, []), (5, 1, 1, 1, []), (40, 3, 44, 0, []), bz, bz, (23, 3, 39, 0, []), bz, bz, (5, 1, 0, 1, []), (5, 1, 0, 1, []), (25, 3, 58, 0, []), bz, bz, (1, 1, 0, 3, []), (40, 3, 45, 0, []), bz, bz, (41, 1, 0, 0, []), (5, 1, 0, 1, []), (45, 2, 9, 63, []), bz, (40, 3, 43, 0, []), bz, bz, (21, 3, 75, 0, []), bz, bz, (5, 1, 1, 1, []), (25, 3, 8, 0, []), bz, bz, (1, 1, 0, 4, []), (22, 3, 65, 3, []), bz, bz, (5, 1, 0, 1, []), (5, 1, 1, 1, []), (40, 3, 46, 0, []), bz, bz, (23, 3, 74, 0, []), bz, bz, (5, 1, 0, 1, []), (5, 1, 0, 1, []), (25, 3, 58, 0, []), bz, bz, (1, 1, 0, 3, []), (40, 3, 45, 0, []), bz, bz, (41, 1, 0, 0, []), (5, 1, 0, 1, []), (5, 1, 0, 1, []), (25, 3, 58, 0, []), bz, bz, (1, 1, 0, 1, []), (40, 3, 45, 0, []), bz, bz, (41, 1, 0, 0, [])]
def cd_X6_readSemicolon : List bh_I := [(5, 1, 0, 1, []), (40, 3, 39, 0, []), bz, bz, (5, 1, 0, 1, []), (25, 3, 57, 0, []), bz, bz, (5, 1, 0, 1, []), (25, 3, 55, 0, []), bz, bz, (22, 3, 17, 2, []), bz, bz, (1, 1, 0, 0, []), (41, 1, 0, 0, []), (5, 1, 0, 1, []), (25, 3, 54, 0, []), bz, bz, (5, 1, 0, 1, []), (25, 3, 57, 0, []), bz, bz, (27, 1, 0, 0, []), (1, 2, 1, 59, []), bz, (22, 3, 41, 0, []), bz, bz, (5, 1, 0, 1, []), (5, 1, 0, 1, []), (25, 3, 57, 0, []), bz, bz, (1, 1, 0, 1, []), (40, 3, 45, 0, []), bz, bz, (41, 1, 0, 0, []), (5, 1, 0, 1, []), (18, 1, 0, 0, []), (25, 3, 57, 0, []), bz, bz, (1, 1, 0, 1, []), (10, 1, 0, 0, []), (26, 3, 57, 0, []), bz, bz, (1, 1, 0, 1, []), (41, 1, 0, 0, [])]
def cd_X6_readWriter : List bh_I := [(5, 1, 1, 1, []), (25, 3, 6, 0, []), bz, bz, (6, 1, 2, 1, []), (5, 1, 0, 1, []), (1, 1, 0, 0, []), (1, 2, 1, 99, []), bz, (40, 3, 47, 0, []), bz, bz, (6, 1, 3, 1, []), (5, 1, 0, 1, []), (25, 3, 59, 0, []), bz, bz, (21, 3, 22, 0, []), bz, bz, (1, 1, 0, 0, []), (41, 1, 0, 0, []), (5, 1, 1, 1, []), (3, 1, 3, 1, []), (40, 3, 48, 0, []), bz, bz, (5, 1, 0, 1, []), (5, 1, 1, 1, []), (3, 1, 2, 1, []), (40, 3, 49, 0, []), bz, bz, (21, 3, 38, 1, []), bz, bz, (1, 1, 0, 0, []), (41, 1, 0, 0, []), (5, 1, 0, 1, []), (40, 3, 39, 0, []), bz, bz, (5, 1, 0, 1, []), (25, 3, 57, 0, []), bz, bz, (5, 1, 0, 1, []), (25, 3, 55, 0, []), bz, bz, (22, 3, 77, 3, []), bz, bz, (5, 1, 0, 1, []), (25, 3, 54, 0, []), bz, bz, (5, 1, 0, 1, []), (25, 3, 57, 0, []), bz, bz, (27, 1, 0, 0, []), (40, 3, 50, 0, []), bz, bz, (21, 3, 77, 0, []), bz, bz, (5, 1, 0, 1, []), (5, 1, 1, 1, []), (3, 1, 2, 1, []), (40, 3, 51, 0, []), bz, bz, (21, 3, 81, 0, []), bz, bz, (1, 1, 0, 1, []), (23, 3, 82, 0, []), bz, bz, (1, 1, 0, 0, []), (41, 1, 0, 0, [])]
def cd_X6_readHabit : List bh_I := [(5, 1, 0, 1, []), (40, 3, 42, 0, []), bz, bz, (5, 1, 0, 1, []), (40, 3, 52, 0, []), bz, bz, (6, 1, 3, 1, []), (3, 1, 3, 1, []), (1, 1, 0, (-1), []), (22, 3, 24, 1, []), bz, bz, (5, 1, 0, 1, []), (5, 1, 0, 1, []), (25, 3, 58, 0, []), bz, bz, (1, 1, 0, 1, []), (40, 3, 45, 0, []), bz, bz, (41, 1, 0, 0, []), (1, 1, 0, 0, []), (6, 2, 4, 0, []), bz, (1, 1, 0, 0, []), (6, 2, 5, 0, []), bz, (3, 1, 3, 1, []), (40, 3, 53, 0, []), bz, bz, (21, 3, 55, 5, []), bz, bz, (5, 1, 0, 1, []), (3, 1, 3, 1, []), (1, 1, 0, 4, []), (22, 3, 47, 1, []), bz, bz, (1, 1, 0, 1, []), (23, 3, 48, 0, []), bz, bz, (1, 1, 0, 0, []), (1, 2, 1, 15, []), bz, (40, 3, 47, 0, []), bz, bz, (6, 2, 4, 0, []), bz, (5, 1, 0, 1, []), (25, 3, 59, 0, []), bz, bz, (21, 3, 103, 1, []), bz, bz, (3, 1, 3, 1, []), (40, 3, 53, 0, []), bz, bz, (1, 1, 0, 1, []), (22, 3, 103, 5, []), bz, bz, (5, 1, 0, 1, []), (1, 1, 0, 0, []), (1, 2, 1, 15, []), bz, (40, 3, 47, 0, []), bz, bz, (6, 2, 5, 0, []), bz, (5, 1, 0, 1, []), (25, 3, 59, 0, []), bz, bz, (21, 3, 103, 1, []), bz, bz, (3, 2, 5, 0, []), bz, (3, 2, 4, 0, []), bz, (22, 3, 103, 1, []), bz, bz, (5, 1, 0, 1, []), (5, 1, 0, 1, []), (25, 3, 58, 0, []), bz, bz, (1, 1, 0, 2, []), (40, 3, 45, 0, []), bz, bz, (19, 1, 0, 0, []), (5, 1, 1, 1, []), (3, 1, 2, 1, []), (3, 1, 3, 1, []), (3, 2, 4, 0, []), bz, (3, 2, 5, 0, []), bz, (40, 3, 54, 0, []), bz, bz, (5, 1, 0, 1, []), (25, 3, 59, 0, []), bz, bz, (21, 3, 124, 1, []), bz, bz, (1, 1, 0, 1, []), (23, 3, 125, 0, []), bz, bz, (1, 1, 0, 0, []), (41, 1, 0, 0, [])]
def cd_X6_readUnder : List bh_I := [(5, 1, 0, 1, []), (40, 3, 42, 0, []), bz, bz, (5, 1, 0, 1, []), (45, 2, 8, 104, []), bz, (40, 3, 43, 0, []), bz, bz, (21, 3, 23, 1, []), bz, bz, (5, 1, 0, 1, []), (5, 1, 0, 1, []), (25, 3, 58, 0, []), bz, bz, (1, 1, 0, 1, []), (40, 3, 45, 0, []), bz, bz, (41, 1, 0, 0, []), (5, 1, 0, 1, []), (1, 1, 0, 0, []), (3, 1, 2, 1, []), (1, 1, 0, 1, []), (10, 1, 1, 0, []), (40, 3, 47, 0, []), bz, bz, (6, 1, 3, 1, []), (5, 1, 0, 1, []), (25, 3, 59, 0, []), bz, bz, (21, 3, 41, 0, []), bz, bz, (1, 1, 0, 0, []), (41, 1, 0, 0, []), (5, 1, 1, 1, []), (25, 3, 23, 0, []), bz, bz, (3, 1, 3, 1, []), (27, 1, 0, 0, []), (5, 1, 1, 1, []), (25, 3, 23, 0, []), bz, bz, (3, 1, 2, 1, []), (27, 1, 0, 0, []), (22, 3, 66, 2, []), bz, bz, (5, 1, 0, 1, []), (5, 1, 0, 1, []), (25, 3, 58, 0, []), bz, bz, (1, 1, 0, 4, []), (40, 3, 45, 0, []), bz, bz, (41, 1, 0, 0, []), (5, 1, 1, 1, []), (25, 3, 39, 0, []), bz, bz, (3, 1, 2, 1, []), (3, 1, 3, 1, []), (28, 1, 0, 0, []), (1, 1, 0, 1, []), (41, 1, 0, 0, [])]
def cd_X6_readBook : List bh_I := [(5, 1, 1, 1, []), (40, 3, 55, 0, []), bz, bz, (1, 1, 0, 0, []), (6, 1, 2, 1, []), (3, 1, 2, 1, []), (1, 2, 1, 8, []), bz, (22, 3, 88, 4, []), bz, bz, (5, 1, 0, 1, []), (1, 1, 0, 0, []), (1, 2, 3, 65535, [114, 575]), bz, (40, 3, 47, 0, []), bz, bz, (6, 1, 3, 1, []), (5, 1, 0, 1, []), (25, 3, 59, 0, []), bz, bz, (21, 3, 29, 0, []), bz, bz, (1, 1, 0, 0, []), (41, 1, 0, 0, []), (3, 1, 2, 1, []), (1, 2, 1, 8, []), bz, (22, 3, 45, 1, []), bz, bz, (5, 1, 0, 1, []), (5, 1, 0, 1, []), (25, 3, 58, 0, []), bz, bz, (1, 1, 0, 3, []), (40, 3, 45, 0, []), bz, bz, (41, 1, 0, 0, []), (5, 1, 1, 1, []), (3, 1, 3, 1, []), (40, 3, 56, 0, []), bz, bz, (5, 1, 0, 1, []), (40, 3, 39, 0, []), bz, bz, (5, 1, 0, 1, []), (25, 3, 57, 0, []), bz, bz, (5, 1, 0, 1, []), (25, 3, 55, 0, []), bz, bz, (22, 3, 80, 3, []), bz, bz, (5, 1, 0, 1, []), (25, 3, 54, 0, []), bz, bz, (5, 1, 0, 1, []), (25, 3, 57, 0, []), bz, bz, (27, 1, 0, 0, []), (40, 3, 57, 0, []), bz, bz, (21, 3, 82, 1, []), bz, bz, (1, 1, 0, 1, []), (41, 1, 0, 0, []), (9, 3, 2, 1, []), bz, bz, (23, 3, 6, 0, []), bz, bz, (1, 1, 0, 1, []), (41, 1, 0, 0, [])]
def cd_X6_readNumber : List bh_I := [(5, 1, 0, 1, []), (40, 3, 39, 0, []), bz, bz, (5, 1, 0, 1, []), (5, 1, 0, 1, []), (25, 3, 57, 0, []), bz, bz, (26, 3, 58, 0, []), bz, bz, (1, 1, 0, 0, []), (6, 1, 3, 1, []), (5, 1, 0, 1, []), (25, 3, 57, 0, []), bz, bz, (5, 1, 0, 1, []), (25, 3, 55, 0, []), bz, bz, (22, 3, 76, 3, []), bz, bz, (5, 1, 0, 1, []), (25, 3, 54, 0, []), bz, bz, (5, 1, 0, 1, []), (25, 3, 57, 0, []), bz, bz, (27, 1, 0, 0, []), (40, 3, 57, 0, []), bz, bz, (21, 3, 76, 0, []), bz, bz, (3, 1, 3, 1, []), (1, 2, 1, 10, []), bz, (10, 1, 2, 0, []), (5, 1, 0, 1, []), (25, 3, 54, 0, []), bz, bz, (5, 1, 0, 1, []), (25, 3, 57, 0, []), bz, bz, (27, 1, 0, 0, []), (10, 1, 0, 0, []), (1, 2, 1, 48, []), bz, (10, 1, 1, 0, []), (1, 2, 3, 1000000, [121, 523]), bz, (50, 3, 0, 122, [524]), bz, bz, (6, 1, 3, 1, []), (5, 1, 0, 1, []), (18, 1, 0, 0, []), (25, 3, 57, 0, []), bz, bz, (1, 1, 0, 1, []), (10, 1, 0, 0, []), (26, 3, 57, 0, []), bz, bz, (23, 3, 14, 0, []), bz, bz, (5, 1, 0, 1, []), (25, 3, 57, 0, []), bz, bz, (5, 1, 0, 1, []), (25, 3, 58, 0, []), bz, bz, (22, 3, 100, 1, []), bz, bz, (5, 1, 0, 1, []), (5, 1, 0, 1, []), (25, 3, 58, 0, []), bz, bz, (1, 1, 0, 1, []), (40, 3, 45, 0, []), bz, bz, (19, 1, 0, 0, []), (23, 3, 120, 0, []), bz, bz, (3, 1, 3, 1, []), (3, 1, 1, 1, []), (22, 3, 110, 2, []), bz, bz, (3, 1, 3, 1, []), (3, 1, 2, 1, []), (22, 3, 120, 5, []), bz, bz, (5, 1, 0, 1, []), (5, 1, 0, 1, []), (25, 3, 58, 0, []), bz, bz, (1, 1, 0, 2, []), (40, 3, 45, 0, []), bz, bz, (19, 1, 0, 0, []), (3, 1, 3, 1, []), (41, 1, 0, 0, [])]
def cd_X6_readWord : List bh_I := [(5, 1, 0, 1, []), (40, 3, 39, 0, []), bz, bz, (5, 1, 0, 1, []), (5, 1, 0, 1, []), (25, 3, 57, 0, []), bz, bz, (26, 3, 58, 0, []), bz, bz, (5, 1, 0, 1, []), (25, 3, 57, 0, []), bz, bz, (5, 1, 0, 1, []), (25, 3, 55, 0, []), bz, bz, (22, 3, 51, 3, []), bz, bz, (5, 1, 0, 1, []), (25, 3, 54, 0, []), bz, bz, (5, 1, 0, 1, []), (25, 3, 57, 0, []), bz, bz, (27, 1, 0, 0, []), (40, 3, 50, 0, []), bz, bz, (21, 3, 51, 0, []), bz, bz, (5, 1, 0, 1, []), (18, 1, 0, 0, []), (25, 3, 57, 0, []), bz, bz, (1, 1, 0, 1, []), (10, 1, 0, 0, []), (26, 3, 57, 0, []), bz, bz, (23, 3, 12, 0, []), bz, bz, (44, 1, 0, 0, [])]
def cd_X6_wordIs : List bh_I := [(5, 1, 1, 1, []), (46, 3, 0, 127, [464]), bz, bz, (5, 1, 0, 1, []), (25, 3, 57, 0, []), bz, bz, (5, 1, 0, 1, []), (25, 3, 58, 0, []), bz, bz, (10, 1, 1, 0, []), (22, 3, 18, 0, []), bz, bz, (1, 1, 0, 0, []), (41, 1, 0, 0, []), (1, 1, 0, 0, []), (6, 1, 2, 1, []), (3, 1, 2, 1, []), (5, 1, 1, 1, []), (46, 3, 0, 127, [464]), bz, bz, (22, 3, 55, 3, []), bz, bz, (5, 1, 0, 1, []), (25, 3, 54, 0, []), bz, bz, (5, 1, 0, 1, []), (25, 3, 58, 0, []), bz, bz, (3, 1, 2, 1, []), (10, 1, 0, 0, []), (27, 1, 0, 0, []), (5, 1, 1, 1, []), (3, 1, 2, 1, []), (47, 3, 0, 131, [474]), bz, bz, (22, 3, 49, 0, []), bz, bz, (1, 1, 0, 0, []), (41, 1, 0, 0, []), (9, 3, 2, 1, []), bz, bz, (23, 3, 20, 0, []), bz, bz, (1, 1, 0, 1, []), (41, 1, 0, 0, [])]
def cd_X6_kindOfWord : List bh_I := [(1, 1, 0, 0, []), (6, 1, 1, 1, []), (3, 1, 1, 1, []), (1, 2, 1, 6, []), bz, (22, 3, 27, 4, []), bz, bz, (5, 1, 0, 1, []), (3, 1, 1, 1, []), (40, 3, 58, 0, []), bz, bz, (40, 3, 43, 0, []), bz, bz, (21, 3, 21, 0, []), bz, bz, (3, 1, 1, 1, []), (41, 1, 0, 0, []), (9, 3, 1, 1, []), bz, bz, (23, 3, 2, 0, []), bz, bz, (1, 1, 0, (-1), []), (41, 1, 0, 0, [])]
def cd_X6_wordOfKind : List bh_I := [(3, 1, 0, 1, []), (24, 39, 58, 1, [40, 43, 46, 49, 52, 55]), bz, bz, bz, bz, bz, bz, bz, bz, bz, bz, bz, bz, bz, bz, bz, bz, bz, bz, bz, bz, bz, bz, bz, bz, bz, bz, bz, bz, bz, bz, bz, bz, bz, bz, bz, bz, bz, bz, (45, 2, 1, 139, []), bz, (43, 1, 0, 0, []), (45, 2, 2, 141, []), bz, (43, 1, 0, 0, []), (45, 2, 3, 143, []), bz, (43, 1, 0, 0, []), (45, 2, 4, 145, []), bz, (43, 1, 0, 0, []), (45, 2, 5, 147, []), bz, (43, 1, 0, 0, []), (45, 2, 6, 149, []), bz, (43, 1, 0, 0, []), (45, 2, 7, 151, []), bz, (43, 1, 0, 0, [])]
def cd_X6_skipBlanks : List bh_I := [(5, 1, 0, 1, []), (25, 3, 57, 0, []), bz, bz, (5, 1, 0, 1, []), (25, 3, 55, 0, []), bz, bz, (22, 3, 38, 3, []), bz, bz, (5, 1, 0, 1, []), (25, 3, 54, 0, []), bz, bz, (5, 1, 0, 1, []), (25, 3, 57, 0, []), bz, bz, (27, 1, 0, 0, []), (1, 2, 1, 32, []), bz, (22, 3, 38, 1, []), bz, bz, (5, 1, 0, 1, []), (18, 1, 0, 0, []), (25, 3, 57, 0, []), bz, bz, (1, 1, 0, 1, []), (10, 1, 0, 0, []), (26, 3, 57, 0, []), bz, bz, (23, 3, 0, 0, []), bz, bz, (44, 1, 0, 0, [])]
def cd_X6_isLetter : List bh_I := [(3, 1, 0, 1, []), (1, 2, 1, 97, []), bz, (22, 3, 16, 2, []), bz, bz, (3, 1, 0, 1, []), (1, 2, 1, 122, []), bz, (22, 3, 16, 4, []), bz, bz, (1, 1, 0, 1, []), (23, 3, 17, 0, []), bz, bz, (1, 1, 0, 0, []), (41, 1, 0, 0, [])]
def cd_X6_isDigit : List bh_I := [(3, 1, 0, 1, []), (1, 2, 1, 48, []), bz, (22, 3, 16, 2, []), bz, bz, (3, 1, 0, 1, []), (1, 2, 1, 57, []), bz, (22, 3, 16, 4, []), bz, bz, (1, 1, 0, 1, []), (23, 3, 17, 0, []), bz, bz, (1, 1, 0, 0, []), (41, 1, 0, 0, [])]
def cd_X6_refuse : List bh_I := [(5, 1, 0, 1, []), (1, 2, 1, 8, []), bz, (3, 1, 1, 1, []), (10, 1, 2, 0, []), (3, 1, 2, 1, []), (10, 1, 0, 0, []), (26, 3, 59, 0, []), bz, bz, (1, 1, 0, 0, []), (41, 1, 0, 0, [])]
def cd_X7_init : List bh_I := [(5, 1, 0, 1, []), (39, 3, 0, 3, [134]), bz, bz, (5, 1, 0, 1, []), (1, 2, 1, 12, []), bz, (37, 2, 20, 0, []), bz, (26, 3, 20, 0, []), bz, bz, (5, 1, 0, 1, []), (1, 2, 1, 12, []), bz, (37, 2, 20, 0, []), bz, (26, 3, 24, 0, []), bz, bz, (5, 1, 0, 1, []), (1, 2, 1, 12, []), bz, (37, 2, 20, 0, []), bz, (26, 3, 28, 0, []), bz, bz, (5, 1, 0, 1, []), (1, 2, 1, 12, []), bz, (37, 2, 20, 0, []), bz, (26, 3, 32, 0, []), bz, bz, (5, 1, 0, 1, []), (1, 2, 1, 12, []), bz, (37, 2, 20, 0, []), bz, (26, 3, 36, 0, []), bz, bz, (5, 1, 0, 1, []), (1, 2, 1, 12, []), bz, (37, 2, 20, 0, []), bz, (26, 3, 40, 0, []), bz, bz, (5, 1, 0, 1, []), (1, 2, 1, 12, []), bz, (37, 2, 20, 0, []), bz, (26, 3, 42, 0, []), bz, bz, (5, 1, 0, 1, []), (1, 2, 1, 12, []), bz, (37, 2, 20, 0, []), bz, (26, 3, 44, 0, []), bz, bz, (5, 1, 0, 1, []), (1, 1, 0, 4, []), (37, 2, 20, 0, []), bz, (26, 3, 46, 0, []), bz, bz, (5, 1, 0, 1, []), (1, 2, 1, 32, []), bz, (37, 2, 20, 0, []), bz, (26, 3, 49, 0, []), bz, bz, (5, 1, 0, 1, []), (1, 3, 2, 384, []), bz, bz, (37, 2, 20, 0, []), bz, (26, 3, 50, 0, []), bz, bz, (5, 1, 0, 1, []), (1, 2, 1, 16, []), bz, (37, 2, 20, 0, []), bz, (26, 3, 51, 0, []), bz, bz, (44, 1, 0, 0, [])]
def cd_X7_empty : List bh_I := [(5, 1, 0, 1, []), (1, 1, 0, 0, []), (26, 3, 0, 0, []), bz, bz, (5, 1, 0, 1, []), (1, 1, 0, 0, []), (26, 3, 7, 0, []), bz, bz, (5, 1, 0, 1, []), (1, 1, 0, 0, []), (26, 3, 11, 0, []), bz, bz, (5, 1, 0, 1, []), (1, 1, 0, 0, []), (26, 3, 13, 0, []), bz, bz, (5, 1, 0, 1, []), (1, 1, 0, 0, []), (26, 3, 15, 0, []), bz, bz, (5, 1, 0, 1, []), (1, 1, 0, 0, []), (26, 3, 17, 0, []), bz, bz, (44, 1, 0, 0, [])]
def cd_X7_copyFrom : List bh_I := [(5, 1, 0, 1, []), (5, 1, 1, 1, []), (25, 3, 0, 0, []), bz, bz, (26, 3, 0, 0, []), bz, bz, (5, 1, 0, 1, []), (5, 1, 1, 1, []), (25, 3, 7, 0, []), bz, bz, (26, 3, 7, 0, []), bz, bz, (5, 1, 0, 1, []), (5, 1, 1, 1, []), (25, 3, 11, 0, []), bz, bz, (26, 3, 11, 0, []), bz, bz, (5, 1, 0, 1, []), (5, 1, 1, 1, []), (25, 3, 13, 0, []), bz, bz, (26, 3, 13, 0, []), bz, bz, (5, 1, 0, 1, []), (5, 1, 1, 1, []), (25, 3, 15, 0, []), bz, bz, (26, 3, 15, 0, []), bz, bz, (5, 1, 0, 1, []), (5, 1, 1, 1, []), (25, 3, 17, 0, []), bz, bz, (26, 3, 17, 0, []), bz, bz, (5, 1, 1, 1, []), (25, 3, 20, 0, []), bz, bz, (5, 1, 0, 1, []), (25, 3, 20, 0, []), bz, bz, (40, 3, 59, 0, []), bz, bz, (5, 1, 1, 1, []), (25, 3, 24, 0, []), bz, bz, (5, 1, 0, 1, []), (25, 3, 24, 0, []), bz, bz, (40, 3, 59, 0, []), bz, bz, (5, 1, 1, 1, []), (25, 3, 28, 0, []), bz, bz, (5, 1, 0, 1, []), (25, 3, 28, 0, []), bz, bz, (40, 3, 59, 0, []), bz, bz, (5, 1, 1, 1, []), (25, 3, 32, 0, []), bz, bz, (5, 1, 0, 1, []), (25, 3, 32, 0, []), bz, bz, (40, 3, 59, 0, []), bz, bz, (5, 1, 1, 1, []), (25, 3, 36, 0, []), bz, bz, (5, 1, 0, 1, []), (25, 3, 36, 0, []), bz, bz, (40, 3, 59, 0, []), bz, bz, (5, 1, 1, 1, []), (25, 3, 40, 0, []), bz, bz, (5, 1, 0, 1, []), (25, 3, 40, 0, []), bz, bz, (40, 3, 59, 0, []), bz, bz, (5, 1, 1, 1, []), (25, 3, 42, 0, []), bz, bz, (5, 1, 0, 1, []), (25, 3, 42, 0, []), bz, bz, (40, 3, 59, 0, []), bz, bz, (5, 1, 1, 1, []), (25, 3, 44, 0, []), bz, bz, (5, 1, 0, 1, []), (25, 3, 44, 0, []), bz, bz, (40, 3, 59, 0, []), bz, bz, (5, 1, 1, 1, []), (25, 3, 46, 0, []), bz, bz, (5, 1, 0, 1, []), (25, 3, 46, 0, []), bz, bz, (40, 3, 59, 0, []), bz, bz, (5, 1, 1, 1, []), (25, 3, 49, 0, []), bz, bz, (5, 1, 0, 1, []), (25, 3, 49, 0, []), bz, bz, (40, 3, 59, 0, []), bz, bz, (5, 1, 1, 1, []), (25, 3, 50, 0, []), bz, bz, (5, 1, 0, 1, []), (25, 3, 50, 0, []), bz, bz, (40, 3, 59, 0, []), bz, bz, (5, 1, 1, 1, []), (25, 3, 51, 0, []), bz, bz, (5, 1, 0, 1, []), (25, 3, 51, 0, []), bz, bz, (40, 3, 59, 0, []), bz, bz, (44, 1, 0, 0, [])]
def cd_X7_copyRow : List bh_I := [(5, 1, 0, 1, []), (1, 1, 0, 0, []), (5, 1, 1, 1, []), (1, 1, 0, 0, []), (5, 1, 0, 1, []), (35, 1, 0, 0, []), (5, 1, 1, 1, []), (35, 1, 0, 0, []), (50, 3, 0, 71, [591]), bz, bz, (48, 3, 0, 77, [592]), bz, bz, (44, 1, 0, 0, [])]
def cd_X7_addWriter : List bh_I := [(5, 1, 0, 1, []), (25, 3, 20, 0, []), bz, bz, (5, 1, 0, 1, []), (25, 3, 0, 0, []), bz, bz, (3, 1, 1, 1, []), (28, 1, 0, 0, []), (5, 1, 0, 1, []), (5, 1, 0, 1, []), (25, 3, 0, 0, []), bz, bz, (1, 1, 0, 0, []), (1, 1, 0, 0, []), (1, 1, 0, 0, []), (40, 3, 60, 0, []), bz, bz, (5, 1, 0, 1, []), (25, 3, 36, 0, []), bz, bz, (5, 1, 0, 1, []), (25, 3, 0, 0, []), bz, bz, (1, 1, 0, (-1), []), (28, 1, 0, 0, []), (5, 1, 0, 1, []), (25, 3, 40, 0, []), bz, bz, (5, 1, 0, 1, []), (25, 3, 0, 0, []), bz, bz, (1, 1, 0, 0, []), (28, 1, 0, 0, []), (5, 1, 0, 1, []), (25, 3, 42, 0, []), bz, bz, (5, 1, 0, 1, []), (25, 3, 0, 0, []), bz, bz, (1, 1, 0, 0, []), (28, 1, 0, 0, []), (5, 1, 0, 1, []), (25, 3, 44, 0, []), bz, bz, (5, 1, 0, 1, []), (25, 3, 0, 0, []), bz, bz, (1, 1, 0, 0, []), (28, 1, 0, 0, []), (5, 1, 0, 1, []), (18, 1, 0, 0, []), (25, 3, 0, 0, []), bz, bz, (1, 1, 0, 1, []), (10, 1, 0, 0, []), (26, 3, 0, 0, []), bz, bz, (44, 1, 0, 0, [])]
def cd_X7_addBook : List bh_I := [(5, 1, 0, 1, []), (25, 3, 46, 0, []), bz, bz, (5, 1, 0, 1, []), (25, 3, 7, 0, []), bz, bz, (1, 1, 0, 0, []), (28, 1, 0, 0, []), (5, 1, 0, 1, []), (18, 1, 0, 0, []), (25, 3, 7, 0, []), bz, bz, (1, 1, 0, 1, []), (10, 1, 0, 0, []), (26, 3, 7, 0, []), bz, bz, (44, 1, 0, 0, [])]
def cd_X7_addPage : List bh_I := [(5, 1, 0, 1, []), (25, 3, 7, 0, []), bz, bz, (1, 1, 0, 1, []), (10, 1, 1, 0, []), (6, 1, 2, 1, []), (5, 1, 0, 1, []), (25, 3, 49, 0, []), bz, bz, (3, 1, 2, 1, []), (1, 2, 1, 8, []), bz, (10, 1, 2, 0, []), (5, 1, 0, 1, []), (25, 3, 46, 0, []), bz, bz, (3, 1, 2, 1, []), (27, 1, 0, 0, []), (10, 1, 0, 0, []), (3, 1, 1, 1, []), (28, 1, 0, 0, []), (5, 1, 0, 1, []), (25, 3, 46, 0, []), bz, bz, (3, 1, 2, 1, []), (20, 1, 0, 0, []), (27, 1, 0, 0, []), (1, 1, 0, 1, []), (10, 1, 0, 0, []), (28, 1, 0, 0, []), (44, 1, 0, 0, [])]
def cd_X7_isWriter : List bh_I := [(3, 1, 1, 1, []), (21, 3, 16, 2, []), bz, bz, (3, 1, 1, 1, []), (5, 1, 0, 1, []), (25, 3, 0, 0, []), bz, bz, (22, 3, 16, 3, []), bz, bz, (1, 1, 0, 1, []), (23, 3, 17, 0, []), bz, bz, (1, 1, 0, 0, []), (41, 1, 0, 0, [])]
def cd_X7_isBook : List bh_I := [(3, 1, 1, 1, []), (21, 3, 16, 2, []), bz, bz, (3, 1, 1, 1, []), (5, 1, 0, 1, []), (25, 3, 7, 0, []), bz, bz, (22, 3, 16, 3, []), bz, bz, (1, 1, 0, 1, []), (23, 3, 17, 0, []), bz, bz, (1, 1, 0, 0, []), (41, 1, 0, 0, [])]
def cd_X7_isPage : List bh_I := [(5, 1, 0, 1, []), (3, 1, 1, 1, []), (40, 3, 61, 0, []), bz, bz, (21, 3, 26, 0, []), bz, bz, (3, 1, 2, 1, []), (21, 3, 26, 2, []), bz, bz, (3, 1, 2, 1, []), (5, 1, 0, 1, []), (25, 3, 46, 0, []), bz, bz, (3, 1, 1, 1, []), (27, 1, 0, 0, []), (22, 3, 26, 3, []), bz, bz, (1, 1, 0, 1, []), (23, 3, 27, 0, []), bz, bz, (1, 1, 0, 0, []), (41, 1, 0, 0, [])]
def cd_X7_isDead : List bh_I := [(5, 1, 0, 1, []), (25, 3, 17, 0, []), bz, bz, (3, 1, 1, 1, []), (10, 1, 7, 0, []), (1, 1, 0, 1, []), (10, 1, 3, 0, []), (1, 1, 0, 1, []), (22, 3, 16, 1, []), bz, bz, (1, 1, 0, 1, []), (23, 3, 17, 0, []), bz, bz, (1, 1, 0, 0, []), (41, 1, 0, 0, [])]
def cd_X7_inMood : List bh_I := [(5, 1, 0, 1, []), (25, 3, 15, 0, []), bz, bz, (3, 1, 1, 1, []), (10, 1, 7, 0, []), (1, 1, 0, 1, []), (10, 1, 3, 0, []), (1, 1, 0, 1, []), (22, 3, 16, 1, []), bz, bz, (1, 1, 0, 1, []), (23, 3, 17, 0, []), bz, bz, (1, 1, 0, 0, []), (41, 1, 0, 0, [])]
def cd_X7_hasStock : List bh_I := [(5, 1, 0, 1, []), (25, 3, 44, 0, []), bz, bz, (3, 1, 1, 1, []), (27, 1, 0, 0, []), (3, 1, 2, 1, []), (10, 1, 7, 0, []), (1, 1, 0, 1, []), (10, 1, 3, 0, []), (1, 1, 0, 1, []), (22, 3, 18, 1, []), bz, bz, (1, 1, 0, 1, []), (23, 3, 19, 0, []), bz, bz, (1, 1, 0, 0, []), (41, 1, 0, 0, [])]
def cd_X7_stockOf : List bh_I := [(5, 1, 0, 1, []), (25, 3, 50, 0, []), bz, bz, (3, 1, 1, 1, []), (1, 1, 0, 4, []), (10, 1, 2, 0, []), (3, 1, 2, 1, []), (10, 1, 0, 0, []), (1, 2, 1, 8, []), bz, (10, 1, 2, 0, []), (3, 1, 3, 1, []), (10, 1, 0, 0, []), (27, 1, 0, 0, []), (41, 1, 0, 0, [])]
def cd_X7_putStock : List bh_I := [(5, 1, 0, 1, []), (25, 3, 50, 0, []), bz, bz, (3, 1, 1, 1, []), (1, 1, 0, 4, []), (10, 1, 2, 0, []), (3, 1, 2, 1, []), (10, 1, 0, 0, []), (1, 2, 1, 8, []), bz, (10, 1, 2, 0, []), (3, 1, 3, 1, []), (10, 1, 0, 0, []), (3, 2, 4, 0, []), bz, (28, 1, 0, 0, []), (5, 1, 0, 1, []), (25, 3, 44, 0, []), bz, bz, (3, 1, 1, 1, []), (20, 1, 0, 0, []), (27, 1, 0, 0, []), (1, 1, 0, 1, []), (3, 1, 2, 1, []), (10, 1, 6, 0, []), (10, 1, 4, 0, []), (28, 1, 0, 0, []), (44, 1, 0, 0, [])]
def cd_X7_hasHabit : List bh_I := [(5, 1, 0, 1, []), (25, 3, 24, 0, []), bz, bz, (3, 1, 1, 1, []), (27, 1, 0, 0, []), (3, 1, 2, 1, []), (22, 3, 35, 1, []), bz, bz, (5, 1, 0, 1, []), (25, 3, 28, 0, []), bz, bz, (3, 1, 1, 1, []), (27, 1, 0, 0, []), (3, 1, 3, 1, []), (22, 3, 35, 1, []), bz, bz, (5, 1, 0, 1, []), (25, 3, 32, 0, []), bz, bz, (3, 1, 1, 1, []), (27, 1, 0, 0, []), (3, 2, 4, 0, []), bz, (22, 3, 35, 1, []), bz, bz, (1, 1, 0, 1, []), (23, 3, 36, 0, []), bz, bz, (1, 1, 0, 0, []), (41, 1, 0, 0, [])]
def cd_X7_setHabit : List bh_I := [(5, 1, 0, 1, []), (25, 3, 24, 0, []), bz, bz, (3, 1, 1, 1, []), (3, 1, 2, 1, []), (28, 1, 0, 0, []), (5, 1, 0, 1, []), (25, 3, 28, 0, []), bz, bz, (3, 1, 1, 1, []), (3, 1, 3, 1, []), (28, 1, 0, 0, []), (5, 1, 0, 1, []), (25, 3, 32, 0, []), bz, bz, (3, 1, 1, 1, []), (3, 2, 4, 0, []), bz, (28, 1, 0, 0, []), (44, 1, 0, 0, [])]
def cd_X7_habitOn : List bh_I := [(5, 1, 0, 1, []), (25, 3, 24, 0, []), bz, bz, (3, 1, 1, 1, []), (27, 1, 0, 0, []), (5, 1, 0, 1, []), (25, 3, 28, 0, []), bz, bz, (3, 1, 1, 1, []), (27, 1, 0, 0, []), (5, 1, 0, 1, []), (25, 3, 32, 0, []), bz, bz, (3, 1, 1, 1, []), (27, 1, 0, 0, []), (3, 1, 2, 1, []), (40, 3, 62, 0, []), bz, bz, (41, 1, 0, 0, [])]
def cd_X7_rowOf : List bh_I := [(5, 1, 0, 1, []), (25, 3, 49, 0, []), bz, bz, (3, 1, 1, 1, []), (1, 2, 1, 8, []), bz, (10, 1, 2, 0, []), (3, 1, 2, 1, []), (10, 1, 0, 0, []), (27, 1, 0, 0, []), (41, 1, 0, 0, [])]
def cd_X7_pageOfSeen : List bh_I := [(5, 1, 0, 1, []), (25, 3, 46, 0, []), bz, bz, (3, 1, 1, 1, []), (27, 1, 0, 0, []), (21, 3, 20, 5, []), bz, bz, (3, 1, 2, 1, []), (5, 1, 0, 1, []), (25, 3, 46, 0, []), bz, bz, (3, 1, 1, 1, []), (27, 1, 0, 0, []), (12, 1, 0, 0, []), (23, 3, 21, 0, []), bz, bz, (1, 1, 0, 0, []), (41, 1, 0, 0, [])]
def cd_X7_havingUnder : List bh_I := [(1, 1, 0, 0, []), (6, 1, 2, 1, []), (1, 1, 0, 0, []), (6, 1, 3, 1, []), (3, 1, 3, 1, []), (5, 1, 0, 1, []), (25, 3, 0, 0, []), bz, bz, (22, 3, 34, 3, []), bz, bz, (5, 1, 0, 1, []), (25, 3, 36, 0, []), bz, bz, (3, 1, 3, 1, []), (27, 1, 0, 0, []), (3, 1, 1, 1, []), (22, 3, 28, 1, []), bz, bz, (3, 1, 2, 1, []), (1, 1, 0, 1, []), (3, 1, 3, 1, []), (10, 1, 6, 0, []), (10, 1, 4, 0, []), (6, 1, 2, 1, []), (9, 3, 3, 1, []), bz, bz, (23, 3, 4, 0, []), bz, bz, (3, 1, 2, 1, []), (41, 1, 0, 0, [])]
def cd_X7_allPages : List bh_I := [(1, 1, 0, 0, []), (6, 1, 1, 1, []), (1, 1, 0, 0, []), (6, 1, 2, 1, []), (3, 1, 2, 1, []), (5, 1, 0, 1, []), (25, 3, 7, 0, []), bz, bz, (22, 3, 27, 3, []), bz, bz, (3, 1, 1, 1, []), (5, 1, 0, 1, []), (25, 3, 46, 0, []), bz, bz, (3, 1, 2, 1, []), (27, 1, 0, 0, []), (10, 1, 0, 0, []), (6, 1, 1, 1, []), (9, 3, 2, 1, []), bz, bz, (23, 3, 4, 0, []), bz, bz, (3, 1, 1, 1, []), (41, 1, 0, 0, [])]
def cd_X7_sumOf : List bh_I := [(1, 1, 0, 0, []), (6, 1, 2, 1, []), (1, 1, 0, 0, []), (6, 1, 3, 1, []), (3, 1, 3, 1, []), (5, 1, 0, 1, []), (25, 3, 0, 0, []), bz, bz, (22, 3, 24, 3, []), bz, bz, (3, 1, 2, 1, []), (5, 1, 1, 1, []), (3, 1, 3, 1, []), (27, 1, 0, 0, []), (10, 1, 0, 0, []), (6, 1, 2, 1, []), (9, 3, 3, 1, []), bz, bz, (23, 3, 4, 0, []), bz, bz, (3, 1, 2, 1, []), (41, 1, 0, 0, [])]
def cd_X8_init : List bh_I := [(5, 1, 0, 1, []), (39, 3, 0, 3, [275]), bz, bz, (5, 1, 0, 1, []), (1, 2, 1, 16, []), bz, (37, 2, 20, 0, []), bz, (26, 3, 68, 0, []), bz, bz, (5, 1, 0, 1, []), (1, 2, 1, 16, []), bz, (37, 2, 20, 0, []), bz, (26, 3, 70, 0, []), bz, bz, (5, 1, 0, 1, []), (1, 2, 1, 16, []), bz, (37, 2, 20, 0, []), bz, (26, 3, 72, 0, []), bz, bz, (44, 1, 0, 0, [])]
def cd_X8_follow : List bh_I := [(1, 1, 0, 0, []), (6, 2, 4, 0, []), bz, (3, 2, 4, 0, []), bz, (1, 2, 1, 16, []), bz, (22, 3, 33, 3, []), bz, bz, (5, 1, 0, 1, []), (25, 3, 68, 0, []), bz, bz, (3, 2, 4, 0, []), bz, (3, 2, 4, 0, []), bz, (28, 1, 0, 0, []), (5, 1, 0, 1, []), (25, 3, 70, 0, []), bz, bz, (3, 2, 4, 0, []), bz, (1, 1, 0, (-1), []), (28, 1, 0, 0, []), (9, 3, 4, 1, []), bz, bz, (23, 3, 3, 0, []), bz, bz, (3, 1, 3, 1, []), (6, 2, 4, 0, []), bz, (5, 1, 2, 1, []), (25, 3, 65, 0, []), bz, bz, (1, 1, 0, 1, []), (10, 1, 1, 0, []), (6, 2, 5, 0, []), bz, (3, 2, 5, 0, []), bz, (21, 3, 92, 2, []), bz, bz, (5, 1, 2, 1, []), (25, 3, 62, 0, []), bz, bz, (3, 2, 5, 0, []), bz, (27, 1, 0, 0, []), (6, 2, 6, 0, []), bz, (5, 1, 1, 1, []), (3, 2, 6, 0, []), bz, (40, 3, 63, 0, []), bz, bz, (21, 3, 86, 1, []), bz, bz, (5, 1, 0, 1, []), (5, 1, 1, 1, []), (3, 2, 6, 0, []), bz, (3, 2, 4, 0, []), bz, (40, 3, 64, 0, []), bz, bz, (5, 1, 1, 1, []), (3, 2, 6, 0, []), bz, (3, 2, 4, 0, []), bz, (40, 3, 65, 0, []), bz, bz, (6, 2, 4, 0, []), bz, (9, 3, 5, (-1), []), bz, bz, (23, 3, 44, 0, []), bz, bz, (44, 1, 0, 0, [])]
def cd_X8_changedBy : List bh_I := [(1, 1, 0, 0, []), (6, 1, 2, 1, []), (1, 1, 0, 0, []), (6, 1, 3, 1, []), (3, 1, 3, 1, []), (1, 2, 1, 16, []), bz, (22, 3, 32, 3, []), bz, bz, (5, 1, 0, 1, []), (25, 3, 70, 0, []), bz, bz, (3, 1, 3, 1, []), (27, 1, 0, 0, []), (3, 1, 1, 1, []), (22, 3, 26, 1, []), bz, bz, (3, 1, 2, 1, []), (1, 1, 0, 1, []), (3, 1, 3, 1, []), (10, 1, 6, 0, []), (10, 1, 4, 0, []), (6, 1, 2, 1, []), (9, 3, 3, 1, []), bz, bz, (23, 3, 4, 0, []), bz, bz, (3, 1, 2, 1, []), (41, 1, 0, 0, [])]
def cd_X8_step : List bh_I := [(5, 1, 1, 1, []), (25, 3, 29, 0, []), bz, bz, (3, 1, 2, 1, []), (27, 1, 0, 0, []), (6, 2, 4, 0, []), bz, (5, 1, 1, 1, []), (25, 3, 33, 0, []), bz, bz, (3, 1, 2, 1, []), (27, 1, 0, 0, []), (6, 2, 5, 0, []), bz, (5, 1, 1, 1, []), (25, 3, 25, 0, []), bz, bz, (3, 1, 2, 1, []), (27, 1, 0, 0, []), (24, 38, 207, 1, [60, 71, 97, 122, 145, 170]), bz, bz, bz, bz, bz, bz, bz, bz, bz, bz, bz, bz, bz, bz, bz, bz, bz, bz, bz, bz, bz, bz, bz, bz, bz, bz, bz, bz, bz, bz, bz, bz, bz, bz, bz, bz, bz, (5, 1, 0, 1, []), (25, 3, 70, 0, []), bz, bz, (3, 2, 4, 0, []), bz, (3, 1, 2, 1, []), (28, 1, 0, 0, []), (23, 3, 207, 0, []), bz, bz, (5, 1, 0, 1, []), (3, 2, 4, 0, []), bz, (1, 1, 0, (-1), []), (3, 1, 2, 1, []), (3, 1, 3, 1, []), (3, 2, 4, 0, []), bz, (40, 3, 66, 0, []), bz, bz, (1, 1, 0, 1, []), (22, 3, 90, 0, []), bz, bz, (1, 1, 0, 1, []), (23, 3, 91, 0, []), bz, bz, (1, 1, 0, 0, []), (40, 3, 67, 0, []), bz, bz, (23, 3, 207, 0, []), bz, bz, (5, 1, 0, 1, []), (3, 2, 4, 0, []), bz, (1, 1, 0, (-1), []), (3, 1, 2, 1, []), (3, 1, 3, 1, []), (3, 2, 4, 0, []), bz, (40, 3, 66, 0, []), bz, bz, (21, 3, 115, 0, []), bz, bz, (1, 1, 0, 1, []), (23, 3, 116, 0, []), bz, bz, (1, 1, 0, 0, []), (40, 3, 67, 0, []), bz, bz, (23, 3, 207, 0, []), bz, bz, (5, 1, 0, 1, []), (5, 1, 0, 1, []), (25, 3, 68, 0, []), bz, bz, (3, 2, 4, 0, []), bz, (40, 3, 68, 0, []), bz, bz, (5, 1, 0, 1, []), (5, 1, 0, 1, []), (25, 3, 70, 0, []), bz, bz, (3, 2, 4, 0, []), bz, (40, 3, 68, 0, []), bz, bz, (23, 3, 207, 0, []), bz, bz, (5, 1, 0, 1, []), (25, 3, 68, 0, []), bz, bz, (3, 2, 4, 0, []), bz, (3, 2, 5, 0, []), bz, (40, 3, 69, 0, []), bz, bz, (5, 1, 0, 1, []), (25, 3, 70, 0, []), bz, bz, (3, 2, 4, 0, []), bz, (3, 2, 5, 0, []), bz, (40, 3, 69, 0, []), bz, bz, (23, 3, 207, 0, []), bz, bz, (5, 1, 0, 1, []), (3, 2, 5, 0, []), bz, (5, 1, 0, 1, []), (25, 3, 68, 0, []), bz, bz, (3, 2, 4, 0, []), bz, (27, 1, 0, 0, []), (3, 1, 2, 1, []), (3, 1, 3, 1, []), (3, 2, 4, 0, []), bz, (40, 3, 66, 0, []), bz, bz, (3, 1, 3, 1, []), (3, 2, 5, 0, []), bz, (40, 3, 66, 0, []), bz, bz, (22, 3, 200, 0, []), bz, bz, (1, 1, 0, 1, []), (23, 3, 201, 0, []), bz, bz, (1, 1, 0, 0, []), (40, 3, 67, 0, []), bz, bz, (23, 3, 207, 0, []), bz, bz, (44, 1, 0, 0, [])]
def cd_X8_put : List bh_I := [(5, 1, 0, 1, []), (25, 3, 68, 0, []), bz, bz, (3, 1, 1, 1, []), (3, 1, 2, 1, []), (28, 1, 0, 0, []), (3, 2, 4, 0, []), bz, (21, 3, 19, 0, []), bz, bz, (5, 1, 0, 1, []), (25, 3, 70, 0, []), bz, bz, (3, 1, 1, 1, []), (3, 1, 3, 1, []), (28, 1, 0, 0, []), (44, 1, 0, 0, [])]
def cd_X8_turn : List bh_I := [(1, 1, 0, 0, []), (6, 1, 3, 1, []), (3, 1, 3, 1, []), (1, 2, 1, 16, []), bz, (22, 3, 28, 3, []), bz, bz, (5, 1, 0, 1, []), (25, 3, 72, 0, []), bz, bz, (3, 1, 3, 1, []), (3, 1, 2, 1, []), (10, 1, 0, 0, []), (1, 2, 1, 16, []), bz, (12, 1, 0, 0, []), (5, 1, 1, 1, []), (3, 1, 3, 1, []), (27, 1, 0, 0, []), (28, 1, 0, 0, []), (9, 3, 3, 1, []), bz, bz, (23, 3, 2, 0, []), bz, bz, (5, 1, 0, 1, []), (25, 3, 72, 0, []), bz, bz, (1, 1, 0, 0, []), (5, 1, 1, 1, []), (1, 1, 0, 0, []), (1, 2, 1, 16, []), bz, (48, 3, 0, 70, [820]), bz, bz, (44, 1, 0, 0, [])]
def cd_X8_swap : List bh_I := [(5, 1, 0, 1, []), (3, 1, 1, 1, []), (27, 1, 0, 0, []), (6, 1, 3, 1, []), (5, 1, 0, 1, []), (3, 1, 1, 1, []), (5, 1, 0, 1, []), (3, 1, 2, 1, []), (27, 1, 0, 0, []), (28, 1, 0, 0, []), (5, 1, 0, 1, []), (3, 1, 2, 1, []), (3, 1, 3, 1, []), (28, 1, 0, 0, []), (44, 1, 0, 0, [])]
def cd_X9_init : List bh_I := [(5, 1, 0, 1, []), (39, 3, 0, 3, [126]), bz, bz, (5, 1, 0, 1, []), (36, 3, 7, 9, [129, 130, 104]), bz, bz, (18, 1, 0, 0, []), (40, 3, 70, 0, []), bz, bz, (26, 3, 93, 0, []), bz, bz, (5, 1, 0, 1, []), (36, 3, 7, 9, [129, 130, 104]), bz, bz, (18, 1, 0, 0, []), (40, 3, 70, 0, []), bz, bz, (26, 3, 94, 0, []), bz, bz, (5, 1, 0, 1, []), (36, 3, 6, 19, [227, 228, 105]), bz, bz, (18, 1, 0, 0, []), (40, 3, 71, 0, []), bz, bz, (26, 3, 95, 0, []), bz, bz, (5, 1, 0, 1, []), (1, 2, 1, 10, []), bz, (38, 3, 24, 9, [129]), bz, bz, (26, 3, 96, 0, []), bz, bz, (5, 1, 0, 1, []), (1, 1, 0, 2, []), (38, 3, 24, 9, [129]), bz, bz, (26, 3, 97, 0, []), bz, bz, (5, 1, 0, 1, []), (36, 3, 2, 33, [251, 252, 106]), bz, bz, (18, 1, 0, 0, []), (40, 3, 72, 0, []), bz, bz, (26, 3, 98, 0, []), bz, bz, (5, 1, 0, 1, []), (36, 3, 8, 40, [270, 271, 107]), bz, bz, (18, 1, 0, 0, []), (40, 3, 73, 0, []), bz, bz, (26, 3, 99, 0, []), bz, bz, (5, 1, 0, 1, []), (36, 3, 4, 47, [288, 289, 108]), bz, bz, (18, 1, 0, 0, []), (40, 3, 74, 0, []), bz, bz, (26, 3, 100, 0, []), bz, bz, (5, 1, 0, 1, []), (36, 3, 5, 54, [317, 318, 109]), bz, bz, (18, 1, 0, 0, []), (40, 3, 75, 0, []), bz, bz, (26, 3, 101, 0, []), bz, bz, (5, 1, 0, 1, []), (36, 3, 0, 61, [336, 337, 110]), bz, bz, (18, 1, 0, 0, []), (40, 3, 76, 0, []), bz, bz, (26, 3, 102, 0, []), bz, bz, (5, 1, 0, 1, []), (36, 3, 3, 68, [352, 353, 111]), bz, bz, (18, 1, 0, 0, []), (40, 3, 77, 0, []), bz, bz, (26, 3, 103, 0, []), bz, bz, (5, 1, 0, 1, []), (1, 2, 1, 12, []), bz, (37, 2, 20, 0, []), bz, (26, 3, 104, 0, []), bz, bz, (5, 1, 0, 1, []), (1, 2, 1, 17, []), bz, (37, 2, 21, 0, []), bz, (26, 3, 105, 0, []), bz, bz, (1, 1, 0, 0, []), (6, 1, 1, 1, []), (3, 1, 1, 1, []), (1, 2, 1, 10, []), bz, (22, 3, 163, 3, []), bz, bz, (5, 1, 0, 1, []), (25, 3, 96, 0, []), bz, bz, (3, 1, 1, 1, []), (36, 3, 7, 9, [129, 130, 104]), bz, bz, (18, 1, 0, 0, []), (40, 3, 70, 0, []), bz, bz, (34, 1, 0, 0, []), (9, 3, 1, 1, []), bz, bz, (23, 3, 138, 0, []), bz, bz, (1, 1, 0, 0, []), (6, 1, 1, 1, []), (3, 1, 1, 1, []), (1, 1, 0, 2, []), (22, 3, 189, 3, []), bz, bz, (5, 1, 0, 1, []), (25, 3, 97, 0, []), bz, bz, (3, 1, 1, 1, []), (36, 3, 7, 9, [129, 130, 104]), bz, bz, (18, 1, 0, 0, []), (40, 3, 70, 0, []), bz, bz, (34, 1, 0, 0, []), (9, 3, 1, 1, []), bz, bz, (23, 3, 165, 0, []), bz, bz, (44, 1, 0, 0, [])]
def cd_X9_feed : List bh_I := [(5, 1, 0, 1, []), (25, 3, 95, 0, []), bz, bz, (1, 2, 1, 20, []), bz, (40, 3, 78, 0, []), bz, bz, (21, 3, 14, 1, []), bz, bz, (1, 1, 0, (-1), []), (41, 1, 0, 0, []), (5, 1, 0, 1, []), (25, 3, 95, 0, []), bz, bz, (3, 1, 1, 1, []), (40, 3, 79, 0, []), bz, bz, (5, 1, 0, 1, []), (25, 3, 95, 0, []), bz, bz, (3, 1, 2, 1, []), (40, 3, 79, 0, []), bz, bz, (5, 1, 0, 1, []), (25, 3, 95, 0, []), bz, bz, (3, 1, 3, 1, []), (40, 3, 79, 0, []), bz, bz, (5, 1, 0, 1, []), (25, 3, 95, 0, []), bz, bz, (3, 2, 4, 0, []), bz, (40, 3, 79, 0, []), bz, bz, (5, 1, 0, 1, []), (25, 3, 95, 0, []), bz, bz, (3, 2, 5, 0, []), bz, (40, 3, 79, 0, []), bz, bz, (5, 1, 0, 1, []), (25, 3, 95, 0, []), bz, bz, (25, 3, 56, 0, []), bz, bz, (41, 1, 0, 0, [])]
def cd_X9_end : List bh_I := [(3, 1, 1, 1, []), (21, 3, 15, 2, []), bz, bz, (3, 1, 1, 1, []), (5, 1, 0, 1, []), (25, 3, 95, 0, []), bz, bz, (25, 3, 56, 0, []), bz, bz, (22, 3, 17, 5, []), bz, bz, (1, 1, 0, (-1), []), (41, 1, 0, 0, []), (5, 1, 0, 1, []), (25, 3, 95, 0, []), bz, bz, (3, 1, 1, 1, []), (26, 3, 56, 0, []), bz, bz, (3, 1, 1, 1, []), (41, 1, 0, 0, [])]
def cd_X9_tell : List bh_I := [(5, 1, 0, 1, []), (25, 3, 95, 0, []), bz, bz, (5, 1, 0, 1, []), (25, 3, 94, 0, []), bz, bz, (40, 3, 80, 0, []), bz, bz, (6, 1, 1, 1, []), (5, 1, 0, 1, []), (25, 3, 95, 0, []), bz, bz, (1, 1, 0, 0, []), (26, 3, 56, 0, []), bz, bz, (3, 1, 1, 1, []), (21, 3, 29, 0, []), bz, bz, (1, 2, 1, (-2), []), bz, (3, 1, 1, 1, []), (10, 1, 1, 0, []), (41, 1, 0, 0, []), (5, 1, 0, 1, []), (25, 3, 93, 0, []), bz, bz, (5, 1, 0, 1, []), (25, 3, 94, 0, []), bz, bz, (40, 3, 81, 0, []), bz, bz, (5, 1, 0, 1, []), (1, 1, 0, 0, []), (26, 3, 107, 0, []), bz, bz, (5, 1, 0, 1, []), (25, 3, 93, 0, []), bz, bz, (25, 3, 5, 0, []), bz, bz, (41, 1, 0, 0, [])]
def cd_X9_hire : List bh_I := [(5, 1, 0, 1, []), (25, 3, 93, 0, []), bz, bz, (3, 1, 1, 1, []), (40, 3, 82, 0, []), bz, bz, (21, 3, 22, 0, []), bz, bz, (5, 1, 0, 1, []), (25, 3, 93, 0, []), bz, bz, (3, 1, 2, 1, []), (40, 3, 82, 0, []), bz, bz, (21, 3, 24, 1, []), bz, bz, (1, 1, 0, (-1), []), (41, 1, 0, 0, []), (5, 1, 0, 1, []), (25, 3, 93, 0, []), bz, bz, (3, 1, 1, 1, []), (40, 3, 83, 0, []), bz, bz, (21, 3, 46, 1, []), bz, bz, (5, 1, 0, 1, []), (25, 3, 93, 0, []), bz, bz, (3, 1, 2, 1, []), (40, 3, 83, 0, []), bz, bz, (21, 3, 49, 0, []), bz, bz, (1, 2, 1, (-4), []), bz, (41, 1, 0, 0, []), (5, 1, 0, 1, []), (25, 3, 93, 0, []), bz, bz, (25, 3, 38, 0, []), bz, bz, (3, 1, 1, 1, []), (27, 1, 0, 0, []), (3, 1, 2, 1, []), (22, 3, 65, 1, []), bz, bz, (1, 2, 1, (-2), []), bz, (41, 1, 0, 0, []), (5, 1, 0, 1, []), (25, 3, 93, 0, []), bz, bz, (25, 3, 22, 0, []), bz, bz, (3, 1, 2, 1, []), (27, 1, 0, 0, []), (5, 1, 0, 1, []), (25, 3, 93, 0, []), bz, bz, (25, 3, 22, 0, []), bz, bz, (3, 1, 1, 1, []), (27, 1, 0, 0, []), (22, 3, 89, 2, []), bz, bz, (1, 2, 1, (-3), []), bz, (41, 1, 0, 0, []), (5, 1, 0, 1, []), (40, 3, 84, 0, []), bz, bz, (5, 1, 0, 1, []), (25, 3, 93, 0, []), bz, bz, (25, 3, 38, 0, []), bz, bz, (3, 1, 1, 1, []), (3, 1, 2, 1, []), (28, 1, 0, 0, []), (5, 1, 0, 1, []), (3, 1, 1, 1, []), (40, 3, 85, 0, []), bz, bz, (41, 1, 0, 0, [])]
def cd_X9_sack : List bh_I := [(5, 1, 0, 1, []), (25, 3, 93, 0, []), bz, bz, (3, 1, 1, 1, []), (40, 3, 82, 0, []), bz, bz, (21, 3, 13, 1, []), bz, bz, (1, 1, 0, (-1), []), (41, 1, 0, 0, []), (5, 1, 0, 1, []), (25, 3, 93, 0, []), bz, bz, (3, 1, 1, 1, []), (40, 3, 83, 0, []), bz, bz, (21, 3, 27, 0, []), bz, bz, (1, 2, 1, (-4), []), bz, (41, 1, 0, 0, []), (5, 1, 0, 1, []), (25, 3, 93, 0, []), bz, bz, (25, 3, 38, 0, []), bz, bz, (3, 1, 1, 1, []), (27, 1, 0, 0, []), (6, 1, 2, 1, []), (3, 1, 2, 1, []), (1, 1, 0, (-1), []), (22, 3, 45, 1, []), bz, bz, (1, 2, 1, (-2), []), bz, (41, 1, 0, 0, []), (5, 1, 0, 1, []), (40, 3, 84, 0, []), bz, bz, (5, 1, 0, 1, []), (25, 3, 93, 0, []), bz, bz, (25, 3, 38, 0, []), bz, bz, (3, 1, 1, 1, []), (1, 1, 0, (-1), []), (28, 1, 0, 0, []), (3, 1, 2, 1, []), (41, 1, 0, 0, [])]
def cd_X9_teach : List bh_I := [(5, 1, 0, 1, []), (25, 3, 93, 0, []), bz, bz, (3, 1, 1, 1, []), (40, 3, 82, 0, []), bz, bz, (21, 3, 21, 0, []), bz, bz, (3, 1, 2, 1, []), (3, 1, 3, 1, []), (3, 2, 4, 0, []), bz, (40, 3, 86, 0, []), bz, bz, (21, 3, 23, 1, []), bz, bz, (1, 1, 0, (-1), []), (41, 1, 0, 0, []), (5, 1, 0, 1, []), (25, 3, 93, 0, []), bz, bz, (3, 1, 1, 1, []), (40, 3, 83, 0, []), bz, bz, (21, 3, 37, 0, []), bz, bz, (1, 2, 1, (-4), []), bz, (41, 1, 0, 0, []), (3, 1, 2, 1, []), (40, 3, 87, 0, []), bz, bz, (21, 3, 48, 5, []), bz, bz, (3, 1, 3, 1, []), (23, 3, 49, 0, []), bz, bz, (1, 1, 0, 0, []), (6, 2, 5, 0, []), bz, (3, 1, 2, 1, []), (40, 3, 87, 0, []), bz, bz, (1, 1, 0, 1, []), (22, 3, 64, 5, []), bz, bz, (3, 2, 4, 0, []), bz, (23, 3, 65, 0, []), bz, bz, (1, 1, 0, 0, []), (6, 2, 6, 0, []), bz, (5, 1, 0, 1, []), (25, 3, 93, 0, []), bz, bz, (3, 1, 1, 1, []), (3, 1, 2, 1, []), (3, 2, 5, 0, []), bz, (3, 2, 6, 0, []), bz, (40, 3, 88, 0, []), bz, bz, (21, 3, 86, 0, []), bz, bz, (1, 2, 1, (-2), []), bz, (41, 1, 0, 0, []), (5, 1, 0, 1, []), (40, 3, 84, 0, []), bz, bz, (5, 1, 0, 1, []), (25, 3, 93, 0, []), bz, bz, (25, 3, 27, 0, []), bz, bz, (3, 1, 1, 1, []), (27, 1, 0, 0, []), (6, 2, 7, 0, []), bz, (5, 1, 0, 1, []), (25, 3, 93, 0, []), bz, bz, (3, 1, 1, 1, []), (3, 1, 2, 1, []), (3, 2, 5, 0, []), bz, (3, 2, 6, 0, []), bz, (40, 3, 89, 0, []), bz, bz, (3, 2, 7, 0, []), bz, (41, 1, 0, 0, [])]
def cd_X9_praise : List bh_I := [(5, 1, 0, 1, []), (25, 3, 93, 0, []), bz, bz, (3, 1, 1, 1, []), (40, 3, 82, 0, []), bz, bz, (21, 3, 18, 0, []), bz, bz, (3, 1, 2, 1, []), (40, 3, 90, 0, []), bz, bz, (21, 3, 20, 1, []), bz, bz, (1, 1, 0, (-1), []), (41, 1, 0, 0, []), (5, 1, 0, 1, []), (40, 3, 84, 0, []), bz, bz, (5, 1, 0, 1, []), (25, 3, 98, 0, []), bz, bz, (5, 1, 0, 1, []), (25, 3, 93, 0, []), bz, bz, (3, 1, 1, 1, []), (40, 3, 91, 0, []), bz, bz, (3, 1, 2, 1, []), (6, 1, 3, 1, []), (1, 1, 0, 0, []), (6, 2, 4, 0, []), bz, (3, 2, 4, 0, []), bz, (5, 1, 0, 1, []), (25, 3, 98, 0, []), bz, bz, (25, 3, 67, 0, []), bz, bz, (22, 3, 111, 3, []), bz, bz, (3, 2, 4, 0, []), bz, (5, 1, 0, 1, []), (25, 3, 98, 0, []), bz, bz, (25, 3, 67, 0, []), bz, bz, (1, 1, 0, 1, []), (10, 1, 1, 0, []), (22, 3, 71, 1, []), bz, bz, (1, 1, 0, 0, []), (23, 3, 75, 0, []), bz, bz, (3, 1, 3, 1, []), (1, 2, 1, 10, []), bz, (11, 1, 0, 0, []), (6, 2, 5, 0, []), bz, (5, 1, 0, 1, []), (25, 3, 93, 0, []), bz, bz, (25, 3, 41, 0, []), bz, bz, (5, 1, 0, 1, []), (25, 3, 98, 0, []), bz, bz, (25, 3, 63, 0, []), bz, bz, (3, 2, 4, 0, []), bz, (27, 1, 0, 0, []), (20, 1, 0, 0, []), (27, 1, 0, 0, []), (3, 1, 3, 1, []), (3, 2, 5, 0, []), bz, (10, 1, 1, 0, []), (10, 1, 0, 0, []), (28, 1, 0, 0, []), (3, 2, 5, 0, []), bz, (6, 1, 3, 1, []), (9, 3, 4, 1, []), bz, bz, (23, 3, 41, 0, []), bz, bz, (5, 1, 0, 1, []), (25, 3, 98, 0, []), bz, bz, (25, 3, 67, 0, []), bz, bz, (1, 1, 0, 1, []), (22, 3, 126, 1, []), bz, bz, (3, 1, 2, 1, []), (23, 3, 132, 0, []), bz, bz, (3, 1, 2, 1, []), (3, 1, 2, 1, []), (1, 2, 1, 10, []), bz, (11, 1, 0, 0, []), (10, 1, 1, 0, []), (41, 1, 0, 0, [])]
def cd_X9_blame : List bh_I := [(5, 1, 0, 1, []), (25, 3, 93, 0, []), bz, bz, (3, 1, 1, 1, []), (40, 3, 82, 0, []), bz, bz, (21, 3, 18, 0, []), bz, bz, (3, 1, 2, 1, []), (40, 3, 90, 0, []), bz, bz, (21, 3, 20, 1, []), bz, bz, (1, 1, 0, (-1), []), (41, 1, 0, 0, []), (5, 1, 0, 1, []), (40, 3, 84, 0, []), bz, bz, (5, 1, 0, 1, []), (25, 3, 93, 0, []), bz, bz, (25, 3, 41, 0, []), bz, bz, (3, 1, 1, 1, []), (20, 1, 0, 0, []), (27, 1, 0, 0, []), (3, 1, 2, 1, []), (10, 1, 1, 0, []), (28, 1, 0, 0, []), (5, 1, 0, 1, []), (25, 3, 93, 0, []), bz, bz, (25, 3, 41, 0, []), bz, bz, (3, 1, 1, 1, []), (27, 1, 0, 0, []), (41, 1, 0, 0, [])]
def cd_X9_order : List bh_I := [(5, 1, 0, 1, []), (25, 3, 93, 0, []), bz, bz, (3, 1, 1, 1, []), (40, 3, 82, 0, []), bz, bz, (21, 3, 18, 0, []), bz, bz, (3, 1, 2, 1, []), (40, 3, 90, 0, []), bz, bz, (21, 3, 20, 1, []), bz, bz, (1, 1, 0, (-1), []), (41, 1, 0, 0, []), (5, 1, 0, 1, []), (40, 3, 84, 0, []), bz, bz, (5, 1, 0, 1, []), (25, 3, 98, 0, []), bz, bz, (5, 1, 0, 1, []), (25, 3, 93, 0, []), bz, bz, (3, 1, 1, 1, []), (40, 3, 91, 0, []), bz, bz, (3, 1, 2, 1, []), (6, 1, 3, 1, []), (3, 1, 2, 1, []), (6, 2, 4, 0, []), bz, (1, 1, 0, 0, []), (6, 2, 5, 0, []), bz, (3, 2, 5, 0, []), bz, (5, 1, 0, 1, []), (25, 3, 98, 0, []), bz, bz, (25, 3, 67, 0, []), bz, bz, (22, 3, 116, 3, []), bz, bz, (3, 2, 5, 0, []), bz, (5, 1, 0, 1, []), (25, 3, 98, 0, []), bz, bz, (25, 3, 67, 0, []), bz, bz, (1, 1, 0, 1, []), (10, 1, 1, 0, []), (22, 3, 74, 1, []), bz, bz, (1, 1, 0, 0, []), (23, 3, 77, 0, []), bz, bz, (3, 1, 3, 1, []), (1, 1, 0, 2, []), (11, 1, 0, 0, []), (6, 2, 6, 0, []), bz, (5, 1, 0, 1, []), (25, 3, 93, 0, []), bz, bz, (25, 3, 43, 0, []), bz, bz, (5, 1, 0, 1, []), (25, 3, 98, 0, []), bz, bz, (25, 3, 63, 0, []), bz, bz, (3, 2, 5, 0, []), bz, (27, 1, 0, 0, []), (20, 1, 0, 0, []), (27, 1, 0, 0, []), (3, 1, 3, 1, []), (3, 2, 6, 0, []), bz, (10, 1, 1, 0, []), (10, 1, 0, 0, []), (28, 1, 0, 0, []), (3, 1, 3, 1, []), (6, 2, 4, 0, []), bz, (3, 2, 6, 0, []), bz, (6, 1, 3, 1, []), (9, 3, 5, 1, []), bz, bz, (23, 3, 44, 0, []), bz, bz, (3, 2, 4, 0, []), bz, (41, 1, 0, 0, [])]
def cd_X9_day : List bh_I := [(5, 1, 0, 1, []), (40, 3, 84, 0, []), bz, bz, (3, 1, 1, 1, []), (6, 1, 2, 1, []), (1, 1, 0, 0, []), (6, 1, 3, 1, []), (1, 1, 0, 0, []), (6, 2, 4, 0, []), bz, (3, 2, 4, 0, []), bz, (5, 1, 0, 1, []), (25, 3, 93, 0, []), bz, bz, (25, 3, 5, 0, []), bz, bz, (22, 3, 98, 3, []), bz, bz, (5, 1, 0, 1, []), (25, 3, 93, 0, []), bz, bz, (25, 3, 38, 0, []), bz, bz, (3, 2, 4, 0, []), bz, (27, 1, 0, 0, []), (6, 2, 5, 0, []), bz, (3, 2, 5, 0, []), bz, (1, 1, 0, (-1), []), (22, 3, 69, 1, []), bz, bz, (1, 2, 3, 1103515245, [167, 665]), bz, (3, 1, 2, 1, []), (10, 1, 2, 0, []), (1, 3, 2, 12345, []), bz, bz, (10, 1, 0, 0, []), (6, 1, 2, 1, []), (3, 1, 2, 1, []), (1, 2, 1, 16, []), bz, (10, 1, 8, 0, []), (1, 1, 0, 3, []), (12, 1, 0, 0, []), (21, 3, 63, 1, []), bz, bz, (1, 1, 0, 1, []), (23, 3, 64, 0, []), bz, bz, (1, 1, 0, 0, []), (6, 2, 6, 0, []), bz, (23, 3, 80, 0, []), bz, bz, (5, 1, 0, 1, []), (25, 3, 93, 0, []), bz, bz, (3, 2, 5, 0, []), bz, (40, 3, 92, 0, []), bz, bz, (6, 2, 6, 0, []), bz, (3, 2, 6, 0, []), bz, (21, 3, 92, 0, []), bz, bz, (3, 1, 3, 1, []), (1, 1, 0, 1, []), (3, 2, 4, 0, []), bz, (10, 1, 6, 0, []), (10, 1, 4, 0, []), (6, 1, 3, 1, []), (9, 3, 4, 1, []), bz, bz, (23, 3, 11, 0, []), bz, bz, (5, 1, 0, 1, []), (25, 3, 93, 0, []), bz, bz, (3, 1, 3, 1, []), (26, 3, 16, 0, []), bz, bz, (5, 1, 0, 1, []), (25, 3, 93, 0, []), bz, bz, (18, 1, 0, 0, []), (25, 3, 14, 0, []), bz, bz, (1, 1, 0, 1, []), (10, 1, 0, 0, []), (26, 3, 14, 0, []), bz, bz, (3, 1, 3, 1, []), (41, 1, 0, 0, [])]
def cd_X9_store : List bh_I := [(5, 1, 0, 1, []), (25, 3, 93, 0, []), bz, bz, (3, 1, 1, 1, []), (40, 3, 82, 0, []), bz, bz, (21, 3, 22, 0, []), bz, bz, (5, 1, 0, 1, []), (25, 3, 93, 0, []), bz, bz, (3, 1, 2, 1, []), (40, 3, 93, 0, []), bz, bz, (21, 3, 24, 1, []), bz, bz, (1, 1, 0, (-1), []), (41, 1, 0, 0, []), (5, 1, 0, 1, []), (25, 3, 93, 0, []), bz, bz, (3, 1, 1, 1, []), (40, 3, 83, 0, []), bz, bz, (21, 3, 38, 0, []), bz, bz, (1, 2, 1, (-4), []), bz, (41, 1, 0, 0, []), (5, 1, 0, 1, []), (3, 1, 1, 1, []), (3, 1, 2, 1, []), (1, 1, 0, 0, []), (40, 3, 94, 0, []), bz, bz, (1, 2, 1, (-2), []), bz, (22, 3, 53, 1, []), bz, bz, (1, 2, 1, (-2), []), bz, (41, 1, 0, 0, []), (5, 1, 0, 1, []), (40, 3, 84, 0, []), bz, bz, (5, 1, 0, 1, []), (25, 3, 93, 0, []), bz, bz, (25, 3, 48, 0, []), bz, bz, (3, 1, 2, 1, []), (27, 1, 0, 0, []), (6, 1, 3, 1, []), (1, 1, 0, 0, []), (6, 2, 4, 0, []), bz, (3, 2, 4, 0, []), bz, (3, 1, 3, 1, []), (22, 3, 101, 3, []), bz, bz, (5, 1, 0, 1, []), (25, 3, 93, 0, []), bz, bz, (3, 1, 1, 1, []), (3, 1, 2, 1, []), (3, 2, 4, 0, []), bz, (5, 1, 0, 1, []), (3, 1, 1, 1, []), (3, 1, 2, 1, []), (3, 2, 4, 0, []), bz, (40, 3, 94, 0, []), bz, bz, (40, 3, 95, 0, []), bz, bz, (9, 3, 4, 1, []), bz, bz, (23, 3, 70, 0, []), bz, bz, (3, 1, 3, 1, []), (41, 1, 0, 0, [])]
def cd_X9_die : List bh_I := [(5, 1, 0, 1, []), (25, 3, 93, 0, []), bz, bz, (3, 1, 1, 1, []), (40, 3, 82, 0, []), bz, bz, (21, 3, 13, 1, []), bz, bz, (1, 1, 0, (-1), []), (41, 1, 0, 0, []), (5, 1, 0, 1, []), (25, 3, 93, 0, []), bz, bz, (3, 1, 1, 1, []), (40, 3, 83, 0, []), bz, bz, (21, 3, 27, 0, []), bz, bz, (1, 2, 1, (-4), []), bz, (41, 1, 0, 0, []), (5, 1, 0, 1, []), (40, 3, 84, 0, []), bz, bz, (5, 1, 0, 1, []), (25, 3, 93, 0, []), bz, bz, (18, 1, 0, 0, []), (25, 3, 19, 0, []), bz, bz, (1, 1, 0, 1, []), (3, 1, 1, 1, []), (10, 1, 6, 0, []), (10, 1, 4, 0, []), (26, 3, 19, 0, []), bz, bz, (1, 1, 0, 0, []), (6, 1, 2, 1, []), (1, 1, 0, 0, []), (6, 1, 3, 1, []), (3, 1, 3, 1, []), (5, 1, 0, 1, []), (25, 3, 93, 0, []), bz, bz, (25, 3, 5, 0, []), bz, bz, (22, 3, 78, 3, []), bz, bz, (5, 1, 0, 1, []), (3, 1, 3, 1, []), (40, 3, 96, 0, []), bz, bz, (21, 3, 72, 0, []), bz, bz, (9, 3, 2, 1, []), bz, bz, (9, 3, 3, 1, []), bz, bz, (23, 3, 50, 0, []), bz, bz, (3, 1, 2, 1, []), (41, 1, 0, 0, [])]
def cd_X9_see : List bh_I := [(3, 1, 1, 1, []), (40, 3, 97, 0, []), bz, bz, (21, 3, 9, 1, []), bz, bz, (1, 1, 0, (-1), []), (41, 1, 0, 0, []), (5, 1, 0, 1, []), (25, 3, 93, 0, []), bz, bz, (25, 3, 12, 0, []), bz, bz, (1, 2, 1, 16, []), bz, (22, 3, 24, 2, []), bz, bz, (1, 2, 1, (-3), []), bz, (41, 1, 0, 0, []), (5, 1, 0, 1, []), (40, 3, 84, 0, []), bz, bz, (5, 1, 0, 1, []), (25, 3, 93, 0, []), bz, bz, (25, 3, 53, 0, []), bz, bz, (5, 1, 0, 1, []), (25, 3, 93, 0, []), bz, bz, (25, 3, 12, 0, []), bz, bz, (3, 1, 1, 1, []), (28, 1, 0, 0, []), (5, 1, 0, 1, []), (25, 3, 93, 0, []), bz, bz, (18, 1, 0, 0, []), (25, 3, 12, 0, []), bz, bz, (1, 1, 0, 1, []), (10, 1, 0, 0, []), (26, 3, 12, 0, []), bz, bz, (5, 1, 0, 1, []), (25, 3, 93, 0, []), bz, bz, (25, 3, 12, 0, []), bz, bz, (41, 1, 0, 0, [])]
def cd_X9_forget : List bh_I := [(5, 1, 0, 1, []), (25, 3, 93, 0, []), bz, bz, (25, 3, 12, 0, []), bz, bz, (6, 1, 1, 1, []), (3, 1, 1, 1, []), (21, 3, 14, 1, []), bz, bz, (1, 1, 0, (-1), []), (41, 1, 0, 0, []), (5, 1, 0, 1, []), (40, 3, 84, 0, []), bz, bz, (5, 1, 0, 1, []), (25, 3, 93, 0, []), bz, bz, (1, 1, 0, 0, []), (26, 3, 12, 0, []), bz, bz, (3, 1, 1, 1, []), (41, 1, 0, 0, [])]
def cd_X9_undo : List bh_I := [(5, 1, 0, 1, []), (25, 3, 107, 0, []), bz, bz, (21, 3, 9, 1, []), bz, bz, (1, 1, 0, (-1), []), (41, 1, 0, 0, []), (5, 1, 0, 1, []), (18, 1, 0, 0, []), (25, 3, 107, 0, []), bz, bz, (1, 1, 0, 1, []), (10, 1, 1, 0, []), (26, 3, 107, 0, []), bz, bz, (5, 1, 0, 1, []), (5, 1, 0, 1, []), (25, 3, 106, 0, []), bz, bz, (1, 2, 1, 10, []), bz, (10, 1, 0, 0, []), (1, 1, 0, 1, []), (10, 1, 1, 0, []), (1, 2, 1, 10, []), bz, (12, 1, 0, 0, []), (26, 3, 106, 0, []), bz, bz, (5, 1, 0, 1, []), (25, 3, 93, 0, []), bz, bz, (5, 1, 0, 1, []), (25, 3, 96, 0, []), bz, bz, (5, 1, 0, 1, []), (25, 3, 106, 0, []), bz, bz, (33, 1, 0, 0, []), (40, 3, 81, 0, []), bz, bz, (5, 1, 0, 1, []), (25, 3, 107, 0, []), bz, bz, (41, 1, 0, 0, [])]
def cd_X9_keep : List bh_I := [(3, 1, 1, 1, []), (40, 3, 98, 0, []), bz, bz, (21, 3, 9, 1, []), bz, bz, (1, 1, 0, (-1), []), (41, 1, 0, 0, []), (5, 1, 0, 1, []), (25, 3, 97, 0, []), bz, bz, (3, 1, 1, 1, []), (33, 1, 0, 0, []), (5, 1, 0, 1, []), (25, 3, 93, 0, []), bz, bz, (40, 3, 81, 0, []), bz, bz, (5, 1, 0, 1, []), (18, 1, 0, 0, []), (25, 3, 108, 0, []), bz, bz, (1, 1, 0, 1, []), (3, 1, 1, 1, []), (10, 1, 6, 0, []), (10, 1, 4, 0, []), (26, 3, 108, 0, []), bz, bz, (5, 1, 0, 1, []), (25, 3, 93, 0, []), bz, bz, (25, 3, 5, 0, []), bz, bz, (41, 1, 0, 0, [])]
def cd_X9_back : List bh_I := [(3, 1, 1, 1, []), (40, 3, 98, 0, []), bz, bz, (21, 3, 9, 1, []), bz, bz, (1, 1, 0, (-1), []), (41, 1, 0, 0, []), (5, 1, 0, 1, []), (25, 3, 108, 0, []), bz, bz, (3, 1, 1, 1, []), (10, 1, 7, 0, []), (1, 1, 0, 1, []), (10, 1, 3, 0, []), (21, 3, 23, 1, []), bz, bz, (1, 2, 1, (-2), []), bz, (41, 1, 0, 0, []), (5, 1, 0, 1, []), (25, 3, 93, 0, []), bz, bz, (5, 1, 0, 1, []), (25, 3, 97, 0, []), bz, bz, (3, 1, 1, 1, []), (33, 1, 0, 0, []), (40, 3, 81, 0, []), bz, bz, (5, 1, 0, 1, []), (1, 1, 0, 0, []), (26, 3, 107, 0, []), bz, bz, (5, 1, 0, 1, []), (25, 3, 93, 0, []), bz, bz, (25, 3, 5, 0, []), bz, bz, (41, 1, 0, 0, [])]
def cd_X9_writer : List bh_I := [(5, 1, 0, 1, []), (25, 3, 93, 0, []), bz, bz, (3, 1, 1, 1, []), (40, 3, 82, 0, []), bz, bz, (21, 3, 14, 1, []), bz, bz, (1, 2, 3, (-2147483648), [216, 750]), bz, (41, 1, 0, 0, []), (3, 1, 2, 1, []), (24, 65, 239, 0, [80, 90, 100, 122, 144, 154, 160, 166, 176, 186, 203, 220, 230]), bz, bz, bz, bz, bz, bz, bz, bz, bz, bz, bz, bz, bz, bz, bz, bz, bz, bz, bz, bz, bz, bz, bz, bz, bz, bz, bz, bz, bz, bz, bz, bz, bz, bz, bz, bz, bz, bz, bz, bz, bz, bz, bz, bz, bz, bz, bz, bz, bz, bz, bz, bz, bz, bz, bz, bz, bz, bz, bz, bz, bz, bz, bz, bz, (5, 1, 0, 1, []), (25, 3, 93, 0, []), bz, bz, (25, 3, 22, 0, []), bz, bz, (3, 1, 1, 1, []), (27, 1, 0, 0, []), (41, 1, 0, 0, []), (5, 1, 0, 1, []), (25, 3, 93, 0, []), bz, bz, (25, 3, 27, 0, []), bz, bz, (3, 1, 1, 1, []), (27, 1, 0, 0, []), (41, 1, 0, 0, []), (5, 1, 0, 1, []), (25, 3, 93, 0, []), bz, bz, (25, 3, 27, 0, []), bz, bz, (3, 1, 1, 1, []), (27, 1, 0, 0, []), (5, 1, 0, 1, []), (25, 3, 93, 0, []), bz, bz, (25, 3, 31, 0, []), bz, bz, (3, 1, 1, 1, []), (27, 1, 0, 0, []), (40, 3, 99, 0, []), bz, bz, (41, 1, 0, 0, []), (5, 1, 0, 1, []), (25, 3, 93, 0, []), bz, bz, (25, 3, 27, 0, []), bz, bz, (3, 1, 1, 1, []), (27, 1, 0, 0, []), (5, 1, 0, 1, []), (25, 3, 93, 0, []), bz, bz, (25, 3, 35, 0, []), bz, bz, (3, 1, 1, 1, []), (27, 1, 0, 0, []), (40, 3, 100, 0, []), bz, bz, (41, 1, 0, 0, []), (5, 1, 0, 1, []), (25, 3, 93, 0, []), bz, bz, (25, 3, 38, 0, []), bz, bz, (3, 1, 1, 1, []), (27, 1, 0, 0, []), (41, 1, 0, 0, []), (5, 1, 0, 1, []), (3, 1, 1, 1, []), (40, 3, 85, 0, []), bz, bz, (41, 1, 0, 0, []), (5, 1, 0, 1, []), (3, 1, 1, 1, []), (40, 3, 101, 0, []), bz, bz, (41, 1, 0, 0, []), (5, 1, 0, 1, []), (25, 3, 93, 0, []), bz, bz, (25, 3, 41, 0, []), bz, bz, (3, 1, 1, 1, []), (27, 1, 0, 0, []), (41, 1, 0, 0, []), (5, 1, 0, 1, []), (25, 3, 93, 0, []), bz, bz, (25, 3, 43, 0, []), bz, bz, (3, 1, 1, 1, []), (27, 1, 0, 0, []), (41, 1, 0, 0, []), (5, 1, 0, 1, []), (25, 3, 93, 0, []), bz, bz, (3, 1, 1, 1, []), (40, 3, 92, 0, []), bz, bz, (21, 3, 201, 0, []), bz, bz, (1, 1, 0, 1, []), (23, 3, 202, 0, []), bz, bz, (1, 1, 0, 0, []), (41, 1, 0, 0, []), (5, 1, 0, 1, []), (25, 3, 93, 0, []), bz, bz, (3, 1, 1, 1, []), (40, 3, 83, 0, []), bz, bz, (21, 3, 218, 0, []), bz, bz, (1, 1, 0, 1, []), (23, 3, 219, 0, []), bz, bz, (1, 1, 0, 0, []), (41, 1, 0, 0, []), (5, 1, 0, 1, []), (25, 3, 93, 0, []), bz, bz, (25, 3, 45, 0, []), bz, bz, (3, 1, 1, 1, []), (27, 1, 0, 0, []), (41, 1, 0, 0, []), (5, 1, 0, 1, []), (25, 3, 93, 0, []), bz, bz, (3, 1, 1, 1, []), (40, 3, 102, 0, []), bz, bz, (41, 1, 0, 0, []), (1, 2, 3, (-2147483648), [216, 750]), bz, (41, 1, 0, 0, [])]
def cd_X9_page : List bh_I := [(5, 1, 0, 1, []), (25, 3, 93, 0, []), bz, bz, (3, 1, 1, 1, []), (3, 1, 2, 1, []), (40, 3, 103, 0, []), bz, bz, (21, 3, 24, 0, []), bz, bz, (5, 1, 0, 1, []), (25, 3, 93, 0, []), bz, bz, (3, 1, 1, 1, []), (3, 1, 2, 1, []), (40, 3, 104, 0, []), bz, bz, (23, 3, 25, 0, []), bz, bz, (1, 1, 0, (-1), []), (41, 1, 0, 0, [])]
def cd_X9_line : List bh_I := [(5, 1, 0, 1, []), (25, 3, 93, 0, []), bz, bz, (3, 1, 1, 1, []), (40, 3, 82, 0, []), bz, bz, (21, 3, 23, 0, []), bz, bz, (5, 1, 0, 1, []), (25, 3, 93, 0, []), bz, bz, (3, 1, 2, 1, []), (3, 1, 3, 1, []), (40, 3, 103, 0, []), bz, bz, (21, 3, 25, 1, []), bz, bz, (1, 1, 0, (-1), []), (41, 1, 0, 0, []), (5, 1, 0, 1, []), (3, 1, 1, 1, []), (3, 1, 2, 1, []), (3, 1, 3, 1, []), (40, 3, 94, 0, []), bz, bz, (41, 1, 0, 0, [])]
def cd_X9_trace : List bh_I := [(5, 1, 0, 1, []), (25, 3, 93, 0, []), bz, bz, (3, 1, 1, 1, []), (40, 3, 82, 0, []), bz, bz, (21, 3, 23, 0, []), bz, bz, (5, 1, 0, 1, []), (25, 3, 93, 0, []), bz, bz, (3, 1, 2, 1, []), (3, 1, 3, 1, []), (40, 3, 103, 0, []), bz, bz, (21, 3, 26, 1, []), bz, bz, (1, 2, 1, (-3), []), bz, (41, 1, 0, 0, []), (3, 2, 4, 0, []), bz, (40, 3, 105, 0, []), bz, bz, (21, 3, 45, 0, []), bz, bz, (3, 2, 5, 0, []), bz, (21, 3, 45, 2, []), bz, bz, (3, 2, 5, 0, []), bz, (1, 1, 0, 1, []), (22, 3, 48, 5, []), bz, bz, (1, 2, 1, (-3), []), bz, (41, 1, 0, 0, []), (5, 1, 0, 1, []), (3, 1, 1, 1, []), (3, 1, 2, 1, []), (3, 1, 3, 1, []), (40, 3, 106, 0, []), bz, bz, (21, 3, 61, 1, []), bz, bz, (1, 2, 1, (-2), []), bz, (41, 1, 0, 0, []), (3, 2, 5, 0, []), bz, (21, 3, 79, 1, []), bz, bz, (5, 1, 0, 1, []), (25, 3, 99, 0, []), bz, bz, (25, 3, 69, 0, []), bz, bz, (3, 2, 4, 0, []), bz, (27, 1, 0, 0, []), (23, 3, 89, 0, []), bz, bz, (5, 1, 0, 1, []), (25, 3, 99, 0, []), bz, bz, (25, 3, 71, 0, []), bz, bz, (3, 2, 4, 0, []), bz, (27, 1, 0, 0, []), (41, 1, 0, 0, [])]
def cd_X9_own : List bh_I := [(5, 1, 0, 1, []), (25, 3, 93, 0, []), bz, bz, (3, 1, 1, 1, []), (40, 3, 82, 0, []), bz, bz, (21, 3, 23, 0, []), bz, bz, (5, 1, 0, 1, []), (25, 3, 93, 0, []), bz, bz, (3, 1, 2, 1, []), (3, 1, 3, 1, []), (40, 3, 103, 0, []), bz, bz, (21, 3, 25, 1, []), bz, bz, (1, 1, 0, (-1), []), (41, 1, 0, 0, []), (5, 1, 0, 1, []), (3, 1, 1, 1, []), (3, 1, 2, 1, []), (3, 1, 3, 1, []), (40, 3, 106, 0, []), bz, bz, (21, 3, 38, 1, []), bz, bz, (1, 2, 1, (-2), []), bz, (41, 1, 0, 0, []), (5, 1, 0, 1, []), (25, 3, 99, 0, []), bz, bz, (3, 1, 1, 1, []), (40, 3, 107, 0, []), bz, bz, (41, 1, 0, 0, [])]
def cd_X9_pay : List bh_I := [(5, 1, 0, 1, []), (25, 3, 93, 0, []), bz, bz, (3, 1, 1, 1, []), (40, 3, 82, 0, []), bz, bz, (21, 3, 23, 0, []), bz, bz, (5, 1, 0, 1, []), (25, 3, 93, 0, []), bz, bz, (3, 1, 2, 1, []), (3, 1, 3, 1, []), (40, 3, 103, 0, []), bz, bz, (21, 3, 25, 1, []), bz, bz, (1, 1, 0, (-1), []), (41, 1, 0, 0, []), (5, 1, 0, 1, []), (3, 1, 1, 1, []), (3, 1, 2, 1, []), (3, 1, 3, 1, []), (40, 3, 106, 0, []), bz, bz, (21, 3, 38, 1, []), bz, bz, (1, 2, 1, (-2), []), bz, (41, 1, 0, 0, []), (1, 1, 0, 0, []), (6, 2, 4, 0, []), bz, (1, 1, 0, 0, []), (6, 2, 5, 0, []), bz, (3, 2, 5, 0, []), bz, (5, 1, 0, 1, []), (25, 3, 98, 0, []), bz, bz, (25, 3, 67, 0, []), bz, bz, (22, 3, 97, 3, []), bz, bz, (3, 2, 4, 0, []), bz, (5, 1, 0, 1, []), (25, 3, 99, 0, []), bz, bz, (5, 1, 0, 1, []), (25, 3, 98, 0, []), bz, bz, (25, 3, 63, 0, []), bz, bz, (3, 2, 5, 0, []), bz, (27, 1, 0, 0, []), (40, 3, 107, 0, []), bz, bz, (40, 3, 108, 0, []), bz, bz, (10, 1, 0, 0, []), (6, 2, 4, 0, []), bz, (3, 2, 4, 0, []), bz, (1, 2, 1, 8, []), bz, (22, 3, 91, 2, []), bz, bz, (3, 2, 5, 0, []), bz, (41, 1, 0, 0, []), (9, 3, 5, 1, []), bz, bz, (23, 3, 44, 0, []), bz, bz, (1, 2, 1, (-2), []), bz, (41, 1, 0, 0, [])]
def cd_X9_alike : List bh_I := [(5, 1, 0, 1, []), (25, 3, 93, 0, []), bz, bz, (3, 1, 1, 1, []), (40, 3, 82, 0, []), bz, bz, (21, 3, 22, 0, []), bz, bz, (5, 1, 0, 1, []), (25, 3, 93, 0, []), bz, bz, (3, 1, 2, 1, []), (40, 3, 82, 0, []), bz, bz, (21, 3, 24, 1, []), bz, bz, (1, 1, 0, (-1), []), (41, 1, 0, 0, []), (5, 1, 0, 1, []), (3, 1, 1, 1, []), (1, 1, 0, 0, []), (40, 3, 109, 0, []), bz, bz, (5, 1, 0, 1, []), (3, 1, 2, 1, []), (1, 1, 0, 0, []), (40, 3, 109, 0, []), bz, bz, (22, 3, 41, 0, []), bz, bz, (1, 1, 0, 0, []), (41, 1, 0, 0, []), (1, 1, 0, 0, []), (6, 1, 3, 1, []), (3, 1, 3, 1, []), (1, 2, 1, 16, []), bz, (22, 3, 76, 3, []), bz, bz, (5, 1, 0, 1, []), (3, 1, 1, 1, []), (1, 1, 0, 1, []), (3, 1, 3, 1, []), (10, 1, 6, 0, []), (40, 3, 109, 0, []), bz, bz, (5, 1, 0, 1, []), (3, 1, 2, 1, []), (1, 1, 0, 1, []), (3, 1, 3, 1, []), (10, 1, 6, 0, []), (40, 3, 109, 0, []), bz, bz, (22, 3, 70, 0, []), bz, bz, (1, 1, 0, 0, []), (41, 1, 0, 0, []), (9, 3, 3, 1, []), bz, bz, (23, 3, 43, 0, []), bz, bz, (1, 1, 0, 1, []), (41, 1, 0, 0, [])]
def cd_X9_fits : List bh_I := [(3, 1, 1, 1, []), (40, 3, 97, 0, []), bz, bz, (21, 3, 12, 0, []), bz, bz, (3, 1, 2, 1, []), (1, 1, 0, (-1), []), (22, 3, 14, 3, []), bz, bz, (1, 1, 0, (-1), []), (41, 1, 0, 0, []), (1, 1, 0, 0, []), (6, 1, 3, 1, []), (1, 1, 0, 0, []), (6, 2, 4, 0, []), bz, (3, 2, 4, 0, []), bz, (1, 3, 2, 384, []), bz, bz, (22, 3, 54, 3, []), bz, bz, (5, 1, 0, 1, []), (3, 2, 4, 0, []), bz, (40, 3, 110, 0, []), bz, bz, (3, 1, 1, 1, []), (22, 3, 48, 1, []), bz, bz, (3, 1, 3, 1, []), (3, 1, 2, 1, []), (22, 3, 45, 1, []), bz, bz, (3, 2, 4, 0, []), bz, (41, 1, 0, 0, []), (9, 3, 3, 1, []), bz, bz, (9, 3, 4, 1, []), bz, bz, (23, 3, 19, 0, []), bz, bz, (3, 1, 2, 1, []), (1, 1, 0, (-1), []), (22, 3, 63, 1, []), bz, bz, (3, 1, 3, 1, []), (23, 3, 65, 0, []), bz, bz, (1, 2, 1, (-2), []), bz, (41, 1, 0, 0, [])]
def cd_X9_likeliest : List bh_I := [(3, 1, 1, 1, []), (40, 3, 97, 0, []), bz, bz, (21, 3, 16, 0, []), bz, bz, (3, 1, 2, 1, []), (21, 3, 16, 2, []), bz, bz, (3, 1, 2, 1, []), (1, 1, 0, 1, []), (22, 3, 18, 5, []), bz, bz, (1, 1, 0, (-1), []), (41, 1, 0, 0, []), (1, 2, 1, (-2), []), bz, (6, 1, 3, 1, []), (1, 2, 1, 17, []), bz, (6, 2, 4, 0, []), bz, (1, 1, 0, 0, []), (6, 2, 5, 0, []), bz, (3, 2, 5, 0, []), bz, (1, 3, 2, 384, []), bz, bz, (22, 3, 79, 3, []), bz, bz, (5, 1, 0, 1, []), (3, 2, 5, 0, []), bz, (40, 3, 110, 0, []), bz, bz, (6, 2, 6, 0, []), bz, (3, 2, 6, 0, []), bz, (21, 3, 73, 2, []), bz, bz, (3, 2, 6, 0, []), bz, (3, 1, 1, 1, []), (10, 1, 5, 0, []), (40, 3, 108, 0, []), bz, bz, (3, 2, 4, 0, []), bz, (22, 3, 73, 3, []), bz, bz, (3, 2, 5, 0, []), bz, (6, 1, 3, 1, []), (3, 2, 6, 0, []), bz, (3, 1, 1, 1, []), (10, 1, 5, 0, []), (40, 3, 108, 0, []), bz, bz, (6, 2, 4, 0, []), bz, (9, 3, 5, 1, []), bz, bz, (23, 3, 28, 0, []), bz, bz, (3, 1, 3, 1, []), (1, 2, 1, (-2), []), bz, (22, 3, 89, 0, []), bz, bz, (3, 1, 2, 1, []), (21, 3, 93, 1, []), bz, bz, (3, 1, 3, 1, []), (23, 3, 95, 0, []), bz, bz, (3, 2, 4, 0, []), bz, (41, 1, 0, 0, [])]
def cd_X9_matches : List bh_I := [(5, 1, 0, 1, []), (25, 3, 93, 0, []), bz, bz, (3, 1, 1, 1, []), (40, 3, 82, 0, []), bz, bz, (21, 3, 18, 0, []), bz, bz, (3, 1, 2, 1, []), (40, 3, 97, 0, []), bz, bz, (21, 3, 22, 1, []), bz, bz, (2, 3, 1, (-1), [270, 872]), bz, bz, (42, 1, 0, 0, []), (2, 1, 0, 0, []), (7, 1, 3, 1, []), (1, 1, 0, 0, []), (6, 2, 5, 0, []), bz, (3, 2, 5, 0, []), bz, (1, 2, 1, 32, []), bz, (22, 3, 62, 3, []), bz, bz, (5, 1, 0, 1, []), (1, 2, 1, 32, []), bz, (3, 1, 1, 1, []), (10, 1, 2, 0, []), (3, 2, 5, 0, []), bz, (10, 1, 0, 0, []), (40, 3, 110, 0, []), bz, bz, (3, 1, 2, 1, []), (22, 3, 56, 1, []), bz, bz, (4, 1, 3, 1, []), (2, 1, 0, 1, []), (3, 2, 5, 0, []), bz, (14, 1, 0, 0, []), (13, 1, 2, 0, []), (7, 1, 3, 1, []), (9, 3, 5, 1, []), bz, bz, (23, 3, 27, 0, []), bz, bz, (4, 1, 3, 1, []), (42, 1, 0, 0, [])]
def cd_X9_trees : List bh_I := [(5, 1, 0, 1, []), (25, 3, 93, 0, []), bz, bz, (3, 1, 1, 1, []), (3, 1, 2, 1, []), (40, 3, 103, 0, []), bz, bz, (21, 3, 19, 0, []), bz, bz, (5, 1, 0, 1, []), (40, 3, 111, 0, []), bz, bz, (21, 3, 23, 1, []), bz, bz, (2, 3, 1, (-1), [270, 872]), bz, bz, (42, 1, 0, 0, []), (2, 1, 0, 1, []), (7, 1, 3, 1, []), (1, 1, 0, 0, []), (6, 2, 5, 0, []), bz, (3, 2, 5, 0, []), bz, (5, 1, 0, 1, []), (25, 3, 93, 0, []), bz, bz, (25, 3, 12, 0, []), bz, bz, (22, 3, 68, 3, []), bz, bz, (4, 1, 3, 1, []), (5, 1, 0, 1, []), (3, 2, 5, 0, []), bz, (5, 1, 0, 1, []), (25, 3, 93, 0, []), bz, bz, (3, 1, 1, 1, []), (3, 1, 2, 1, []), (40, 3, 104, 0, []), bz, bz, (40, 3, 112, 0, []), bz, bz, (40, 3, 108, 0, []), bz, bz, (15, 1, 0, 0, []), (13, 1, 1, 0, []), (7, 1, 3, 1, []), (9, 3, 5, 1, []), bz, bz, (23, 3, 28, 0, []), bz, bz, (4, 1, 3, 1, []), (42, 1, 0, 0, [])]
def cd_X9_under : List bh_I := [(5, 1, 0, 1, []), (25, 3, 93, 0, []), bz, bz, (3, 1, 1, 1, []), (3, 1, 2, 1, []), (40, 3, 103, 0, []), bz, bz, (21, 3, 19, 0, []), bz, bz, (5, 1, 0, 1, []), (40, 3, 111, 0, []), bz, bz, (21, 3, 21, 1, []), bz, bz, (1, 1, 0, (-1), []), (41, 1, 0, 0, []), (3, 1, 3, 1, []), (21, 3, 36, 2, []), bz, bz, (3, 1, 3, 1, []), (5, 1, 0, 1, []), (25, 3, 93, 0, []), bz, bz, (25, 3, 12, 0, []), bz, bz, (22, 3, 38, 2, []), bz, bz, (1, 1, 0, (-1), []), (41, 1, 0, 0, []), (5, 1, 0, 1, []), (3, 1, 3, 1, []), (5, 1, 0, 1, []), (25, 3, 93, 0, []), bz, bz, (3, 1, 1, 1, []), (3, 1, 2, 1, []), (40, 3, 104, 0, []), bz, bz, (40, 3, 112, 0, []), bz, bz, (41, 1, 0, 0, [])]
def cd_X9_breaks : List bh_I := [(5, 1, 0, 1, []), (25, 3, 93, 0, []), bz, bz, (3, 1, 1, 1, []), (40, 3, 82, 0, []), bz, bz, (21, 3, 22, 0, []), bz, bz, (5, 1, 0, 1, []), (25, 3, 93, 0, []), bz, bz, (3, 1, 2, 1, []), (40, 3, 93, 0, []), bz, bz, (21, 3, 25, 1, []), bz, bz, (1, 2, 1, (-3), []), bz, (41, 1, 0, 0, []), (3, 1, 3, 1, []), (21, 3, 44, 2, []), bz, bz, (3, 1, 3, 1, []), (1, 1, 0, 1, []), (22, 3, 44, 4, []), bz, bz, (5, 1, 0, 1, []), (25, 3, 93, 0, []), bz, bz, (25, 3, 12, 0, []), bz, bz, (21, 3, 47, 1, []), bz, bz, (1, 2, 1, (-3), []), bz, (41, 1, 0, 0, []), (5, 1, 0, 1, []), (25, 3, 101, 0, []), bz, bz, (5, 1, 0, 1, []), (25, 3, 93, 0, []), bz, bz, (5, 1, 0, 1, []), (25, 3, 98, 0, []), bz, bz, (3, 1, 1, 1, []), (3, 1, 2, 1, []), (40, 3, 113, 0, []), bz, bz, (5, 1, 0, 1, []), (25, 3, 101, 0, []), bz, bz, (25, 3, 86, 0, []), bz, bz, (21, 3, 77, 1, []), bz, bz, (1, 2, 1, (-2), []), bz, (41, 1, 0, 0, []), (3, 1, 3, 1, []), (21, 3, 91, 1, []), bz, bz, (5, 1, 0, 1, []), (25, 3, 101, 0, []), bz, bz, (25, 3, 86, 0, []), bz, bz, (1, 1, 0, 1, []), (10, 1, 1, 0, []), (41, 1, 0, 0, []), (5, 1, 0, 1, []), (25, 3, 101, 0, []), bz, bz, (25, 3, 86, 0, []), bz, bz, (1, 1, 0, 1, []), (22, 3, 114, 5, []), bz, bz, (5, 1, 0, 1, []), (25, 3, 101, 0, []), bz, bz, (25, 3, 82, 0, []), bz, bz, (1, 1, 0, 1, []), (27, 1, 0, 0, []), (23, 3, 115, 0, []), bz, bz, (1, 1, 0, (-1), []), (41, 1, 0, 0, [])]
def cd_X9_untangle : List bh_I := [(5, 1, 0, 1, []), (25, 3, 93, 0, []), bz, bz, (3, 1, 1, 1, []), (40, 3, 82, 0, []), bz, bz, (21, 3, 27, 0, []), bz, bz, (5, 1, 0, 1, []), (25, 3, 93, 0, []), bz, bz, (3, 1, 2, 1, []), (40, 3, 82, 0, []), bz, bz, (21, 3, 27, 0, []), bz, bz, (3, 1, 1, 1, []), (3, 1, 2, 1, []), (22, 3, 31, 1, []), bz, bz, (2, 3, 1, (-1), [270, 872]), bz, bz, (42, 1, 0, 0, []), (5, 1, 0, 1, []), (25, 3, 93, 0, []), bz, bz, (3, 1, 3, 1, []), (40, 3, 93, 0, []), bz, bz, (21, 3, 46, 1, []), bz, bz, (2, 3, 1, (-1), [270, 872]), bz, bz, (42, 1, 0, 0, []), (3, 2, 4, 0, []), bz, (21, 3, 63, 2, []), bz, bz, (3, 2, 4, 0, []), bz, (5, 1, 0, 1, []), (25, 3, 93, 0, []), bz, bz, (25, 3, 12, 0, []), bz, bz, (22, 3, 65, 5, []), bz, bz, (2, 1, 0, 0, []), (42, 1, 0, 0, []), (5, 1, 0, 1, []), (3, 1, 1, 1, []), (3, 1, 2, 1, []), (3, 1, 3, 1, []), (40, 3, 114, 0, []), bz, bz, (5, 1, 0, 1, []), (25, 3, 105, 0, []), bz, bz, (3, 2, 4, 0, []), bz, (31, 1, 0, 0, []), (42, 1, 0, 0, [])]
def cd_X9_tells : List bh_I := [(5, 1, 0, 1, []), (25, 3, 93, 0, []), bz, bz, (3, 1, 1, 1, []), (40, 3, 93, 0, []), bz, bz, (21, 3, 19, 0, []), bz, bz, (5, 1, 0, 1, []), (3, 1, 2, 1, []), (40, 3, 115, 0, []), bz, bz, (21, 3, 21, 1, []), bz, bz, (1, 1, 0, (-1), []), (41, 1, 0, 0, []), (3, 1, 3, 1, []), (21, 3, 38, 2, []), bz, bz, (3, 1, 3, 1, []), (1, 1, 0, 1, []), (22, 3, 38, 4, []), bz, bz, (3, 1, 2, 1, []), (40, 3, 108, 0, []), bz, bz, (1, 1, 0, 2, []), (22, 3, 40, 3, []), bz, bz, (1, 1, 0, (-1), []), (41, 1, 0, 0, []), (5, 1, 0, 1, []), (25, 3, 102, 0, []), bz, bz, (5, 1, 0, 1, []), (25, 3, 93, 0, []), bz, bz, (5, 1, 0, 1, []), (25, 3, 98, 0, []), bz, bz, (3, 1, 1, 1, []), (3, 1, 2, 1, []), (40, 3, 116, 0, []), bz, bz, (6, 2, 4, 0, []), bz, (3, 2, 4, 0, []), bz, (21, 3, 67, 1, []), bz, bz, (1, 2, 1, (-2), []), bz, (41, 1, 0, 0, []), (3, 1, 3, 1, []), (21, 3, 79, 1, []), bz, bz, (3, 2, 4, 0, []), bz, (40, 3, 108, 0, []), bz, bz, (23, 3, 81, 0, []), bz, bz, (3, 2, 4, 0, []), bz, (41, 1, 0, 0, [])]
def cd_X9_slips : List bh_I := [(5, 1, 0, 1, []), (25, 3, 93, 0, []), bz, bz, (3, 1, 1, 1, []), (40, 3, 82, 0, []), bz, bz, (21, 3, 23, 0, []), bz, bz, (5, 1, 0, 1, []), (25, 3, 93, 0, []), bz, bz, (3, 1, 2, 1, []), (3, 1, 3, 1, []), (40, 3, 103, 0, []), bz, bz, (21, 3, 26, 1, []), bz, bz, (1, 2, 1, (-3), []), bz, (41, 1, 0, 0, []), (3, 2, 4, 0, []), bz, (40, 3, 97, 0, []), bz, bz, (21, 3, 45, 0, []), bz, bz, (3, 2, 5, 0, []), bz, (21, 3, 45, 2, []), bz, bz, (3, 2, 5, 0, []), bz, (1, 1, 0, 4, []), (22, 3, 48, 5, []), bz, bz, (1, 2, 1, (-3), []), bz, (41, 1, 0, 0, []), (5, 1, 0, 1, []), (25, 3, 98, 0, []), bz, bz, (5, 1, 0, 1, []), (25, 3, 93, 0, []), bz, bz, (3, 1, 1, 1, []), (40, 3, 91, 0, []), bz, bz, (5, 1, 0, 1, []), (25, 3, 98, 0, []), bz, bz, (5, 1, 0, 1, []), (25, 3, 93, 0, []), bz, bz, (40, 3, 117, 0, []), bz, bz, (21, 3, 77, 0, []), bz, bz, (1, 2, 1, (-2), []), bz, (41, 1, 0, 0, []), (5, 1, 0, 1, []), (25, 3, 100, 0, []), bz, bz, (5, 1, 0, 1, []), (25, 3, 93, 0, []), bz, bz, (5, 1, 0, 1, []), (25, 3, 98, 0, []), bz, bz, (5, 1, 0, 1, []), (25, 3, 93, 0, []), bz, bz, (3, 1, 2, 1, []), (3, 1, 3, 1, []), (40, 3, 104, 0, []), bz, bz, (3, 2, 4, 0, []), bz, (40, 3, 118, 0, []), bz, bz, (3, 2, 5, 0, []), bz, (21, 3, 116, 1, []), bz, bz, (5, 1, 0, 1, []), (25, 3, 100, 0, []), bz, bz, (25, 3, 74, 0, []), bz, bz, (41, 1, 0, 0, []), (5, 1, 0, 1, []), (25, 3, 100, 0, []), bz, bz, (25, 3, 74, 0, []), bz, bz, (21, 3, 131, 1, []), bz, bz, (1, 2, 1, (-2), []), bz, (23, 3, 140, 0, []), bz, bz, (5, 1, 0, 1, []), (25, 3, 100, 0, []), bz, bz, (3, 2, 5, 0, []), bz, (40, 3, 119, 0, []), bz, bz, (41, 1, 0, 0, [])]
def cd_X9_errors : List bh_I := [(5, 1, 0, 1, []), (25, 3, 93, 0, []), bz, bz, (3, 1, 1, 1, []), (3, 1, 2, 1, []), (40, 3, 103, 0, []), bz, bz, (21, 3, 19, 0, []), bz, bz, (3, 1, 3, 1, []), (40, 3, 105, 0, []), bz, bz, (21, 3, 21, 1, []), bz, bz, (1, 1, 0, (-1), []), (41, 1, 0, 0, []), (5, 1, 0, 1, []), (25, 3, 103, 0, []), bz, bz, (5, 1, 0, 1, []), (25, 3, 93, 0, []), bz, bz, (5, 1, 0, 1, []), (25, 3, 98, 0, []), bz, bz, (3, 1, 1, 1, []), (3, 1, 2, 1, []), (40, 3, 120, 0, []), bz, bz, (5, 1, 0, 1, []), (25, 3, 103, 0, []), bz, bz, (25, 3, 91, 0, []), bz, bz, (3, 1, 3, 1, []), (27, 1, 0, 0, []), (41, 1, 0, 0, [])]
def cd_X9_nested : List bh_I := [(5, 1, 0, 1, []), (25, 3, 93, 0, []), bz, bz, (3, 1, 1, 1, []), (3, 1, 2, 1, []), (40, 3, 103, 0, []), bz, bz, (21, 3, 21, 0, []), bz, bz, (3, 1, 3, 1, []), (21, 3, 21, 2, []), bz, bz, (3, 1, 3, 1, []), (1, 1, 0, 3, []), (22, 3, 23, 5, []), bz, bz, (1, 1, 0, (-1), []), (41, 1, 0, 0, []), (5, 1, 0, 1, []), (25, 3, 103, 0, []), bz, bz, (5, 1, 0, 1, []), (25, 3, 93, 0, []), bz, bz, (5, 1, 0, 1, []), (25, 3, 98, 0, []), bz, bz, (3, 1, 1, 1, []), (3, 1, 2, 1, []), (40, 3, 120, 0, []), bz, bz, (3, 1, 3, 1, []), (24, 27, 100, 0, [68, 84, 92]), bz, bz, bz, bz, bz, bz, bz, bz, bz, bz, bz, bz, bz, bz, bz, bz, bz, bz, bz, bz, bz, bz, bz, bz, bz, bz, (5, 1, 0, 1, []), (25, 3, 103, 0, []), bz, bz, (40, 3, 121, 0, []), bz, bz, (21, 3, 82, 1, []), bz, bz, (1, 1, 0, 1, []), (23, 3, 83, 0, []), bz, bz, (1, 1, 0, 0, []), (41, 1, 0, 0, []), (5, 1, 0, 1, []), (25, 3, 103, 0, []), bz, bz, (40, 3, 121, 0, []), bz, bz, (41, 1, 0, 0, []), (5, 1, 0, 1, []), (25, 3, 103, 0, []), bz, bz, (40, 3, 122, 0, []), bz, bz, (41, 1, 0, 0, []), (5, 1, 0, 1, []), (25, 3, 103, 0, []), bz, bz, (40, 3, 123, 0, []), bz, bz, (41, 1, 0, 0, [])]
def cd_X9_shared : List bh_I := [(5, 1, 0, 1, []), (25, 3, 93, 0, []), bz, bz, (3, 1, 1, 1, []), (40, 3, 82, 0, []), bz, bz, (21, 3, 22, 0, []), bz, bz, (5, 1, 0, 1, []), (25, 3, 93, 0, []), bz, bz, (3, 1, 2, 1, []), (40, 3, 82, 0, []), bz, bz, (21, 3, 24, 1, []), bz, bz, (1, 1, 0, (-1), []), (41, 1, 0, 0, []), (5, 1, 0, 1, []), (25, 3, 98, 0, []), bz, bz, (5, 1, 0, 1, []), (25, 3, 93, 0, []), bz, bz, (3, 1, 2, 1, []), (40, 3, 91, 0, []), bz, bz, (5, 1, 0, 1, []), (25, 3, 98, 0, []), bz, bz, (40, 3, 124, 0, []), bz, bz, (6, 1, 3, 1, []), (5, 1, 0, 1, []), (25, 3, 98, 0, []), bz, bz, (5, 1, 0, 1, []), (25, 3, 93, 0, []), bz, bz, (3, 1, 1, 1, []), (40, 3, 91, 0, []), bz, bz, (1, 1, 0, 0, []), (6, 2, 4, 0, []), bz, (3, 2, 4, 0, []), bz, (5, 1, 0, 1, []), (25, 3, 98, 0, []), bz, bz, (25, 3, 67, 0, []), bz, bz, (22, 3, 106, 3, []), bz, bz, (3, 1, 3, 1, []), (5, 1, 0, 1, []), (25, 3, 98, 0, []), bz, bz, (25, 3, 63, 0, []), bz, bz, (3, 2, 4, 0, []), bz, (27, 1, 0, 0, []), (10, 1, 7, 0, []), (1, 1, 0, 1, []), (10, 1, 3, 0, []), (1, 1, 0, 1, []), (22, 3, 100, 1, []), bz, bz, (5, 1, 0, 1, []), (25, 3, 98, 0, []), bz, bz, (25, 3, 63, 0, []), bz, bz, (3, 2, 4, 0, []), bz, (27, 1, 0, 0, []), (41, 1, 0, 0, []), (9, 3, 4, 1, []), bz, bz, (23, 3, 59, 0, []), bz, bz, (1, 2, 1, (-2), []), bz, (41, 1, 0, 0, [])]
def cd_X9_quarrel : List bh_I := [(5, 1, 0, 1, []), (25, 3, 93, 0, []), bz, bz, (3, 1, 1, 1, []), (40, 3, 82, 0, []), bz, bz, (21, 3, 35, 0, []), bz, bz, (5, 1, 0, 1, []), (25, 3, 93, 0, []), bz, bz, (3, 1, 2, 1, []), (40, 3, 82, 0, []), bz, bz, (21, 3, 35, 0, []), bz, bz, (5, 1, 0, 1, []), (25, 3, 93, 0, []), bz, bz, (3, 1, 3, 1, []), (3, 2, 4, 0, []), bz, (40, 3, 103, 0, []), bz, bz, (21, 3, 37, 1, []), bz, bz, (1, 1, 0, (-1), []), (41, 1, 0, 0, []), (5, 1, 0, 1, []), (3, 1, 1, 1, []), (3, 1, 3, 1, []), (3, 2, 4, 0, []), bz, (40, 3, 94, 0, []), bz, bz, (6, 2, 5, 0, []), bz, (5, 1, 0, 1, []), (3, 1, 2, 1, []), (3, 1, 3, 1, []), (3, 2, 4, 0, []), bz, (40, 3, 94, 0, []), bz, bz, (6, 2, 6, 0, []), bz, (3, 2, 5, 0, []), bz, (1, 2, 1, (-2), []), bz, (22, 3, 71, 0, []), bz, bz, (3, 2, 6, 0, []), bz, (1, 2, 1, (-2), []), bz, (22, 3, 76, 1, []), bz, bz, (1, 2, 1, (-2), []), bz, (23, 3, 81, 0, []), bz, bz, (3, 2, 5, 0, []), bz, (3, 2, 6, 0, []), bz, (10, 1, 5, 0, []), (41, 1, 0, 0, [])]
def cd_X9_served : List bh_I := [(5, 1, 0, 1, []), (3, 1, 1, 1, []), (40, 3, 115, 0, []), bz, bz, (21, 3, 18, 0, []), bz, bz, (3, 1, 2, 1, []), (21, 3, 18, 2, []), bz, bz, (3, 1, 2, 1, []), (1, 2, 1, 99, []), bz, (22, 3, 20, 5, []), bz, bz, (1, 1, 0, (-1), []), (41, 1, 0, 0, []), (1, 1, 0, 0, []), (6, 1, 3, 1, []), (3, 1, 3, 1, []), (1, 2, 1, 12, []), bz, (22, 3, 47, 3, []), bz, bz, (5, 1, 0, 1, []), (25, 3, 104, 0, []), bz, bz, (3, 1, 3, 1, []), (3, 1, 1, 1, []), (3, 1, 3, 1, []), (10, 1, 7, 0, []), (1, 1, 0, 1, []), (10, 1, 3, 0, []), (3, 1, 2, 1, []), (10, 1, 2, 0, []), (28, 1, 0, 0, []), (9, 3, 3, 1, []), bz, bz, (23, 3, 22, 0, []), bz, bz, (1, 1, 0, 0, []), (6, 1, 3, 1, []), (1, 2, 1, 99, []), bz, (6, 2, 4, 0, []), bz, (3, 2, 4, 0, []), bz, (21, 3, 109, 2, []), bz, bz, (1, 1, 0, 0, []), (6, 2, 5, 0, []), bz, (3, 2, 5, 0, []), bz, (5, 1, 0, 1, []), (25, 3, 93, 0, []), bz, bz, (25, 3, 5, 0, []), bz, bz, (22, 3, 103, 3, []), bz, bz, (5, 1, 0, 1, []), (25, 3, 93, 0, []), bz, bz, (25, 3, 22, 0, []), bz, bz, (3, 2, 5, 0, []), bz, (27, 1, 0, 0, []), (3, 2, 4, 0, []), bz, (22, 3, 97, 1, []), bz, bz, (3, 1, 3, 1, []), (5, 1, 0, 1, []), (3, 2, 5, 0, []), bz, (40, 3, 125, 0, []), bz, bz, (10, 1, 0, 0, []), (6, 1, 3, 1, []), (9, 3, 5, 1, []), bz, bz, (23, 3, 61, 0, []), bz, bz, (9, 3, 4, (-1), []), bz, bz, (23, 3, 53, 0, []), bz, bz, (3, 1, 3, 1, []), (41, 1, 0, 0, [])]
def cd_X9_between : List bh_I := [(5, 1, 0, 1, []), (25, 3, 93, 0, []), bz, bz, (3, 1, 1, 1, []), (40, 3, 82, 0, []), bz, bz, (21, 3, 22, 0, []), bz, bz, (5, 1, 0, 1, []), (25, 3, 93, 0, []), bz, bz, (3, 1, 2, 1, []), (40, 3, 93, 0, []), bz, bz, (21, 3, 24, 1, []), bz, bz, (1, 1, 0, (-1), []), (41, 1, 0, 0, []), (3, 1, 3, 1, []), (21, 3, 38, 2, []), bz, bz, (5, 1, 0, 1, []), (25, 3, 93, 0, []), bz, bz, (25, 3, 12, 0, []), bz, bz, (21, 3, 40, 1, []), bz, bz, (1, 1, 0, (-1), []), (41, 1, 0, 0, []), (5, 1, 0, 1, []), (25, 3, 101, 0, []), bz, bz, (5, 1, 0, 1, []), (25, 3, 93, 0, []), bz, bz, (5, 1, 0, 1, []), (25, 3, 98, 0, []), bz, bz, (3, 1, 1, 1, []), (3, 1, 2, 1, []), (40, 3, 113, 0, []), bz, bz, (3, 1, 3, 1, []), (5, 1, 0, 1, []), (25, 3, 101, 0, []), bz, bz, (25, 3, 86, 0, []), bz, bz, (22, 3, 80, 3, []), bz, bz, (5, 1, 0, 1, []), (25, 3, 101, 0, []), bz, bz, (25, 3, 84, 0, []), bz, bz, (3, 1, 3, 1, []), (27, 1, 0, 0, []), (23, 3, 82, 0, []), bz, bz, (1, 2, 1, (-2), []), bz, (41, 1, 0, 0, [])]
def cd_X9_count : List bh_I := [(3, 1, 1, 1, []), (24, 71, 190, 0, [72, 80, 88, 96, 105, 110, 125, 140, 148, 156, 164, 169, 177, 182]), bz, bz, bz, bz, bz, bz, bz, bz, bz, bz, bz, bz, bz, bz, bz, bz, bz, bz, bz, bz, bz, bz, bz, bz, bz, bz, bz, bz, bz, bz, bz, bz, bz, bz, bz, bz, bz, bz, bz, bz, bz, bz, bz, bz, bz, bz, bz, bz, bz, bz, bz, bz, bz, bz, bz, bz, bz, bz, bz, bz, bz, bz, bz, bz, bz, bz, bz, bz, bz, bz, (5, 1, 0, 1, []), (25, 3, 93, 0, []), bz, bz, (25, 3, 5, 0, []), bz, bz, (41, 1, 0, 0, []), (5, 1, 0, 1, []), (25, 3, 93, 0, []), bz, bz, (25, 3, 9, 0, []), bz, bz, (41, 1, 0, 0, []), (5, 1, 0, 1, []), (25, 3, 93, 0, []), bz, bz, (40, 3, 126, 0, []), bz, bz, (41, 1, 0, 0, []), (5, 1, 0, 1, []), (25, 3, 93, 0, []), bz, bz, (1, 1, 0, (-1), []), (40, 3, 102, 0, []), bz, bz, (41, 1, 0, 0, []), (5, 1, 0, 1, []), (40, 3, 127, 0, []), bz, bz, (41, 1, 0, 0, []), (5, 1, 0, 1, []), (25, 3, 93, 0, []), bz, bz, (5, 1, 0, 1, []), (25, 3, 93, 0, []), bz, bz, (25, 3, 41, 0, []), bz, bz, (40, 3, 128, 0, []), bz, bz, (41, 1, 0, 0, []), (5, 1, 0, 1, []), (25, 3, 93, 0, []), bz, bz, (5, 1, 0, 1, []), (25, 3, 93, 0, []), bz, bz, (25, 3, 43, 0, []), bz, bz, (40, 3, 128, 0, []), bz, bz, (41, 1, 0, 0, []), (5, 1, 0, 1, []), (25, 3, 93, 0, []), bz, bz, (25, 3, 16, 0, []), bz, bz, (41, 1, 0, 0, []), (5, 1, 0, 1, []), (25, 3, 93, 0, []), bz, bz, (25, 3, 19, 0, []), bz, bz, (41, 1, 0, 0, []), (5, 1, 0, 1, []), (25, 3, 93, 0, []), bz, bz, (25, 3, 12, 0, []), bz, bz, (41, 1, 0, 0, []), (5, 1, 0, 1, []), (25, 3, 107, 0, []), bz, bz, (41, 1, 0, 0, []), (5, 1, 0, 1, []), (25, 3, 95, 0, []), bz, bz, (25, 3, 56, 0, []), bz, bz, (41, 1, 0, 0, []), (5, 1, 0, 1, []), (25, 3, 108, 0, []), bz, bz, (41, 1, 0, 0, []), (5, 1, 0, 1, []), (25, 3, 93, 0, []), bz, bz, (25, 3, 14, 0, []), bz, bz, (41, 1, 0, 0, []), (1, 1, 0, (-1), []), (41, 1, 0, 0, [])]
def cd_X9_isSign : List bh_I := [(3, 1, 0, 1, []), (21, 3, 14, 2, []), bz, bz, (3, 1, 0, 1, []), (1, 2, 1, 16, []), bz, (22, 3, 14, 3, []), bz, bz, (1, 1, 0, 1, []), (23, 3, 15, 0, []), bz, bz, (1, 1, 0, 0, []), (41, 1, 0, 0, [])]
def cd_X9_isRow : List bh_I := [(3, 1, 0, 1, []), (21, 3, 15, 2, []), bz, bz, (3, 1, 0, 1, []), (1, 3, 4, 65535, [347, 726]), bz, bz, (22, 3, 15, 4, []), bz, bz, (1, 1, 0, 1, []), (23, 3, 16, 0, []), bz, bz, (1, 1, 0, 0, []), (41, 1, 0, 0, [])]
def cd_X9_isGift : List bh_I := [(3, 1, 0, 1, []), (1, 1, 0, 1, []), (22, 3, 16, 2, []), bz, bz, (3, 1, 0, 1, []), (1, 3, 2, 9999, []), bz, bz, (22, 3, 16, 4, []), bz, bz, (1, 1, 0, 1, []), (23, 3, 17, 0, []), bz, bz, (1, 1, 0, 0, []), (41, 1, 0, 0, [])]
def cd_X9_isShelf : List bh_I := [(3, 1, 0, 1, []), (21, 3, 13, 2, []), bz, bz, (3, 1, 0, 1, []), (1, 1, 0, 2, []), (22, 3, 13, 3, []), bz, bz, (1, 1, 0, 1, []), (23, 3, 14, 0, []), bz, bz, (1, 1, 0, 0, []), (41, 1, 0, 0, [])]
def cd_X9_isSetOfWriters : List bh_I := [(3, 1, 1, 1, []), (21, 3, 20, 2, []), bz, bz, (3, 1, 1, 1, []), (5, 1, 0, 1, []), (25, 3, 93, 0, []), bz, bz, (25, 3, 5, 0, []), bz, bz, (10, 1, 7, 0, []), (21, 3, 20, 1, []), bz, bz, (1, 1, 0, 1, []), (23, 3, 21, 0, []), bz, bz, (1, 1, 0, 0, []), (41, 1, 0, 0, [])]
def cd_X9_remember : List bh_I := [(5, 1, 0, 1, []), (25, 3, 96, 0, []), bz, bz, (5, 1, 0, 1, []), (25, 3, 106, 0, []), bz, bz, (33, 1, 0, 0, []), (5, 1, 0, 1, []), (25, 3, 93, 0, []), bz, bz, (40, 3, 81, 0, []), bz, bz, (5, 1, 0, 1, []), (5, 1, 0, 1, []), (25, 3, 106, 0, []), bz, bz, (1, 1, 0, 1, []), (10, 1, 0, 0, []), (1, 2, 1, 10, []), bz, (12, 1, 0, 0, []), (26, 3, 106, 0, []), bz, bz, (5, 1, 0, 1, []), (5, 1, 0, 1, []), (25, 3, 107, 0, []), bz, bz, (1, 1, 0, 1, []), (10, 1, 0, 0, []), (1, 2, 1, 10, []), bz, (50, 3, 0, 348, [612]), bz, bz, (26, 3, 107, 0, []), bz, bz, (44, 1, 0, 0, [])]
def cd_X9_handsOf : List bh_I := [(5, 1, 0, 1, []), (25, 3, 98, 0, []), bz, bz, (5, 1, 0, 1, []), (25, 3, 93, 0, []), bz, bz, (3, 1, 1, 1, []), (40, 3, 91, 0, []), bz, bz, (5, 1, 0, 1, []), (25, 3, 98, 0, []), bz, bz, (25, 3, 67, 0, []), bz, bz, (41, 1, 0, 0, [])]
def cd_X9_lowestOf : List bh_I := [(5, 1, 0, 1, []), (25, 3, 98, 0, []), bz, bz, (5, 1, 0, 1, []), (25, 3, 93, 0, []), bz, bz, (3, 1, 1, 1, []), (40, 3, 91, 0, []), bz, bz, (5, 1, 0, 1, []), (25, 3, 98, 0, []), bz, bz, (40, 3, 129, 0, []), bz, bz, (41, 1, 0, 0, [])]
def cd_X9_mostHands : List bh_I := [(1, 1, 0, 0, []), (6, 1, 1, 1, []), (1, 1, 0, 0, []), (6, 1, 2, 1, []), (3, 1, 2, 1, []), (5, 1, 0, 1, []), (25, 3, 93, 0, []), bz, bz, (25, 3, 5, 0, []), bz, bz, (22, 3, 31, 3, []), bz, bz, (3, 1, 1, 1, []), (5, 1, 0, 1, []), (3, 1, 2, 1, []), (40, 3, 85, 0, []), bz, bz, (49, 3, 0, 356, [1053]), bz, bz, (6, 1, 1, 1, []), (9, 3, 2, 1, []), bz, bz, (23, 3, 4, 0, []), bz, bz, (3, 1, 1, 1, []), (41, 1, 0, 0, [])]
def cd_X9_lineOf : List bh_I := [(5, 1, 0, 1, []), (25, 3, 98, 0, []), bz, bz, (5, 1, 0, 1, []), (25, 3, 93, 0, []), bz, bz, (3, 1, 1, 1, []), (3, 1, 2, 1, []), (3, 1, 3, 1, []), (40, 3, 130, 0, []), bz, bz, (41, 1, 0, 0, [])]
def cd_X9_lineAt : List bh_I := [(3, 1, 1, 1, []), (1, 2, 1, 32, []), bz, (11, 1, 0, 0, []), (6, 1, 2, 1, []), (3, 1, 1, 1, []), (1, 2, 1, 8, []), bz, (11, 1, 0, 0, []), (1, 1, 0, 4, []), (12, 1, 0, 0, []), (6, 1, 3, 1, []), (3, 1, 1, 1, []), (1, 2, 1, 8, []), bz, (12, 1, 0, 0, []), (6, 2, 4, 0, []), bz, (5, 1, 0, 1, []), (25, 3, 93, 0, []), bz, bz, (3, 1, 2, 1, []), (40, 3, 82, 0, []), bz, bz, (21, 3, 42, 0, []), bz, bz, (5, 1, 0, 1, []), (25, 3, 93, 0, []), bz, bz, (3, 1, 3, 1, []), (3, 2, 4, 0, []), bz, (40, 3, 103, 0, []), bz, bz, (21, 3, 45, 1, []), bz, bz, (1, 2, 1, (-2), []), bz, (41, 1, 0, 0, []), (5, 1, 0, 1, []), (3, 1, 2, 1, []), (3, 1, 3, 1, []), (3, 2, 4, 0, []), bz, (40, 3, 94, 0, []), bz, bz, (41, 1, 0, 0, [])]
def cd_X9_lacksLines : List bh_I := [(1, 1, 0, 0, []), (6, 1, 2, 1, []), (3, 1, 2, 1, []), (5, 1, 0, 1, []), (25, 3, 93, 0, []), bz, bz, (25, 3, 9, 0, []), bz, bz, (22, 3, 33, 3, []), bz, bz, (5, 1, 0, 1, []), (3, 1, 1, 1, []), (3, 1, 2, 1, []), (1, 1, 0, 0, []), (40, 3, 94, 0, []), bz, bz, (1, 2, 1, (-2), []), bz, (22, 3, 27, 1, []), bz, bz, (1, 1, 0, 1, []), (41, 1, 0, 0, []), (9, 3, 2, 1, []), bz, bz, (23, 3, 2, 0, []), bz, bz, (1, 1, 0, 0, []), (41, 1, 0, 0, [])]
def cd_X9_followTrail : List bh_I := [(5, 1, 0, 1, []), (25, 3, 98, 0, []), bz, bz, (5, 1, 0, 1, []), (25, 3, 93, 0, []), bz, bz, (3, 1, 1, 1, []), (40, 3, 91, 0, []), bz, bz, (5, 1, 0, 1, []), (25, 3, 98, 0, []), bz, bz, (5, 1, 0, 1, []), (25, 3, 93, 0, []), bz, bz, (40, 3, 117, 0, []), bz, bz, (21, 3, 28, 0, []), bz, bz, (1, 1, 0, 0, []), (41, 1, 0, 0, []), (5, 1, 0, 1, []), (25, 3, 99, 0, []), bz, bz, (5, 1, 0, 1, []), (25, 3, 93, 0, []), bz, bz, (5, 1, 0, 1, []), (25, 3, 98, 0, []), bz, bz, (5, 1, 0, 1, []), (25, 3, 93, 0, []), bz, bz, (3, 1, 2, 1, []), (3, 1, 3, 1, []), (40, 3, 104, 0, []), bz, bz, (40, 3, 131, 0, []), bz, bz, (1, 1, 0, 1, []), (41, 1, 0, 0, [])]
def cd_X9_passedUp : List bh_I := [(5, 1, 0, 1, []), (25, 3, 98, 0, []), bz, bz, (5, 1, 0, 1, []), (25, 3, 93, 0, []), bz, bz, (3, 1, 1, 1, []), (40, 3, 91, 0, []), bz, bz, (5, 1, 0, 1, []), (25, 3, 98, 0, []), bz, bz, (5, 1, 0, 1, []), (25, 3, 93, 0, []), bz, bz, (1, 1, 0, 0, []), (5, 1, 0, 1, []), (25, 3, 98, 0, []), bz, bz, (25, 3, 67, 0, []), bz, bz, (3, 1, 2, 1, []), (40, 3, 132, 0, []), bz, bz, (41, 1, 0, 0, [])]
def cd_X9_seenFitsWriters : List bh_I := [(5, 1, 0, 1, []), (25, 3, 93, 0, []), bz, bz, (25, 3, 12, 0, []), bz, bz, (21, 3, 31, 5, []), bz, bz, (5, 1, 0, 1, []), (25, 3, 93, 0, []), bz, bz, (25, 3, 12, 0, []), bz, bz, (5, 1, 0, 1, []), (25, 3, 93, 0, []), bz, bz, (25, 3, 5, 0, []), bz, bz, (22, 3, 31, 4, []), bz, bz, (1, 1, 0, 1, []), (23, 3, 32, 0, []), bz, bz, (1, 1, 0, 0, []), (41, 1, 0, 0, [])]
def cd_X9_choicesBySeen : List bh_I := [(5, 1, 0, 1, []), (25, 3, 93, 0, []), bz, bz, (25, 3, 53, 0, []), bz, bz, (3, 1, 1, 1, []), (27, 1, 0, 0, []), (6, 1, 3, 1, []), (5, 1, 0, 1, []), (25, 3, 93, 0, []), bz, bz, (3, 1, 1, 1, []), (3, 1, 2, 1, []), (40, 3, 133, 0, []), bz, bz, (3, 1, 3, 1, []), (22, 3, 29, 1, []), bz, bz, (1, 3, 2, 4096, []), bz, bz, (23, 3, 30, 0, []), bz, bz, (1, 1, 0, 0, []), (6, 2, 4, 0, []), bz, (1, 1, 0, 0, []), (6, 2, 5, 0, []), bz, (3, 2, 5, 0, []), bz, (5, 1, 0, 1, []), (25, 3, 93, 0, []), bz, bz, (25, 3, 12, 0, []), bz, bz, (22, 3, 118, 3, []), bz, bz, (5, 1, 0, 1, []), (25, 3, 93, 0, []), bz, bz, (25, 3, 22, 0, []), bz, bz, (3, 2, 5, 0, []), bz, (27, 1, 0, 0, []), (5, 1, 0, 1, []), (25, 3, 93, 0, []), bz, bz, (25, 3, 22, 0, []), bz, bz, (3, 1, 1, 1, []), (27, 1, 0, 0, []), (22, 3, 73, 3, []), bz, bz, (1, 1, 0, 1, []), (23, 3, 74, 0, []), bz, bz, (1, 1, 0, 0, []), (6, 2, 6, 0, []), bz, (3, 2, 6, 0, []), bz, (21, 3, 112, 0, []), bz, bz, (5, 1, 0, 1, []), (25, 3, 93, 0, []), bz, bz, (3, 1, 1, 1, []), (5, 1, 0, 1, []), (25, 3, 93, 0, []), bz, bz, (25, 3, 53, 0, []), bz, bz, (3, 2, 5, 0, []), bz, (27, 1, 0, 0, []), (40, 3, 133, 0, []), bz, bz, (3, 1, 3, 1, []), (22, 3, 112, 1, []), bz, bz, (3, 2, 4, 0, []), bz, (1, 1, 0, 1, []), (3, 2, 5, 0, []), bz, (10, 1, 6, 0, []), (10, 1, 4, 0, []), (6, 2, 4, 0, []), bz, (9, 3, 5, 1, []), bz, bz, (23, 3, 35, 0, []), bz, bz, (3, 2, 4, 0, []), bz, (41, 1, 0, 0, [])]
def cd_X9_countWays : List bh_I := [(1, 1, 0, 0, []), (6, 2, 4, 0, []), bz, (3, 2, 4, 0, []), bz, (1, 2, 1, 16, []), bz, (22, 3, 24, 4, []), bz, bz, (5, 1, 0, 1, []), (25, 3, 105, 0, []), bz, bz, (3, 2, 4, 0, []), bz, (2, 1, 0, 0, []), (32, 1, 0, 0, []), (9, 3, 4, 1, []), bz, bz, (23, 3, 3, 0, []), bz, bz, (5, 1, 0, 1, []), (25, 3, 105, 0, []), bz, bz, (1, 1, 0, 0, []), (2, 1, 0, 1, []), (32, 1, 0, 0, []), (1, 1, 0, 0, []), (6, 2, 4, 0, []), bz, (3, 2, 4, 0, []), bz, (5, 1, 0, 1, []), (25, 3, 93, 0, []), bz, bz, (25, 3, 12, 0, []), bz, bz, (22, 3, 192, 3, []), bz, bz, (5, 1, 0, 1, []), (25, 3, 93, 0, []), bz, bz, (3, 1, 3, 1, []), (3, 2, 4, 0, []), bz, (40, 3, 134, 0, []), bz, bz, (6, 2, 5, 0, []), bz, (5, 1, 0, 1, []), (3, 1, 1, 1, []), (3, 1, 3, 1, []), (3, 2, 5, 0, []), bz, (40, 3, 94, 0, []), bz, bz, (5, 1, 0, 1, []), (25, 3, 93, 0, []), bz, bz, (25, 3, 53, 0, []), bz, bz, (3, 2, 4, 0, []), bz, (27, 1, 0, 0, []), (22, 3, 83, 1, []), bz, bz, (1, 1, 0, 1, []), (23, 3, 84, 0, []), bz, bz, (1, 1, 0, 0, []), (6, 2, 6, 0, []), bz, (5, 1, 0, 1, []), (3, 1, 2, 1, []), (3, 1, 3, 1, []), (3, 2, 5, 0, []), bz, (40, 3, 94, 0, []), bz, bz, (5, 1, 0, 1, []), (25, 3, 93, 0, []), bz, bz, (25, 3, 53, 0, []), bz, bz, (3, 2, 4, 0, []), bz, (27, 1, 0, 0, []), (22, 3, 111, 1, []), bz, bz, (1, 1, 0, 1, []), (23, 3, 112, 0, []), bz, bz, (1, 1, 0, 0, []), (6, 2, 7, 0, []), bz, (3, 2, 4, 0, []), bz, (1, 1, 0, 1, []), (10, 1, 0, 0, []), (6, 2, 8, 0, []), bz, (3, 2, 8, 0, []), bz, (21, 3, 186, 2, []), bz, bz, (3, 2, 7, 0, []), bz, (21, 3, 140, 0, []), bz, bz, (5, 1, 0, 1, []), (25, 3, 105, 0, []), bz, bz, (3, 2, 8, 0, []), bz, (31, 1, 0, 0, []), (23, 3, 141, 0, []), bz, bz, (2, 1, 0, 0, []), (7, 2, 9, 0, []), bz, (3, 2, 6, 0, []), bz, (21, 3, 165, 0, []), bz, bz, (3, 2, 8, 0, []), bz, (21, 3, 165, 5, []), bz, bz, (5, 1, 0, 1, []), (25, 3, 105, 0, []), bz, bz, (3, 2, 8, 0, []), bz, (1, 1, 0, 1, []), (10, 1, 1, 0, []), (31, 1, 0, 0, []), (23, 3, 166, 0, []), bz, bz, (2, 1, 0, 0, []), (7, 2, 11, 0, []), bz, (5, 1, 0, 1, []), (25, 3, 105, 0, []), bz, bz, (3, 2, 8, 0, []), bz, (4, 2, 11, 0, []), bz, (4, 2, 9, 0, []), bz, (13, 1, 0, 0, []), (32, 1, 0, 0, []), (9, 3, 8, (-1), []), bz, bz, (23, 3, 120, 0, []), bz, bz, (9, 3, 4, 1, []), bz, bz, (23, 3, 34, 0, []), bz, bz, (44, 1, 0, 0, [])]
def cd_X9_sendDown : List bh_I := [(5, 1, 0, 1, []), (25, 3, 93, 0, []), bz, bz, (3, 1, 1, 1, []), (40, 3, 83, 0, []), bz, bz, (21, 3, 15, 0, []), bz, bz, (1, 1, 0, 0, []), (23, 3, 24, 0, []), bz, bz, (5, 1, 0, 1, []), (25, 3, 93, 0, []), bz, bz, (25, 3, 22, 0, []), bz, bz, (3, 1, 1, 1, []), (27, 1, 0, 0, []), (6, 1, 2, 1, []), (3, 1, 2, 1, []), (5, 1, 0, 1, []), (25, 3, 104, 0, []), bz, bz, (3, 1, 1, 1, []), (27, 1, 0, 0, []), (50, 3, 0, 348, [612]), bz, bz, (6, 1, 3, 1, []), (5, 1, 0, 1, []), (25, 3, 93, 0, []), bz, bz, (25, 3, 38, 0, []), bz, bz, (3, 1, 1, 1, []), (27, 1, 0, 0, []), (6, 2, 4, 0, []), bz, (3, 2, 4, 0, []), bz, (1, 1, 0, (-1), []), (22, 3, 55, 1, []), bz, bz, (3, 1, 3, 1, []), (41, 1, 0, 0, []), (5, 1, 0, 1, []), (25, 3, 104, 0, []), bz, bz, (3, 2, 4, 0, []), bz, (20, 1, 0, 0, []), (27, 1, 0, 0, []), (3, 1, 3, 1, []), (10, 1, 0, 0, []), (28, 1, 0, 0, []), (1, 1, 0, 0, []), (41, 1, 0, 0, [])]
def cd_X10_init : List bh_I := [(5, 1, 0, 1, []), (39, 3, 0, 1, [1063]), bz, bz, (5, 1, 0, 1, []), (1, 3, 2, 560, []), bz, bz, (37, 2, 20, 0, []), bz, (26, 3, 109, 0, []), bz, bz, (5, 1, 0, 1, []), (1, 3, 2, 560, []), bz, bz, (37, 2, 20, 0, []), bz, (26, 3, 110, 0, []), bz, bz, (5, 1, 0, 1, []), (1, 3, 2, 5600, []), bz, bz, (37, 2, 20, 0, []), bz, (26, 3, 111, 0, []), bz, bz, (5, 1, 0, 1, []), (1, 3, 2, 1120, []), bz, bz, (37, 2, 20, 0, []), bz, (26, 3, 112, 0, []), bz, bz, (5, 1, 0, 1, []), (1, 1, 0, 2, []), (37, 2, 23, 0, []), bz, (26, 3, 113, 0, []), bz, bz, (5, 1, 0, 1, []), (1, 3, 2, 400, []), bz, bz, (37, 2, 22, 0, []), bz, (26, 3, 115, 0, []), bz, bz, (5, 1, 0, 1, []), (1, 2, 1, 12, []), bz, (37, 2, 20, 0, []), bz, (26, 3, 120, 0, []), bz, bz, (5, 1, 0, 1, []), (1, 2, 1, 12, []), bz, (37, 2, 20, 0, []), bz, (26, 3, 122, 0, []), bz, bz, (5, 1, 0, 1, []), (1, 2, 1, 16, []), bz, (37, 2, 20, 0, []), bz, (26, 3, 123, 0, []), bz, bz, (5, 1, 0, 1, []), (1, 2, 1, 16, []), bz, (37, 2, 20, 0, []), bz, (26, 3, 124, 0, []), bz, bz, (5, 1, 0, 1, []), (1, 2, 1, 16, []), bz, (37, 2, 20, 0, []), bz, (26, 3, 125, 0, []), bz, bz, (5, 1, 0, 1, []), (1, 2, 1, 16, []), bz, (37, 2, 20, 0, []), bz, (26, 3, 126, 0, []), bz, bz, (5, 1, 0, 1, []), (1, 2, 1, 16, []), bz, (37, 2, 20, 0, []), bz, (26, 3, 127, 0, []), bz, bz, (5, 1, 0, 1, []), (1, 2, 1, 16, []), bz, (37, 2, 20, 0, []), bz, (26, 3, 128, 0, []), bz, bz, (5, 1, 0, 1, []), (1, 2, 1, 16, []), bz, (37, 2, 20, 0, []), bz, (26, 3, 129, 0, []), bz, bz, (5, 1, 0, 1, []), (1, 2, 1, 16, []), bz, (37, 2, 20, 0, []), bz, (26, 3, 130, 0, []), bz, bz, (5, 1, 0, 1, []), (1, 2, 1, 16, []), bz, (37, 2, 20, 0, []), bz, (26, 3, 131, 0, []), bz, bz, (5, 1, 0, 1, []), (1, 2, 1, 17, []), bz, (37, 2, 21, 0, []), bz, (26, 3, 132, 0, []), bz, bz, (5, 1, 0, 1, []), (1, 3, 2, 144, []), bz, bz, (37, 2, 20, 0, []), bz, (26, 3, 133, 0, []), bz, bz, (5, 1, 0, 1, []), (1, 2, 1, 16, []), bz, (37, 2, 20, 0, []), bz, (26, 3, 139, 0, []), bz, bz, (5, 1, 0, 1, []), (1, 2, 1, 16, []), bz, (37, 2, 20, 0, []), bz, (26, 3, 140, 0, []), bz, bz, (5, 1, 0, 1, []), (1, 2, 1, 16, []), bz, (37, 2, 20, 0, []), bz, (26, 3, 141, 0, []), bz, bz, (44, 1, 0, 0, [])]
def cd_X10_in : List bh_I := [(4, 1, 0, 1, []), (4, 1, 2, 1, []), (17, 1, 0, 0, []), (21, 3, 17, 2, []), bz, bz, (4, 1, 0, 1, []), (4, 2, 4, 0, []), bz, (17, 1, 0, 0, []), (21, 3, 17, 4, []), bz, bz, (1, 1, 0, 1, []), (23, 3, 18, 0, []), bz, bz, (1, 1, 0, 0, []), (41, 1, 0, 0, [])]
def cd_X10_truth : List bh_I := [(3, 1, 0, 1, []), (21, 3, 8, 0, []), bz, bz, (1, 1, 0, 1, []), (23, 3, 9, 0, []), bz, bz, (1, 1, 0, 0, []), (41, 1, 0, 0, [])]
def cd_X10_has : List bh_I := [(3, 1, 0, 1, []), (3, 1, 1, 1, []), (10, 1, 7, 0, []), (1, 1, 0, 1, []), (10, 1, 3, 0, []), (1, 1, 0, 1, []), (22, 3, 13, 1, []), bz, bz, (1, 1, 0, 1, []), (23, 3, 14, 0, []), bz, bz, (1, 1, 0, 0, []), (41, 1, 0, 0, [])]
def cd_X10_moves : List bh_I := [(1, 1, 0, 0, []), (6, 2, 4, 0, []), bz, (3, 2, 4, 0, []), bz, (1, 3, 2, 560, []), bz, bz, (22, 3, 29, 3, []), bz, bz, (5, 1, 2, 1, []), (3, 1, 3, 1, []), (3, 2, 4, 0, []), bz, (10, 1, 0, 0, []), (5, 1, 0, 1, []), (3, 1, 1, 1, []), (3, 2, 4, 0, []), bz, (10, 1, 0, 0, []), (27, 1, 0, 0, []), (28, 1, 0, 0, []), (9, 3, 4, 1, []), bz, bz, (23, 3, 3, 0, []), bz, bz, (44, 1, 0, 0, [])]
def cd_X10_feed : List bh_I := [(5, 1, 0, 1, []), (25, 3, 116, 0, []), bz, bz, (1, 2, 1, 20, []), bz, (10, 1, 0, 0, []), (1, 3, 2, 400, []), bz, bz, (22, 3, 15, 5, []), bz, bz, (1, 1, 0, (-1), []), (41, 1, 0, 0, []), (5, 1, 0, 1, []), (3, 1, 1, 1, []), (40, 3, 135, 0, []), bz, bz, (5, 1, 0, 1, []), (3, 1, 2, 1, []), (40, 3, 135, 0, []), bz, bz, (5, 1, 0, 1, []), (3, 1, 3, 1, []), (40, 3, 135, 0, []), bz, bz, (5, 1, 0, 1, []), (3, 2, 4, 0, []), bz, (40, 3, 135, 0, []), bz, bz, (5, 1, 0, 1, []), (3, 2, 5, 0, []), bz, (40, 3, 135, 0, []), bz, bz, (5, 1, 0, 1, []), (25, 3, 116, 0, []), bz, bz, (41, 1, 0, 0, [])]
def cd_X10_puts : List bh_I := [(1, 2, 1, 24, []), bz, (6, 1, 2, 1, []), (3, 1, 2, 1, []), (21, 3, 36, 2, []), bz, bz, (5, 1, 0, 1, []), (25, 3, 115, 0, []), bz, bz, (5, 1, 0, 1, []), (25, 3, 116, 0, []), bz, bz, (3, 1, 1, 1, []), (3, 1, 2, 1, []), (10, 1, 7, 0, []), (16, 1, 0, 0, []), (30, 1, 0, 0, []), (5, 1, 0, 1, []), (18, 1, 0, 0, []), (25, 3, 116, 0, []), bz, bz, (1, 1, 0, 1, []), (10, 1, 0, 0, []), (26, 3, 116, 0, []), bz, bz, (9, 3, 2, (-8), []), bz, bz, (23, 3, 3, 0, []), bz, bz, (44, 1, 0, 0, [])]
def cd_X10_end : List bh_I := [(3, 1, 1, 1, []), (21, 3, 12, 2, []), bz, bz, (3, 1, 1, 1, []), (5, 1, 0, 1, []), (25, 3, 116, 0, []), bz, bz, (22, 3, 14, 5, []), bz, bz, (1, 1, 0, (-1), []), (41, 1, 0, 0, []), (5, 1, 0, 1, []), (3, 1, 1, 1, []), (26, 3, 116, 0, []), bz, bz, (3, 1, 1, 1, []), (41, 1, 0, 0, [])]
def cd_X10_sign : List bh_I := [(5, 1, 0, 1, []), (25, 3, 117, 0, []), bz, bz, (5, 1, 0, 1, []), (25, 3, 116, 0, []), bz, bz, (22, 3, 27, 3, []), bz, bz, (5, 1, 0, 1, []), (25, 3, 115, 0, []), bz, bz, (5, 1, 0, 1, []), (25, 3, 117, 0, []), bz, bz, (29, 1, 0, 0, []), (1, 3, 2, 255, []), bz, bz, (10, 1, 3, 0, []), (23, 3, 28, 0, []), bz, bz, (1, 1, 0, (-1), []), (41, 1, 0, 0, [])]
def cd_X10_next : List bh_I := [(5, 1, 0, 1, []), (40, 3, 136, 0, []), bz, bz, (1, 2, 1, 32, []), bz, (22, 3, 22, 1, []), bz, bz, (5, 1, 0, 1, []), (18, 1, 0, 0, []), (25, 3, 117, 0, []), bz, bz, (1, 1, 0, 1, []), (10, 1, 0, 0, []), (26, 3, 117, 0, []), bz, bz, (23, 3, 0, 0, []), bz, bz, (5, 1, 0, 1, []), (40, 3, 136, 0, []), bz, bz, (41, 1, 0, 0, [])]
def cd_X10_isRight : List bh_I := [(5, 1, 0, 1, []), (25, 3, 118, 0, []), bz, bz, (1, 1, 0, (-1), []), (22, 3, 12, 1, []), bz, bz, (1, 1, 0, 1, []), (23, 3, 13, 0, []), bz, bz, (1, 1, 0, 0, []), (41, 1, 0, 0, [])]
def cd_X10_fails : List bh_I := [(5, 1, 0, 1, []), (40, 3, 137, 0, []), bz, bz, (21, 3, 17, 0, []), bz, bz, (5, 1, 0, 1, []), (1, 2, 1, 8, []), bz, (3, 1, 2, 1, []), (10, 1, 2, 0, []), (3, 1, 1, 1, []), (10, 1, 0, 0, []), (26, 3, 118, 0, []), bz, bz, (44, 1, 0, 0, [])]
def cd_X10_isDigit : List bh_I := [(5, 1, 0, 1, []), (40, 3, 136, 0, []), bz, bz, (15, 1, 0, 0, []), (2, 3, 1, 48, [101, 1229]), bz, bz, (2, 3, 1, 57, [103, 1230]), bz, bz, (40, 3, 138, 0, []), bz, bz, (41, 1, 0, 0, [])]
def cd_X10_number : List bh_I := [(5, 1, 0, 1, []), (40, 3, 139, 0, []), bz, bz, (19, 1, 0, 0, []), (5, 1, 0, 1, []), (5, 1, 0, 1, []), (25, 3, 117, 0, []), bz, bz, (26, 3, 119, 0, []), bz, bz, (5, 1, 0, 1, []), (40, 3, 137, 0, []), bz, bz, (21, 3, 27, 0, []), bz, bz, (5, 1, 0, 1, []), (40, 3, 140, 0, []), bz, bz, (21, 3, 38, 1, []), bz, bz, (5, 1, 0, 1, []), (1, 1, 0, 1, []), (5, 1, 0, 1, []), (25, 3, 117, 0, []), bz, bz, (40, 3, 141, 0, []), bz, bz, (3, 1, 1, 1, []), (41, 1, 0, 0, []), (1, 1, 0, 0, []), (6, 1, 3, 1, []), (5, 1, 0, 1, []), (40, 3, 140, 0, []), bz, bz, (21, 3, 78, 0, []), bz, bz, (1, 2, 3, 999999, [122, 1231]), bz, (1, 2, 1, 10, []), bz, (3, 1, 3, 1, []), (10, 1, 2, 0, []), (5, 1, 0, 1, []), (40, 3, 136, 0, []), bz, bz, (10, 1, 0, 0, []), (1, 2, 1, 48, []), bz, (10, 1, 1, 0, []), (50, 3, 0, 123, [1232]), bz, bz, (6, 1, 3, 1, []), (5, 1, 0, 1, []), (18, 1, 0, 0, []), (25, 3, 117, 0, []), bz, bz, (1, 1, 0, 1, []), (10, 1, 0, 0, []), (26, 3, 117, 0, []), bz, bz, (23, 3, 40, 0, []), bz, bz, (3, 1, 3, 1, []), (15, 1, 0, 0, []), (3, 1, 1, 1, []), (15, 1, 0, 0, []), (3, 1, 2, 1, []), (15, 1, 0, 0, []), (40, 3, 138, 0, []), bz, bz, (21, 3, 101, 1, []), bz, bz, (5, 1, 0, 1, []), (1, 1, 0, 2, []), (5, 1, 0, 1, []), (25, 3, 119, 0, []), bz, bz, (40, 3, 141, 0, []), bz, bz, (3, 1, 1, 1, []), (41, 1, 0, 0, []), (3, 1, 3, 1, []), (41, 1, 0, 0, [])]
def cd_X10_isWord : List bh_I := [(1, 1, 0, 0, []), (6, 1, 2, 1, []), (5, 1, 0, 1, []), (25, 3, 117, 0, []), bz, bz, (3, 1, 2, 1, []), (10, 1, 0, 0, []), (5, 1, 0, 1, []), (25, 3, 116, 0, []), bz, bz, (22, 3, 45, 3, []), bz, bz, (5, 1, 0, 1, []), (25, 3, 115, 0, []), bz, bz, (5, 1, 0, 1, []), (25, 3, 117, 0, []), bz, bz, (3, 1, 2, 1, []), (10, 1, 0, 0, []), (29, 1, 0, 0, []), (15, 1, 0, 0, []), (2, 3, 1, 97, [129, 1206]), bz, bz, (2, 3, 1, 122, [131, 1207]), bz, bz, (40, 3, 138, 0, []), bz, bz, (21, 3, 45, 0, []), bz, bz, (9, 3, 2, 1, []), bz, bz, (23, 3, 2, 0, []), bz, bz, (3, 1, 2, 1, []), (5, 1, 1, 1, []), (46, 3, 0, 133, [1211]), bz, bz, (22, 3, 57, 1, []), bz, bz, (1, 1, 0, 1, []), (23, 3, 58, 0, []), bz, bz, (1, 1, 0, 0, []), (6, 1, 3, 1, []), (1, 1, 0, 0, []), (6, 2, 4, 0, []), bz, (3, 2, 4, 0, []), bz, (3, 1, 2, 1, []), (22, 3, 105, 3, []), bz, bz, (3, 1, 3, 1, []), (21, 3, 105, 0, []), bz, bz, (5, 1, 0, 1, []), (25, 3, 115, 0, []), bz, bz, (5, 1, 0, 1, []), (25, 3, 117, 0, []), bz, bz, (3, 2, 4, 0, []), bz, (10, 1, 0, 0, []), (29, 1, 0, 0, []), (5, 1, 1, 1, []), (3, 2, 4, 0, []), bz, (47, 3, 0, 138, [1212]), bz, bz, (22, 3, 97, 1, []), bz, bz, (1, 1, 0, 1, []), (23, 3, 98, 0, []), bz, bz, (1, 1, 0, 0, []), (6, 1, 3, 1, []), (9, 3, 4, 1, []), bz, bz, (23, 3, 62, 0, []), bz, bz, (3, 1, 3, 1, []), (41, 1, 0, 0, [])]
def cd_X10_takes : List bh_I := [(5, 1, 0, 1, []), (40, 3, 139, 0, []), bz, bz, (19, 1, 0, 0, []), (5, 1, 0, 1, []), (40, 3, 137, 0, []), bz, bz, (21, 3, 20, 0, []), bz, bz, (5, 1, 0, 1, []), (5, 1, 1, 1, []), (40, 3, 142, 0, []), bz, bz, (21, 3, 22, 1, []), bz, bz, (1, 1, 0, 0, []), (41, 1, 0, 0, []), (5, 1, 0, 1, []), (18, 1, 0, 0, []), (25, 3, 117, 0, []), bz, bz, (5, 1, 1, 1, []), (46, 3, 0, 133, [1211]), bz, bz, (10, 1, 0, 0, []), (26, 3, 117, 0, []), bz, bz, (1, 1, 0, 1, []), (41, 1, 0, 0, [])]
def cd_X10_kindTold : List bh_I := [(5, 1, 0, 1, []), (45, 2, 11, 146, []), bz, (40, 3, 143, 0, []), bz, bz, (21, 3, 13, 0, []), bz, bz, (1, 1, 0, 0, []), (23, 3, 66, 0, []), bz, bz, (5, 1, 0, 1, []), (45, 2, 12, 151, []), bz, (40, 3, 143, 0, []), bz, bz, (21, 3, 26, 0, []), bz, bz, (1, 1, 0, 1, []), (23, 3, 66, 0, []), bz, bz, (5, 1, 0, 1, []), (45, 2, 13, 153, []), bz, (40, 3, 143, 0, []), bz, bz, (21, 3, 39, 0, []), bz, bz, (1, 1, 0, 2, []), (23, 3, 66, 0, []), bz, bz, (5, 1, 0, 1, []), (45, 2, 14, 155, []), bz, (40, 3, 143, 0, []), bz, bz, (21, 3, 52, 0, []), bz, bz, (1, 1, 0, 3, []), (23, 3, 66, 0, []), bz, bz, (5, 1, 0, 1, []), (45, 2, 15, 157, []), bz, (40, 3, 143, 0, []), bz, bz, (21, 3, 65, 0, []), bz, bz, (1, 1, 0, 4, []), (23, 3, 66, 0, []), bz, bz, (1, 1, 0, (-1), []), (6, 1, 1, 1, []), (3, 1, 1, 1, []), (1, 1, 0, (-1), []), (22, 3, 74, 0, []), bz, bz, (3, 1, 1, 1, []), (41, 1, 0, 0, []), (5, 1, 0, 1, []), (45, 2, 16, 159, []), bz, (40, 3, 143, 0, []), bz, bz, (21, 3, 87, 0, []), bz, bz, (1, 1, 0, 5, []), (23, 3, 102, 0, []), bz, bz, (5, 1, 0, 1, []), (45, 2, 17, 161, []), bz, (40, 3, 143, 0, []), bz, bz, (21, 3, 101, 0, []), bz, bz, (1, 2, 1, 6, []), bz, (23, 3, 102, 0, []), bz, bz, (1, 1, 0, (-1), []), (6, 1, 1, 1, []), (3, 1, 1, 1, []), (1, 1, 0, (-1), []), (22, 3, 117, 1, []), bz, bz, (5, 1, 0, 1, []), (1, 1, 0, 1, []), (5, 1, 0, 1, []), (25, 3, 117, 0, []), bz, bz, (40, 3, 141, 0, []), bz, bz, (3, 1, 1, 1, []), (41, 1, 0, 0, [])]
def cd_X10_needs : List bh_I := [(3, 1, 0, 1, []), (21, 3, 8, 1, []), bz, bz, (1, 1, 0, 0, []), (23, 3, 18, 0, []), bz, bz, (3, 1, 0, 1, []), (1, 1, 0, 5, []), (22, 3, 17, 3, []), bz, bz, (1, 1, 0, 1, []), (23, 3, 18, 0, []), bz, bz, (1, 1, 0, 2, []), (41, 1, 0, 0, [])]
def cd_X10_readsHabit : List bh_I := [(5, 1, 0, 1, []), (40, 3, 144, 0, []), bz, bz, (6, 1, 2, 1, []), (1, 1, 0, (-1), []), (6, 1, 3, 1, []), (1, 1, 0, (-1), []), (6, 2, 4, 0, []), bz, (5, 1, 0, 1, []), (40, 3, 137, 0, []), bz, bz, (21, 3, 41, 0, []), bz, bz, (3, 1, 2, 1, []), (40, 3, 145, 0, []), bz, bz, (21, 3, 41, 5, []), bz, bz, (5, 1, 0, 1, []), (3, 1, 2, 1, []), (1, 1, 0, 4, []), (22, 3, 34, 1, []), bz, bz, (1, 1, 0, 1, []), (23, 3, 35, 0, []), bz, bz, (1, 1, 0, 0, []), (1, 2, 1, 15, []), bz, (40, 3, 146, 0, []), bz, bz, (6, 1, 3, 1, []), (5, 1, 0, 1, []), (40, 3, 137, 0, []), bz, bz, (21, 3, 87, 0, []), bz, bz, (3, 1, 2, 1, []), (40, 3, 145, 0, []), bz, bz, (1, 1, 0, 1, []), (22, 3, 87, 5, []), bz, bz, (5, 1, 0, 1, []), (1, 1, 0, 0, []), (1, 2, 1, 15, []), bz, (40, 3, 146, 0, []), bz, bz, (6, 2, 4, 0, []), bz, (5, 1, 0, 1, []), (40, 3, 137, 0, []), bz, bz, (21, 3, 87, 0, []), bz, bz, (3, 1, 3, 1, []), (3, 2, 4, 0, []), bz, (22, 3, 87, 1, []), bz, bz, (5, 1, 0, 1, []), (1, 1, 0, 2, []), (5, 1, 0, 1, []), (25, 3, 119, 0, []), bz, bz, (40, 3, 141, 0, []), bz, bz, (5, 1, 0, 1, []), (25, 3, 110, 0, []), bz, bz, (3, 1, 1, 1, []), (1, 1, 0, 1, []), (10, 1, 0, 0, []), (3, 1, 2, 1, []), (28, 1, 0, 0, []), (5, 1, 0, 1, []), (25, 3, 110, 0, []), bz, bz, (3, 1, 1, 1, []), (1, 1, 0, 2, []), (10, 1, 0, 0, []), (3, 1, 3, 1, []), (28, 1, 0, 0, []), (5, 1, 0, 1, []), (25, 3, 110, 0, []), bz, bz, (3, 1, 1, 1, []), (1, 1, 0, 3, []), (10, 1, 0, 0, []), (3, 2, 4, 0, []), bz, (28, 1, 0, 0, []), (44, 1, 0, 0, [])]
def cd_X10_readsWriter : List bh_I := [(5, 1, 0, 1, []), (25, 3, 110, 0, []), bz, bz, (1, 1, 0, 0, []), (27, 1, 0, 0, []), (1, 2, 1, 12, []), bz, (22, 3, 18, 1, []), bz, bz, (5, 1, 0, 1, []), (1, 1, 0, 3, []), (3, 1, 1, 1, []), (40, 3, 141, 0, []), bz, bz, (44, 1, 0, 0, []), (1, 1, 0, 4, []), (1, 2, 1, 10, []), bz, (5, 1, 0, 1, []), (25, 3, 110, 0, []), bz, bz, (1, 1, 0, 0, []), (27, 1, 0, 0, []), (10, 1, 2, 0, []), (10, 1, 0, 0, []), (6, 1, 2, 1, []), (5, 1, 0, 1, []), (25, 3, 110, 0, []), bz, bz, (3, 1, 2, 1, []), (1, 1, 0, 0, []), (10, 1, 0, 0, []), (5, 1, 0, 1, []), (1, 1, 0, 0, []), (1, 2, 1, 99, []), bz, (40, 3, 146, 0, []), bz, bz, (28, 1, 0, 0, []), (5, 1, 0, 1, []), (40, 3, 137, 0, []), bz, bz, (21, 3, 57, 0, []), bz, bz, (5, 1, 0, 1, []), (3, 1, 2, 1, []), (40, 3, 147, 0, []), bz, bz, (5, 1, 0, 1, []), (25, 3, 110, 0, []), bz, bz, (3, 1, 2, 1, []), (1, 1, 0, 4, []), (10, 1, 0, 0, []), (1, 1, 0, (-1), []), (28, 1, 0, 0, []), (5, 1, 0, 1, []), (45, 2, 18, 176, []), bz, (40, 3, 143, 0, []), bz, bz, (21, 3, 138, 0, []), bz, bz, (5, 1, 0, 1, []), (1, 1, 0, 0, []), (5, 1, 0, 1, []), (25, 3, 110, 0, []), bz, bz, (1, 1, 0, 0, []), (27, 1, 0, 0, []), (1, 1, 0, 1, []), (10, 1, 1, 0, []), (40, 3, 146, 0, []), bz, bz, (6, 1, 3, 1, []), (5, 1, 0, 1, []), (40, 3, 137, 0, []), bz, bz, (21, 3, 129, 0, []), bz, bz, (5, 1, 0, 1, []), (25, 3, 110, 0, []), bz, bz, (1, 1, 0, 4, []), (1, 2, 1, 10, []), bz, (3, 1, 3, 1, []), (10, 1, 2, 0, []), (10, 1, 0, 0, []), (1, 1, 0, 0, []), (10, 1, 0, 0, []), (27, 1, 0, 0, []), (5, 1, 0, 1, []), (25, 3, 110, 0, []), bz, bz, (3, 1, 2, 1, []), (1, 1, 0, 0, []), (10, 1, 0, 0, []), (27, 1, 0, 0, []), (22, 3, 129, 2, []), bz, bz, (5, 1, 0, 1, []), (1, 1, 0, 4, []), (5, 1, 0, 1, []), (25, 3, 119, 0, []), bz, bz, (40, 3, 141, 0, []), bz, bz, (5, 1, 0, 1, []), (25, 3, 110, 0, []), bz, bz, (3, 1, 2, 1, []), (1, 1, 0, 4, []), (10, 1, 0, 0, []), (3, 1, 3, 1, []), (28, 1, 0, 0, []), (5, 1, 0, 1, []), (25, 3, 110, 0, []), bz, bz, (1, 1, 0, 0, []), (20, 1, 0, 0, []), (27, 1, 0, 0, []), (1, 1, 0, 1, []), (10, 1, 0, 0, []), (28, 1, 0, 0, []), (44, 1, 0, 0, [])]
def cd_X10_readsBook : List bh_I := [(5, 1, 0, 1, []), (25, 3, 110, 0, []), bz, bz, (1, 1, 0, 1, []), (27, 1, 0, 0, []), (1, 1, 0, 4, []), (22, 3, 17, 1, []), bz, bz, (5, 1, 0, 1, []), (1, 1, 0, 3, []), (3, 1, 1, 1, []), (40, 3, 141, 0, []), bz, bz, (44, 1, 0, 0, []), (1, 3, 2, 508, []), bz, bz, (1, 2, 1, 9, []), bz, (5, 1, 0, 1, []), (25, 3, 110, 0, []), bz, bz, (1, 1, 0, 1, []), (27, 1, 0, 0, []), (10, 1, 2, 0, []), (10, 1, 0, 0, []), (6, 1, 2, 1, []), (1, 1, 0, 1, []), (6, 1, 3, 1, []), (3, 1, 3, 1, []), (21, 3, 138, 0, []), bz, bz, (5, 1, 0, 1, []), (1, 1, 0, 0, []), (1, 2, 3, 65535, [178, 1257]), bz, (40, 3, 146, 0, []), bz, bz, (6, 2, 4, 0, []), bz, (5, 1, 0, 1, []), (40, 3, 137, 0, []), bz, bz, (21, 3, 73, 0, []), bz, bz, (5, 1, 0, 1, []), (25, 3, 110, 0, []), bz, bz, (3, 1, 2, 1, []), (27, 1, 0, 0, []), (1, 2, 1, 8, []), bz, (22, 3, 73, 1, []), bz, bz, (5, 1, 0, 1, []), (1, 1, 0, 3, []), (5, 1, 0, 1, []), (25, 3, 119, 0, []), bz, bz, (40, 3, 141, 0, []), bz, bz, (5, 1, 0, 1, []), (40, 3, 137, 0, []), bz, bz, (21, 3, 105, 0, []), bz, bz, (5, 1, 0, 1, []), (25, 3, 110, 0, []), bz, bz, (3, 1, 2, 1, []), (20, 1, 0, 0, []), (27, 1, 0, 0, []), (1, 1, 0, 1, []), (10, 1, 0, 0, []), (28, 1, 0, 0, []), (5, 1, 0, 1, []), (25, 3, 110, 0, []), bz, bz, (3, 1, 2, 1, []), (5, 1, 0, 1, []), (25, 3, 110, 0, []), bz, bz, (3, 1, 2, 1, []), (27, 1, 0, 0, []), (10, 1, 0, 0, []), (3, 2, 4, 0, []), bz, (28, 1, 0, 0, []), (5, 1, 0, 1, []), (40, 3, 137, 0, []), bz, bz, (21, 3, 133, 0, []), bz, bz, (5, 1, 0, 1, []), (40, 3, 139, 0, []), bz, bz, (15, 1, 0, 0, []), (2, 3, 1, 48, [101, 1229]), bz, bz, (2, 3, 1, 57, [103, 1230]), bz, bz, (40, 3, 138, 0, []), bz, bz, (21, 3, 133, 0, []), bz, bz, (1, 1, 0, 1, []), (23, 3, 134, 0, []), bz, bz, (1, 1, 0, 0, []), (6, 1, 3, 1, []), (23, 3, 33, 0, []), bz, bz, (5, 1, 0, 1, []), (25, 3, 110, 0, []), bz, bz, (1, 1, 0, 1, []), (20, 1, 0, 0, []), (27, 1, 0, 0, []), (1, 1, 0, 1, []), (10, 1, 0, 0, []), (28, 1, 0, 0, []), (44, 1, 0, 0, [])]
def cd_X10_readsPart : List bh_I := [(5, 1, 0, 1, []), (40, 3, 139, 0, []), bz, bz, (19, 1, 0, 0, []), (5, 1, 0, 1, []), (25, 3, 117, 0, []), bz, bz, (6, 1, 1, 1, []), (5, 1, 0, 1, []), (45, 2, 10, 179, []), bz, (40, 3, 143, 0, []), bz, bz, (21, 3, 27, 0, []), bz, bz, (5, 1, 0, 1, []), (3, 1, 1, 1, []), (40, 3, 148, 0, []), bz, bz, (23, 3, 50, 0, []), bz, bz, (5, 1, 0, 1, []), (45, 2, 19, 184, []), bz, (40, 3, 143, 0, []), bz, bz, (21, 3, 44, 0, []), bz, bz, (5, 1, 0, 1, []), (3, 1, 1, 1, []), (40, 3, 149, 0, []), bz, bz, (23, 3, 50, 0, []), bz, bz, (5, 1, 0, 1, []), (1, 1, 0, 1, []), (3, 1, 1, 1, []), (40, 3, 141, 0, []), bz, bz, (44, 1, 0, 0, [])]
def cd_X10_tell : List bh_I := [(5, 1, 0, 1, []), (1, 1, 0, 0, []), (26, 3, 117, 0, []), bz, bz, (5, 1, 0, 1, []), (1, 1, 0, (-1), []), (26, 3, 118, 0, []), bz, bz, (1, 1, 0, 0, []), (6, 1, 1, 1, []), (3, 1, 1, 1, []), (1, 3, 2, 560, []), bz, bz, (22, 3, 32, 3, []), bz, bz, (5, 1, 0, 1, []), (25, 3, 110, 0, []), bz, bz, (3, 1, 1, 1, []), (1, 1, 0, 0, []), (28, 1, 0, 0, []), (9, 3, 1, 1, []), bz, bz, (23, 3, 12, 0, []), bz, bz, (5, 1, 0, 1, []), (40, 3, 139, 0, []), bz, bz, (1, 1, 0, (-1), []), (22, 3, 44, 0, []), bz, bz, (1, 1, 0, 1, []), (23, 3, 45, 0, []), bz, bz, (1, 1, 0, 0, []), (6, 1, 1, 1, []), (3, 1, 1, 1, []), (21, 3, 92, 0, []), bz, bz, (5, 1, 0, 1, []), (40, 3, 150, 0, []), bz, bz, (5, 1, 0, 1, []), (40, 3, 137, 0, []), bz, bz, (21, 3, 74, 0, []), bz, bz, (5, 1, 0, 1, []), (40, 3, 139, 0, []), bz, bz, (1, 2, 1, 59, []), bz, (22, 3, 74, 1, []), bz, bz, (1, 1, 0, 1, []), (23, 3, 75, 0, []), bz, bz, (1, 1, 0, 0, []), (6, 1, 1, 1, []), (5, 1, 0, 1, []), (18, 1, 0, 0, []), (25, 3, 117, 0, []), bz, bz, (3, 1, 1, 1, []), (40, 3, 151, 0, []), bz, bz, (10, 1, 0, 0, []), (26, 3, 117, 0, []), bz, bz, (23, 3, 46, 0, []), bz, bz, (5, 1, 0, 1, []), (40, 3, 137, 0, []), bz, bz, (21, 3, 116, 0, []), bz, bz, (5, 1, 0, 1, []), (40, 3, 136, 0, []), bz, bz, (1, 1, 0, (-1), []), (22, 3, 116, 0, []), bz, bz, (5, 1, 0, 1, []), (1, 1, 0, 1, []), (5, 1, 0, 1, []), (25, 3, 117, 0, []), bz, bz, (40, 3, 141, 0, []), bz, bz, (5, 1, 0, 1, []), (1, 1, 0, 0, []), (26, 3, 116, 0, []), bz, bz, (5, 1, 0, 1, []), (40, 3, 137, 0, []), bz, bz, (21, 3, 136, 1, []), bz, bz, (1, 2, 1, (-2), []), bz, (5, 1, 0, 1, []), (25, 3, 118, 0, []), bz, bz, (10, 1, 1, 0, []), (41, 1, 0, 0, []), (5, 1, 0, 1, []), (25, 3, 110, 0, []), bz, bz, (1, 1, 0, 0, []), (5, 1, 0, 1, []), (25, 3, 109, 0, []), bz, bz, (1, 1, 0, 0, []), (40, 3, 152, 0, []), bz, bz, (5, 1, 0, 1, []), (1, 1, 0, 0, []), (26, 3, 114, 0, []), bz, bz, (5, 1, 0, 1, []), (25, 3, 109, 0, []), bz, bz, (1, 1, 0, 0, []), (27, 1, 0, 0, []), (41, 1, 0, 0, [])]
def cd_X10_isWriter : List bh_I := [(3, 1, 1, 1, []), (15, 1, 0, 0, []), (2, 1, 0, 0, []), (5, 1, 0, 1, []), (25, 3, 109, 0, []), bz, bz, (1, 1, 0, 0, []), (27, 1, 0, 0, []), (1, 1, 0, 1, []), (10, 1, 1, 0, []), (15, 1, 0, 0, []), (40, 3, 138, 0, []), bz, bz, (41, 1, 0, 0, [])]
def cd_X10_of : List bh_I := [(5, 1, 0, 1, []), (25, 3, 109, 0, []), bz, bz, (1, 1, 0, 4, []), (1, 2, 1, 10, []), bz, (3, 1, 1, 1, []), (10, 1, 2, 0, []), (10, 1, 0, 0, []), (3, 1, 2, 1, []), (10, 1, 0, 0, []), (27, 1, 0, 0, []), (41, 1, 0, 0, [])]
def cd_X10_puts_ : List bh_I := [(5, 1, 0, 1, []), (25, 3, 109, 0, []), bz, bz, (1, 1, 0, 4, []), (1, 2, 1, 10, []), bz, (3, 1, 1, 1, []), (10, 1, 2, 0, []), (10, 1, 0, 0, []), (3, 1, 2, 1, []), (10, 1, 0, 0, []), (3, 1, 3, 1, []), (28, 1, 0, 0, []), (44, 1, 0, 0, [])]
def cd_X10_under : List bh_I := [(5, 1, 0, 1, []), (3, 1, 1, 1, []), (1, 1, 0, 4, []), (40, 3, 153, 0, []), bz, bz, (41, 1, 0, 0, [])]
def cd_X10_isDead : List bh_I := [(5, 1, 0, 1, []), (3, 1, 1, 1, []), (1, 2, 1, 8, []), bz, (40, 3, 153, 0, []), bz, bz, (1, 1, 0, 1, []), (22, 3, 15, 1, []), bz, bz, (1, 1, 0, 1, []), (23, 3, 16, 0, []), bz, bz, (1, 1, 0, 0, []), (41, 1, 0, 0, [])]
def cd_X10_isBook : List bh_I := [(3, 1, 1, 1, []), (15, 1, 0, 0, []), (2, 1, 0, 0, []), (5, 1, 0, 1, []), (25, 3, 109, 0, []), bz, bz, (1, 1, 0, 1, []), (27, 1, 0, 0, []), (1, 1, 0, 1, []), (10, 1, 1, 0, []), (15, 1, 0, 0, []), (40, 3, 138, 0, []), bz, bz, (41, 1, 0, 0, [])]
def cd_X10_pagesOf : List bh_I := [(5, 1, 0, 1, []), (25, 3, 109, 0, []), bz, bz, (1, 3, 2, 508, []), bz, bz, (1, 2, 1, 9, []), bz, (3, 1, 1, 1, []), (10, 1, 2, 0, []), (10, 1, 0, 0, []), (27, 1, 0, 0, []), (41, 1, 0, 0, [])]
def cd_X10_isPage : List bh_I := [(5, 1, 0, 1, []), (3, 1, 1, 1, []), (40, 3, 154, 0, []), bz, bz, (21, 3, 29, 0, []), bz, bz, (3, 1, 2, 1, []), (15, 1, 0, 0, []), (2, 1, 0, 0, []), (5, 1, 0, 1, []), (3, 1, 1, 1, []), (40, 3, 155, 0, []), bz, bz, (1, 1, 0, 1, []), (10, 1, 1, 0, []), (15, 1, 0, 0, []), (40, 3, 138, 0, []), bz, bz, (21, 3, 29, 0, []), bz, bz, (1, 1, 0, 1, []), (23, 3, 30, 0, []), bz, bz, (1, 1, 0, 0, []), (41, 1, 0, 0, [])]
def cd_X10_pageOf : List bh_I := [(5, 1, 0, 1, []), (25, 3, 109, 0, []), bz, bz, (1, 3, 2, 508, []), bz, bz, (1, 2, 1, 9, []), bz, (3, 1, 1, 1, []), (10, 1, 2, 0, []), (10, 1, 0, 0, []), (1, 1, 0, 1, []), (10, 1, 0, 0, []), (3, 1, 2, 1, []), (10, 1, 0, 0, []), (27, 1, 0, 0, []), (41, 1, 0, 0, [])]
def cd_X10_hasStock : List bh_I := [(5, 1, 0, 1, []), (3, 1, 1, 1, []), (1, 2, 1, 9, []), bz, (40, 3, 153, 0, []), bz, bz, (3, 1, 2, 1, []), (40, 3, 156, 0, []), bz, bz, (41, 1, 0, 0, [])]
def cd_X10_stockAt : List bh_I := [(1, 2, 1, 124, []), bz, (1, 2, 1, 8, []), bz, (1, 1, 0, 4, []), (3, 1, 0, 1, []), (10, 1, 2, 0, []), (3, 1, 1, 1, []), (10, 1, 0, 0, []), (10, 1, 2, 0, []), (10, 1, 0, 0, []), (3, 1, 2, 1, []), (10, 1, 0, 0, []), (41, 1, 0, 0, [])]
def cd_X10_hands : List bh_I := [(1, 1, 0, 0, []), (6, 1, 2, 1, []), (3, 1, 1, 1, []), (6, 1, 3, 1, []), (3, 1, 3, 1, []), (1, 1, 0, (-1), []), (22, 3, 28, 0, []), bz, bz, (5, 1, 0, 1, []), (25, 3, 120, 0, []), bz, bz, (3, 1, 2, 1, []), (3, 1, 3, 1, []), (28, 1, 0, 0, []), (9, 3, 2, 1, []), bz, bz, (5, 1, 0, 1, []), (3, 1, 3, 1, []), (40, 3, 157, 0, []), bz, bz, (6, 1, 3, 1, []), (23, 3, 4, 0, []), bz, bz, (3, 1, 2, 1, []), (41, 1, 0, 0, [])]
def cd_X10_handsSet : List bh_I := [(1, 1, 0, 0, []), (6, 1, 2, 1, []), (3, 1, 1, 1, []), (6, 1, 3, 1, []), (3, 1, 3, 1, []), (1, 1, 0, (-1), []), (22, 3, 24, 0, []), bz, bz, (3, 1, 2, 1, []), (1, 1, 0, 1, []), (3, 1, 3, 1, []), (10, 1, 6, 0, []), (10, 1, 4, 0, []), (6, 1, 2, 1, []), (5, 1, 0, 1, []), (3, 1, 3, 1, []), (40, 3, 157, 0, []), bz, bz, (6, 1, 3, 1, []), (23, 3, 4, 0, []), bz, bz, (3, 1, 2, 1, []), (41, 1, 0, 0, [])]
def cd_X10_done : List bh_I := [(3, 1, 0, 1, []), (24, 39, 105, 1, [40, 46, 52, 60, 74, 94]), bz, bz, bz, bz, bz, bz, bz, bz, bz, bz, bz, bz, bz, bz, bz, bz, bz, bz, bz, bz, bz, bz, bz, bz, bz, bz, bz, bz, bz, bz, bz, bz, bz, bz, bz, bz, bz, bz, (3, 1, 3, 1, []), (1, 1, 0, 1, []), (3, 1, 1, 1, []), (10, 1, 6, 0, []), (10, 1, 5, 0, []), (41, 1, 0, 0, []), (3, 1, 3, 1, []), (1, 1, 0, 1, []), (3, 1, 1, 1, []), (10, 1, 6, 0, []), (10, 1, 4, 0, []), (41, 1, 0, 0, []), (3, 1, 3, 1, []), (1, 1, 0, 1, []), (3, 1, 1, 1, []), (10, 1, 6, 0, []), (1, 1, 0, (-1), []), (10, 1, 5, 0, []), (10, 1, 3, 0, []), (41, 1, 0, 0, []), (3, 1, 3, 1, []), (3, 1, 1, 1, []), (10, 1, 6, 0, []), (3, 1, 3, 1, []), (1, 2, 1, 16, []), bz, (3, 1, 1, 1, []), (10, 1, 1, 0, []), (10, 1, 7, 0, []), (10, 1, 4, 0, []), (1, 2, 3, 65535, [178, 1257]), bz, (10, 1, 3, 0, []), (41, 1, 0, 0, []), (3, 1, 3, 1, []), (3, 1, 1, 1, []), (3, 1, 3, 1, []), (3, 1, 2, 1, []), (10, 1, 7, 0, []), (1, 1, 0, 1, []), (10, 1, 3, 0, []), (40, 3, 158, 0, []), bz, bz, (3, 1, 2, 1, []), (3, 1, 3, 1, []), (3, 1, 1, 1, []), (10, 1, 7, 0, []), (1, 1, 0, 1, []), (10, 1, 3, 0, []), (40, 3, 158, 0, []), bz, bz, (41, 1, 0, 0, []), (3, 1, 3, 1, []), (3, 1, 2, 1, []), (3, 1, 3, 1, []), (3, 1, 1, 1, []), (10, 1, 7, 0, []), (1, 1, 0, 1, []), (10, 1, 3, 0, []), (40, 3, 158, 0, []), bz, bz, (41, 1, 0, 0, []), (3, 1, 3, 1, []), (41, 1, 0, 0, [])]
def cd_X10_with : List bh_I := [(3, 1, 0, 1, []), (1, 1, 0, 1, []), (3, 1, 1, 1, []), (10, 1, 6, 0, []), (1, 1, 0, (-1), []), (10, 1, 5, 0, []), (10, 1, 3, 0, []), (3, 1, 2, 1, []), (3, 1, 1, 1, []), (10, 1, 6, 0, []), (10, 1, 4, 0, []), (41, 1, 0, 0, [])]
def cd_X10_habit : List bh_I := [(5, 1, 0, 1, []), (3, 1, 1, 1, []), (1, 1, 0, 1, []), (40, 3, 153, 0, []), bz, bz, (5, 1, 0, 1, []), (3, 1, 1, 1, []), (1, 1, 0, 2, []), (40, 3, 153, 0, []), bz, bz, (5, 1, 0, 1, []), (3, 1, 1, 1, []), (1, 1, 0, 3, []), (40, 3, 153, 0, []), bz, bz, (3, 1, 2, 1, []), (40, 3, 159, 0, []), bz, bz, (41, 1, 0, 0, [])]
def cd_X10_passes : List bh_I := [(5, 1, 0, 1, []), (3, 1, 1, 1, []), (1, 2, 1, 7, []), bz, (40, 3, 153, 0, []), bz, bz, (1, 1, 0, 1, []), (22, 3, 15, 1, []), bz, bz, (3, 1, 2, 1, []), (23, 3, 21, 0, []), bz, bz, (5, 1, 0, 1, []), (3, 1, 1, 1, []), (3, 1, 2, 1, []), (40, 3, 160, 0, []), bz, bz, (41, 1, 0, 0, [])]
def cd_X10_lineOf : List bh_I := [(5, 1, 0, 1, []), (3, 1, 1, 1, []), (40, 3, 161, 0, []), bz, bz, (6, 2, 4, 0, []), bz, (3, 2, 4, 0, []), bz, (1, 1, 0, 1, []), (10, 1, 1, 0, []), (6, 2, 5, 0, []), bz, (5, 1, 0, 1, []), (3, 1, 2, 1, []), (3, 1, 3, 1, []), (40, 3, 162, 0, []), bz, bz, (6, 2, 6, 0, []), bz, (3, 2, 4, 0, []), bz, (1, 1, 0, 1, []), (10, 1, 1, 0, []), (6, 2, 7, 0, []), bz, (3, 2, 7, 0, []), bz, (21, 3, 97, 2, []), bz, bz, (5, 1, 0, 1, []), (5, 1, 0, 1, []), (25, 3, 120, 0, []), bz, bz, (3, 2, 7, 0, []), bz, (27, 1, 0, 0, []), (40, 3, 163, 0, []), bz, bz, (21, 3, 91, 0, []), bz, bz, (3, 2, 7, 0, []), bz, (1, 1, 0, 1, []), (10, 1, 1, 0, []), (6, 2, 5, 0, []), bz, (5, 1, 0, 1, []), (5, 1, 0, 1, []), (25, 3, 120, 0, []), bz, bz, (3, 2, 7, 0, []), bz, (27, 1, 0, 0, []), (3, 1, 2, 1, []), (40, 3, 164, 0, []), bz, bz, (21, 3, 87, 0, []), bz, bz, (5, 1, 0, 1, []), (25, 3, 109, 0, []), bz, bz, (5, 1, 0, 1, []), (25, 3, 120, 0, []), bz, bz, (3, 2, 7, 0, []), bz, (27, 1, 0, 0, []), (3, 1, 2, 1, []), (3, 1, 3, 1, []), (40, 3, 165, 0, []), bz, bz, (27, 1, 0, 0, []), (23, 3, 89, 0, []), bz, bz, (1, 2, 1, (-2), []), bz, (6, 2, 6, 0, []), bz, (9, 3, 7, (-1), []), bz, bz, (23, 3, 27, 0, []), bz, bz, (3, 2, 5, 0, []), bz, (6, 2, 7, 0, []), bz, (3, 2, 7, 0, []), bz, (21, 3, 134, 2, []), bz, bz, (3, 2, 6, 0, []), bz, (1, 2, 1, (-2), []), bz, (22, 3, 134, 0, []), bz, bz, (5, 1, 0, 1, []), (5, 1, 0, 1, []), (25, 3, 120, 0, []), bz, bz, (3, 2, 7, 0, []), bz, (27, 1, 0, 0, []), (3, 2, 6, 0, []), bz, (40, 3, 166, 0, []), bz, bz, (6, 2, 6, 0, []), bz, (9, 3, 7, (-1), []), bz, bz, (23, 3, 101, 0, []), bz, bz, (3, 2, 6, 0, []), bz, (41, 1, 0, 0, [])]
def cd_X10_isAnyDead : List bh_I := [(3, 1, 1, 1, []), (6, 1, 2, 1, []), (3, 1, 2, 1, []), (1, 1, 0, (-1), []), (22, 3, 26, 0, []), bz, bz, (5, 1, 0, 1, []), (3, 1, 2, 1, []), (40, 3, 163, 0, []), bz, bz, (21, 3, 17, 0, []), bz, bz, (1, 1, 0, 1, []), (41, 1, 0, 0, []), (5, 1, 0, 1, []), (3, 1, 2, 1, []), (40, 3, 157, 0, []), bz, bz, (6, 1, 2, 1, []), (23, 3, 2, 0, []), bz, bz, (1, 1, 0, 0, []), (41, 1, 0, 0, [])]
def cd_X10_keepsPast : List bh_I := [(5, 1, 0, 1, []), (25, 3, 114, 0, []), bz, bz, (1, 2, 1, 10, []), bz, (22, 3, 52, 1, []), bz, bz, (1, 3, 2, 560, []), bz, bz, (6, 1, 1, 1, []), (3, 1, 1, 1, []), (1, 3, 2, 5600, []), bz, bz, (22, 3, 42, 3, []), bz, bz, (5, 1, 0, 1, []), (25, 3, 111, 0, []), bz, bz, (3, 1, 1, 1, []), (1, 3, 2, 560, []), bz, bz, (10, 1, 1, 0, []), (5, 1, 0, 1, []), (25, 3, 111, 0, []), bz, bz, (3, 1, 1, 1, []), (27, 1, 0, 0, []), (28, 1, 0, 0, []), (9, 3, 1, 1, []), bz, bz, (23, 3, 13, 0, []), bz, bz, (5, 1, 0, 1, []), (18, 1, 0, 0, []), (25, 3, 114, 0, []), bz, bz, (1, 1, 0, 1, []), (10, 1, 1, 0, []), (26, 3, 114, 0, []), bz, bz, (5, 1, 0, 1, []), (25, 3, 109, 0, []), bz, bz, (1, 1, 0, 0, []), (5, 1, 0, 1, []), (25, 3, 111, 0, []), bz, bz, (1, 3, 2, 560, []), bz, bz, (5, 1, 0, 1, []), (25, 3, 114, 0, []), bz, bz, (10, 1, 2, 0, []), (40, 3, 152, 0, []), bz, bz, (5, 1, 0, 1, []), (18, 1, 0, 0, []), (25, 3, 114, 0, []), bz, bz, (1, 1, 0, 1, []), (10, 1, 0, 0, []), (26, 3, 114, 0, []), bz, bz, (44, 1, 0, 0, [])]
def cd_X10_undo : List bh_I := [(5, 1, 0, 1, []), (25, 3, 114, 0, []), bz, bz, (21, 3, 9, 1, []), bz, bz, (1, 1, 0, (-1), []), (41, 1, 0, 0, []), (5, 1, 0, 1, []), (18, 1, 0, 0, []), (25, 3, 114, 0, []), bz, bz, (1, 1, 0, 1, []), (10, 1, 1, 0, []), (26, 3, 114, 0, []), bz, bz, (5, 1, 0, 1, []), (25, 3, 111, 0, []), bz, bz, (1, 3, 2, 560, []), bz, bz, (5, 1, 0, 1, []), (25, 3, 114, 0, []), bz, bz, (10, 1, 2, 0, []), (5, 1, 0, 1, []), (25, 3, 109, 0, []), bz, bz, (1, 1, 0, 0, []), (40, 3, 152, 0, []), bz, bz, (5, 1, 0, 1, []), (25, 3, 114, 0, []), bz, bz, (41, 1, 0, 0, [])]
def cd_X10_keep : List bh_I := [(3, 1, 1, 1, []), (15, 1, 0, 0, []), (2, 1, 0, 0, []), (2, 1, 0, 1, []), (40, 3, 138, 0, []), bz, bz, (21, 3, 12, 1, []), bz, bz, (1, 1, 0, (-1), []), (41, 1, 0, 0, []), (5, 1, 0, 1, []), (25, 3, 109, 0, []), bz, bz, (1, 1, 0, 0, []), (5, 1, 0, 1, []), (25, 3, 112, 0, []), bz, bz, (1, 3, 2, 560, []), bz, bz, (3, 1, 1, 1, []), (10, 1, 2, 0, []), (40, 3, 152, 0, []), bz, bz, (5, 1, 0, 1, []), (25, 3, 113, 0, []), bz, bz, (3, 1, 1, 1, []), (1, 1, 0, 1, []), (30, 1, 0, 0, []), (5, 1, 0, 1, []), (25, 3, 109, 0, []), bz, bz, (1, 1, 0, 0, []), (27, 1, 0, 0, []), (41, 1, 0, 0, [])]
def cd_X10_back : List bh_I := [(3, 1, 1, 1, []), (15, 1, 0, 0, []), (2, 1, 0, 0, []), (2, 1, 0, 1, []), (40, 3, 138, 0, []), bz, bz, (21, 3, 12, 1, []), bz, bz, (1, 1, 0, (-1), []), (41, 1, 0, 0, []), (5, 1, 0, 1, []), (25, 3, 113, 0, []), bz, bz, (3, 1, 1, 1, []), (29, 1, 0, 0, []), (21, 3, 24, 1, []), bz, bz, (1, 2, 1, (-2), []), bz, (41, 1, 0, 0, []), (5, 1, 0, 1, []), (25, 3, 112, 0, []), bz, bz, (1, 3, 2, 560, []), bz, bz, (3, 1, 1, 1, []), (10, 1, 2, 0, []), (5, 1, 0, 1, []), (25, 3, 109, 0, []), bz, bz, (1, 1, 0, 0, []), (40, 3, 152, 0, []), bz, bz, (5, 1, 0, 1, []), (1, 1, 0, 0, []), (26, 3, 114, 0, []), bz, bz, (5, 1, 0, 1, []), (25, 3, 109, 0, []), bz, bz, (1, 1, 0, 0, []), (27, 1, 0, 0, []), (41, 1, 0, 0, [])]
def cd_X10_hire : List bh_I := [(5, 1, 0, 1, []), (3, 1, 1, 1, []), (40, 3, 167, 0, []), bz, bz, (21, 3, 16, 0, []), bz, bz, (5, 1, 0, 1, []), (3, 1, 2, 1, []), (40, 3, 167, 0, []), bz, bz, (21, 3, 18, 1, []), bz, bz, (1, 1, 0, (-1), []), (41, 1, 0, 0, []), (5, 1, 0, 1, []), (3, 1, 1, 1, []), (40, 3, 163, 0, []), bz, bz, (21, 3, 34, 1, []), bz, bz, (5, 1, 0, 1, []), (3, 1, 2, 1, []), (40, 3, 163, 0, []), bz, bz, (21, 3, 37, 0, []), bz, bz, (1, 2, 1, (-4), []), bz, (41, 1, 0, 0, []), (5, 1, 0, 1, []), (3, 1, 1, 1, []), (40, 3, 157, 0, []), bz, bz, (3, 1, 2, 1, []), (22, 3, 49, 1, []), bz, bz, (1, 2, 1, (-2), []), bz, (41, 1, 0, 0, []), (5, 1, 0, 1, []), (3, 1, 2, 1, []), (1, 1, 0, 0, []), (40, 3, 153, 0, []), bz, bz, (5, 1, 0, 1, []), (3, 1, 1, 1, []), (1, 1, 0, 0, []), (40, 3, 153, 0, []), bz, bz, (22, 3, 67, 2, []), bz, bz, (1, 2, 1, (-3), []), bz, (41, 1, 0, 0, []), (5, 1, 0, 1, []), (40, 3, 168, 0, []), bz, bz, (5, 1, 0, 1, []), (3, 1, 1, 1, []), (1, 1, 0, 4, []), (3, 1, 2, 1, []), (40, 3, 169, 0, []), bz, bz, (5, 1, 0, 1, []), (3, 1, 1, 1, []), (40, 3, 161, 0, []), bz, bz, (41, 1, 0, 0, [])]
def cd_X10_sack : List bh_I := [(5, 1, 0, 1, []), (3, 1, 1, 1, []), (40, 3, 167, 0, []), bz, bz, (21, 3, 10, 1, []), bz, bz, (1, 1, 0, (-1), []), (41, 1, 0, 0, []), (5, 1, 0, 1, []), (3, 1, 1, 1, []), (40, 3, 163, 0, []), bz, bz, (21, 3, 21, 0, []), bz, bz, (1, 2, 1, (-4), []), bz, (41, 1, 0, 0, []), (5, 1, 0, 1, []), (3, 1, 1, 1, []), (40, 3, 157, 0, []), bz, bz, (1, 1, 0, (-1), []), (22, 3, 33, 1, []), bz, bz, (1, 2, 1, (-2), []), bz, (41, 1, 0, 0, []), (5, 1, 0, 1, []), (40, 3, 168, 0, []), bz, bz, (5, 1, 0, 1, []), (3, 1, 1, 1, []), (40, 3, 157, 0, []), bz, bz, (6, 1, 2, 1, []), (5, 1, 0, 1, []), (3, 1, 1, 1, []), (1, 1, 0, 4, []), (1, 1, 0, (-1), []), (40, 3, 169, 0, []), bz, bz, (3, 1, 2, 1, []), (41, 1, 0, 0, [])]
def cd_X10_isHabit : List bh_I := [(3, 1, 0, 1, []), (15, 1, 0, 0, []), (2, 1, 0, 0, []), (2, 3, 1, 6, [257, 1319]), bz, bz, (40, 3, 138, 0, []), bz, bz, (21, 3, 14, 1, []), bz, bz, (1, 1, 0, 0, []), (41, 1, 0, 0, []), (3, 1, 0, 1, []), (40, 3, 145, 0, []), bz, bz, (21, 3, 42, 0, []), bz, bz, (3, 1, 1, 1, []), (15, 1, 0, 0, []), (3, 1, 0, 1, []), (1, 1, 0, 4, []), (22, 3, 32, 1, []), bz, bz, (2, 1, 0, 1, []), (23, 3, 33, 0, []), bz, bz, (2, 1, 0, 0, []), (2, 3, 1, 15, [259, 1320]), bz, bz, (40, 3, 138, 0, []), bz, bz, (21, 3, 46, 0, []), bz, bz, (1, 1, 0, 1, []), (23, 3, 47, 0, []), bz, bz, (1, 1, 0, 0, []), (6, 1, 3, 1, []), (3, 1, 3, 1, []), (21, 3, 81, 0, []), bz, bz, (3, 1, 0, 1, []), (40, 3, 145, 0, []), bz, bz, (1, 1, 0, 2, []), (22, 3, 77, 2, []), bz, bz, (3, 1, 2, 1, []), (15, 1, 0, 0, []), (2, 1, 0, 0, []), (2, 3, 1, 15, [259, 1320]), bz, bz, (40, 3, 138, 0, []), bz, bz, (21, 3, 81, 0, []), bz, bz, (3, 1, 1, 1, []), (3, 1, 2, 1, []), (22, 3, 81, 0, []), bz, bz, (1, 1, 0, 1, []), (23, 3, 82, 0, []), bz, bz, (1, 1, 0, 0, []), (41, 1, 0, 0, [])]
def cd_X10_hasHabit : List bh_I := [(5, 1, 0, 1, []), (3, 1, 1, 1, []), (1, 1, 0, 1, []), (40, 3, 153, 0, []), bz, bz, (3, 1, 2, 1, []), (22, 3, 50, 1, []), bz, bz, (3, 1, 2, 1, []), (40, 3, 145, 0, []), bz, bz, (21, 3, 27, 0, []), bz, bz, (5, 1, 0, 1, []), (3, 1, 1, 1, []), (1, 1, 0, 2, []), (40, 3, 153, 0, []), bz, bz, (3, 1, 3, 1, []), (22, 3, 50, 1, []), bz, bz, (3, 1, 2, 1, []), (40, 3, 145, 0, []), bz, bz, (1, 1, 0, 2, []), (22, 3, 46, 2, []), bz, bz, (5, 1, 0, 1, []), (3, 1, 1, 1, []), (1, 1, 0, 3, []), (40, 3, 153, 0, []), bz, bz, (3, 2, 4, 0, []), bz, (22, 3, 50, 1, []), bz, bz, (1, 1, 0, 1, []), (23, 3, 51, 0, []), bz, bz, (1, 1, 0, 0, []), (41, 1, 0, 0, [])]
def cd_X10_learns : List bh_I := [(5, 1, 0, 1, []), (3, 1, 1, 1, []), (1, 1, 0, 1, []), (3, 1, 2, 1, []), (40, 3, 169, 0, []), bz, bz, (5, 1, 0, 1, []), (3, 1, 1, 1, []), (1, 1, 0, 2, []), (3, 1, 2, 1, []), (40, 3, 145, 0, []), bz, bz, (21, 3, 21, 5, []), bz, bz, (3, 1, 3, 1, []), (23, 3, 22, 0, []), bz, bz, (1, 1, 0, (-1), []), (40, 3, 169, 0, []), bz, bz, (5, 1, 0, 1, []), (3, 1, 1, 1, []), (1, 1, 0, 3, []), (3, 1, 2, 1, []), (40, 3, 145, 0, []), bz, bz, (1, 1, 0, 1, []), (22, 3, 41, 5, []), bz, bz, (3, 2, 4, 0, []), bz, (23, 3, 42, 0, []), bz, bz, (1, 1, 0, (-1), []), (40, 3, 169, 0, []), bz, bz, (44, 1, 0, 0, [])]
def cd_X10_teach : List bh_I := [(5, 1, 0, 1, []), (3, 1, 1, 1, []), (40, 3, 167, 0, []), bz, bz, (21, 3, 18, 0, []), bz, bz, (3, 1, 2, 1, []), (3, 1, 3, 1, []), (3, 2, 4, 0, []), bz, (40, 3, 170, 0, []), bz, bz, (21, 3, 20, 1, []), bz, bz, (1, 1, 0, (-1), []), (41, 1, 0, 0, []), (5, 1, 0, 1, []), (3, 1, 1, 1, []), (40, 3, 163, 0, []), bz, bz, (21, 3, 31, 0, []), bz, bz, (1, 2, 1, (-4), []), bz, (41, 1, 0, 0, []), (5, 1, 0, 1, []), (3, 1, 1, 1, []), (3, 1, 2, 1, []), (3, 1, 3, 1, []), (3, 2, 4, 0, []), bz, (40, 3, 171, 0, []), bz, bz, (21, 3, 46, 0, []), bz, bz, (1, 2, 1, (-2), []), bz, (41, 1, 0, 0, []), (5, 1, 0, 1, []), (40, 3, 168, 0, []), bz, bz, (5, 1, 0, 1, []), (3, 1, 1, 1, []), (1, 1, 0, 1, []), (40, 3, 153, 0, []), bz, bz, (6, 2, 5, 0, []), bz, (5, 1, 0, 1, []), (3, 1, 1, 1, []), (3, 1, 2, 1, []), (3, 1, 3, 1, []), (3, 2, 4, 0, []), bz, (40, 3, 172, 0, []), bz, bz, (3, 2, 5, 0, []), bz, (41, 1, 0, 0, [])]
def cd_X10_goesDown : List bh_I := [(3, 1, 2, 1, []), (6, 2, 5, 0, []), bz, (1, 1, 0, (-1), []), (6, 2, 6, 0, []), bz, (3, 1, 1, 1, []), (6, 2, 7, 0, []), bz, (3, 2, 7, 0, []), bz, (1, 1, 0, (-1), []), (22, 3, 110, 0, []), bz, bz, (5, 1, 0, 1, []), (3, 2, 7, 0, []), bz, (40, 3, 157, 0, []), bz, bz, (1, 1, 0, (-1), []), (22, 3, 29, 1, []), bz, bz, (1, 1, 0, 0, []), (23, 3, 46, 0, []), bz, bz, (3, 2, 4, 0, []), bz, (21, 3, 42, 0, []), bz, bz, (3, 2, 5, 0, []), bz, (1, 2, 1, 10, []), bz, (11, 1, 0, 0, []), (23, 3, 46, 0, []), bz, bz, (3, 2, 5, 0, []), bz, (1, 1, 0, 2, []), (11, 1, 0, 0, []), (6, 2, 8, 0, []), bz, (5, 1, 0, 1, []), (3, 2, 7, 0, []), bz, (3, 1, 3, 1, []), (5, 1, 0, 1, []), (3, 2, 7, 0, []), bz, (3, 1, 3, 1, []), (40, 3, 153, 0, []), bz, bz, (3, 2, 5, 0, []), bz, (10, 1, 0, 0, []), (3, 2, 8, 0, []), bz, (10, 1, 1, 0, []), (40, 3, 169, 0, []), bz, bz, (3, 2, 6, 0, []), bz, (1, 1, 0, (-1), []), (22, 3, 82, 1, []), bz, bz, (3, 2, 5, 0, []), bz, (3, 2, 8, 0, []), bz, (10, 1, 1, 0, []), (23, 3, 84, 0, []), bz, bz, (3, 2, 6, 0, []), bz, (6, 2, 6, 0, []), bz, (5, 1, 0, 1, []), (3, 2, 5, 0, []), bz, (3, 2, 8, 0, []), bz, (10, 1, 1, 0, []), (26, 3, 121, 0, []), bz, bz, (3, 2, 8, 0, []), bz, (6, 2, 5, 0, []), bz, (5, 1, 0, 1, []), (3, 2, 7, 0, []), bz, (40, 3, 157, 0, []), bz, bz, (6, 2, 7, 0, []), bz, (23, 3, 9, 0, []), bz, bz, (3, 2, 6, 0, []), bz, (41, 1, 0, 0, [])]
def cd_X10_praise : List bh_I := [(5, 1, 0, 1, []), (3, 1, 1, 1, []), (40, 3, 167, 0, []), bz, bz, (21, 3, 20, 0, []), bz, bz, (3, 1, 2, 1, []), (15, 1, 0, 0, []), (2, 1, 0, 1, []), (2, 3, 1, 9999, [276, 1333]), bz, bz, (40, 3, 138, 0, []), bz, bz, (21, 3, 22, 1, []), bz, bz, (1, 1, 0, (-1), []), (41, 1, 0, 0, []), (5, 1, 0, 1, []), (40, 3, 168, 0, []), bz, bz, (5, 1, 0, 1, []), (3, 1, 1, 1, []), (3, 1, 2, 1, []), (1, 1, 0, 5, []), (1, 1, 0, 1, []), (40, 3, 173, 0, []), bz, bz, (41, 1, 0, 0, [])]
def cd_X10_blame : List bh_I := [(5, 1, 0, 1, []), (3, 1, 1, 1, []), (40, 3, 167, 0, []), bz, bz, (21, 3, 20, 0, []), bz, bz, (3, 1, 2, 1, []), (15, 1, 0, 0, []), (2, 1, 0, 1, []), (2, 3, 1, 9999, [276, 1333]), bz, bz, (40, 3, 138, 0, []), bz, bz, (21, 3, 22, 1, []), bz, bz, (1, 1, 0, (-1), []), (41, 1, 0, 0, []), (5, 1, 0, 1, []), (40, 3, 168, 0, []), bz, bz, (5, 1, 0, 1, []), (3, 1, 1, 1, []), (1, 1, 0, 5, []), (5, 1, 0, 1, []), (3, 1, 1, 1, []), (1, 1, 0, 5, []), (40, 3, 153, 0, []), bz, bz, (3, 1, 2, 1, []), (10, 1, 1, 0, []), (40, 3, 169, 0, []), bz, bz, (5, 1, 0, 1, []), (3, 1, 1, 1, []), (1, 1, 0, 5, []), (40, 3, 153, 0, []), bz, bz, (41, 1, 0, 0, [])]
def cd_X10_order : List bh_I := [(5, 1, 0, 1, []), (3, 1, 1, 1, []), (40, 3, 167, 0, []), bz, bz, (21, 3, 20, 0, []), bz, bz, (3, 1, 2, 1, []), (15, 1, 0, 0, []), (2, 1, 0, 1, []), (2, 3, 1, 9999, [276, 1333]), bz, bz, (40, 3, 138, 0, []), bz, bz, (21, 3, 22, 1, []), bz, bz, (1, 1, 0, (-1), []), (41, 1, 0, 0, []), (5, 1, 0, 1, []), (40, 3, 168, 0, []), bz, bz, (5, 1, 0, 1, []), (3, 1, 1, 1, []), (3, 1, 2, 1, []), (1, 2, 1, 6, []), bz, (1, 1, 0, 0, []), (40, 3, 173, 0, []), bz, bz, (6, 1, 3, 1, []), (5, 1, 0, 1, []), (25, 3, 121, 0, []), bz, bz, (41, 1, 0, 0, [])]
def cd_X10_day : List bh_I := [(5, 1, 0, 1, []), (40, 3, 168, 0, []), bz, bz, (3, 1, 1, 1, []), (6, 1, 2, 1, []), (1, 1, 0, 0, []), (6, 1, 3, 1, []), (3, 1, 3, 1, []), (5, 1, 0, 1, []), (25, 3, 109, 0, []), bz, bz, (1, 1, 0, 0, []), (27, 1, 0, 0, []), (22, 3, 86, 3, []), bz, bz, (5, 1, 0, 1, []), (3, 1, 3, 1, []), (40, 3, 157, 0, []), bz, bz, (1, 1, 0, (-1), []), (22, 3, 47, 0, []), bz, bz, (5, 1, 0, 1, []), (25, 3, 122, 0, []), bz, bz, (3, 1, 3, 1, []), (5, 1, 0, 1, []), (5, 1, 0, 1, []), (3, 1, 3, 1, []), (40, 3, 157, 0, []), bz, bz, (1, 2, 1, 7, []), bz, (40, 3, 153, 0, []), bz, bz, (28, 1, 0, 0, []), (23, 3, 80, 0, []), bz, bz, (1, 3, 4, 1103515245, [282, 1350]), bz, bz, (3, 1, 2, 1, []), (10, 1, 2, 0, []), (1, 3, 2, 12345, []), bz, bz, (10, 1, 0, 0, []), (6, 1, 2, 1, []), (5, 1, 0, 1, []), (25, 3, 122, 0, []), bz, bz, (3, 1, 3, 1, []), (3, 1, 2, 1, []), (1, 2, 1, 16, []), bz, (10, 1, 8, 0, []), (1, 1, 0, 3, []), (12, 1, 0, 0, []), (21, 3, 75, 1, []), bz, bz, (1, 1, 0, 1, []), (23, 3, 76, 0, []), bz, bz, (1, 1, 0, 0, []), (40, 3, 151, 0, []), bz, bz, (28, 1, 0, 0, []), (9, 3, 3, 1, []), bz, bz, (23, 3, 8, 0, []), bz, bz, (1, 1, 0, 0, []), (6, 1, 3, 1, []), (3, 1, 3, 1, []), (5, 1, 0, 1, []), (25, 3, 109, 0, []), bz, bz, (1, 1, 0, 0, []), (27, 1, 0, 0, []), (22, 3, 117, 3, []), bz, bz, (5, 1, 0, 1, []), (3, 1, 3, 1, []), (1, 2, 1, 7, []), bz, (5, 1, 0, 1, []), (25, 3, 122, 0, []), bz, bz, (3, 1, 3, 1, []), (27, 1, 0, 0, []), (40, 3, 169, 0, []), bz, bz, (9, 3, 3, 1, []), bz, bz, (23, 3, 88, 0, []), bz, bz, (5, 1, 0, 1, []), (25, 3, 109, 0, []), bz, bz, (1, 1, 0, 3, []), (20, 1, 0, 0, []), (27, 1, 0, 0, []), (1, 1, 0, 1, []), (10, 1, 0, 0, []), (28, 1, 0, 0, []), (5, 1, 0, 1, []), (40, 3, 174, 0, []), bz, bz, (41, 1, 0, 0, [])]
def cd_X10_moods : List bh_I := [(1, 1, 0, 0, []), (6, 1, 1, 1, []), (1, 1, 0, 0, []), (6, 1, 2, 1, []), (3, 1, 2, 1, []), (5, 1, 0, 1, []), (25, 3, 109, 0, []), bz, bz, (1, 1, 0, 0, []), (27, 1, 0, 0, []), (22, 3, 32, 3, []), bz, bz, (3, 1, 1, 1, []), (5, 1, 0, 1, []), (3, 1, 2, 1, []), (1, 2, 1, 7, []), bz, (40, 3, 153, 0, []), bz, bz, (3, 1, 2, 1, []), (10, 1, 6, 0, []), (10, 1, 4, 0, []), (6, 1, 1, 1, []), (9, 3, 2, 1, []), bz, bz, (23, 3, 4, 0, []), bz, bz, (3, 1, 1, 1, []), (41, 1, 0, 0, [])]
def cd_X10_hasAll : List bh_I := [(1, 1, 0, 0, []), (6, 1, 3, 1, []), (3, 1, 3, 1, []), (5, 1, 0, 1, []), (3, 1, 2, 1, []), (40, 3, 155, 0, []), bz, bz, (22, 3, 31, 3, []), bz, bz, (5, 1, 0, 1, []), (3, 1, 1, 1, []), (3, 1, 2, 1, []), (3, 1, 3, 1, []), (40, 3, 175, 0, []), bz, bz, (1, 2, 1, (-2), []), bz, (22, 3, 25, 1, []), bz, bz, (1, 1, 0, 0, []), (41, 1, 0, 0, []), (9, 3, 3, 1, []), bz, bz, (23, 3, 2, 0, []), bz, bz, (1, 1, 0, 1, []), (41, 1, 0, 0, [])]
def cd_X10_store : List bh_I := [(5, 1, 0, 1, []), (3, 1, 1, 1, []), (40, 3, 167, 0, []), bz, bz, (21, 3, 16, 0, []), bz, bz, (5, 1, 0, 1, []), (3, 1, 2, 1, []), (40, 3, 154, 0, []), bz, bz, (21, 3, 18, 1, []), bz, bz, (1, 1, 0, (-1), []), (41, 1, 0, 0, []), (5, 1, 0, 1, []), (3, 1, 1, 1, []), (40, 3, 163, 0, []), bz, bz, (21, 3, 29, 0, []), bz, bz, (1, 2, 1, (-4), []), bz, (41, 1, 0, 0, []), (5, 1, 0, 1, []), (3, 1, 1, 1, []), (3, 1, 2, 1, []), (40, 3, 176, 0, []), bz, bz, (21, 3, 41, 1, []), bz, bz, (1, 2, 1, (-2), []), bz, (41, 1, 0, 0, []), (5, 1, 0, 1, []), (40, 3, 168, 0, []), bz, bz, (1, 1, 0, 0, []), (6, 1, 3, 1, []), (3, 1, 3, 1, []), (5, 1, 0, 1, []), (3, 1, 2, 1, []), (40, 3, 155, 0, []), bz, bz, (22, 3, 80, 3, []), bz, bz, (5, 1, 0, 1, []), (25, 3, 109, 0, []), bz, bz, (3, 1, 1, 1, []), (3, 1, 2, 1, []), (3, 1, 3, 1, []), (40, 3, 165, 0, []), bz, bz, (5, 1, 0, 1, []), (3, 1, 1, 1, []), (3, 1, 2, 1, []), (3, 1, 3, 1, []), (40, 3, 175, 0, []), bz, bz, (28, 1, 0, 0, []), (9, 3, 3, 1, []), bz, bz, (23, 3, 47, 0, []), bz, bz, (5, 1, 0, 1, []), (3, 1, 1, 1, []), (1, 2, 1, 9, []), bz, (5, 1, 0, 1, []), (3, 1, 1, 1, []), (1, 2, 1, 9, []), bz, (40, 3, 153, 0, []), bz, bz, (1, 1, 0, 1, []), (3, 1, 2, 1, []), (10, 1, 6, 0, []), (10, 1, 4, 0, []), (40, 3, 169, 0, []), bz, bz, (5, 1, 0, 1, []), (3, 1, 2, 1, []), (40, 3, 155, 0, []), bz, bz, (41, 1, 0, 0, [])]
def cd_X10_die : List bh_I := [(5, 1, 0, 1, []), (3, 1, 1, 1, []), (40, 3, 167, 0, []), bz, bz, (21, 3, 10, 1, []), bz, bz, (1, 1, 0, (-1), []), (41, 1, 0, 0, []), (5, 1, 0, 1, []), (3, 1, 1, 1, []), (40, 3, 163, 0, []), bz, bz, (21, 3, 21, 0, []), bz, bz, (1, 2, 1, (-4), []), bz, (41, 1, 0, 0, []), (5, 1, 0, 1, []), (40, 3, 168, 0, []), bz, bz, (5, 1, 0, 1, []), (3, 1, 1, 1, []), (1, 2, 1, 8, []), bz, (1, 1, 0, 1, []), (40, 3, 169, 0, []), bz, bz, (1, 1, 0, 0, []), (6, 1, 2, 1, []), (1, 1, 0, 0, []), (6, 1, 3, 1, []), (3, 1, 3, 1, []), (5, 1, 0, 1, []), (25, 3, 109, 0, []), bz, bz, (1, 1, 0, 0, []), (27, 1, 0, 0, []), (22, 3, 114, 3, []), bz, bz, (1, 1, 0, 1, []), (6, 2, 4, 0, []), bz, (1, 1, 0, 0, []), (6, 2, 5, 0, []), bz, (3, 2, 5, 0, []), bz, (5, 1, 0, 1, []), (25, 3, 109, 0, []), bz, bz, (1, 1, 0, 1, []), (27, 1, 0, 0, []), (22, 3, 92, 3, []), bz, bz, (3, 2, 4, 0, []), bz, (21, 3, 83, 0, []), bz, bz, (5, 1, 0, 1, []), (3, 1, 3, 1, []), (3, 2, 5, 0, []), bz, (40, 3, 176, 0, []), bz, bz, (21, 3, 83, 0, []), bz, bz, (1, 1, 0, 1, []), (23, 3, 84, 0, []), bz, bz, (1, 1, 0, 0, []), (6, 2, 4, 0, []), bz, (9, 3, 5, 1, []), bz, bz, (23, 3, 53, 0, []), bz, bz, (3, 1, 2, 1, []), (3, 2, 4, 0, []), bz, (21, 3, 102, 1, []), bz, bz, (1, 1, 0, 1, []), (23, 3, 103, 0, []), bz, bz, (1, 1, 0, 0, []), (40, 3, 151, 0, []), bz, bz, (10, 1, 0, 0, []), (6, 1, 2, 1, []), (9, 3, 3, 1, []), bz, bz, (23, 3, 37, 0, []), bz, bz, (3, 1, 2, 1, []), (41, 1, 0, 0, [])]
def cd_X10_see : List bh_I := [(3, 1, 1, 1, []), (15, 1, 0, 0, []), (2, 1, 0, 0, []), (2, 3, 1, 65535, [292, 1411]), bz, bz, (40, 3, 138, 0, []), bz, bz, (21, 3, 14, 1, []), bz, bz, (1, 1, 0, (-1), []), (41, 1, 0, 0, []), (5, 1, 0, 1, []), (25, 3, 109, 0, []), bz, bz, (1, 1, 0, 2, []), (27, 1, 0, 0, []), (1, 2, 1, 16, []), bz, (22, 3, 28, 1, []), bz, bz, (1, 2, 1, (-3), []), bz, (41, 1, 0, 0, []), (5, 1, 0, 1, []), (40, 3, 168, 0, []), bz, bz, (5, 1, 0, 1, []), (25, 3, 109, 0, []), bz, bz, (1, 3, 2, 544, []), bz, bz, (5, 1, 0, 1, []), (25, 3, 109, 0, []), bz, bz, (1, 1, 0, 2, []), (27, 1, 0, 0, []), (10, 1, 0, 0, []), (3, 1, 1, 1, []), (28, 1, 0, 0, []), (5, 1, 0, 1, []), (25, 3, 109, 0, []), bz, bz, (1, 1, 0, 2, []), (20, 1, 0, 0, []), (27, 1, 0, 0, []), (1, 1, 0, 1, []), (10, 1, 0, 0, []), (28, 1, 0, 0, []), (5, 1, 0, 1, []), (25, 3, 109, 0, []), bz, bz, (1, 1, 0, 2, []), (27, 1, 0, 0, []), (41, 1, 0, 0, [])]
def cd_X10_forget : List bh_I := [(5, 1, 0, 1, []), (25, 3, 109, 0, []), bz, bz, (1, 1, 0, 2, []), (27, 1, 0, 0, []), (21, 3, 11, 1, []), bz, bz, (1, 1, 0, (-1), []), (41, 1, 0, 0, []), (5, 1, 0, 1, []), (40, 3, 168, 0, []), bz, bz, (5, 1, 0, 1, []), (25, 3, 109, 0, []), bz, bz, (1, 1, 0, 2, []), (27, 1, 0, 0, []), (6, 1, 1, 1, []), (5, 1, 0, 1, []), (25, 3, 109, 0, []), bz, bz, (1, 1, 0, 2, []), (1, 1, 0, 0, []), (28, 1, 0, 0, []), (3, 1, 1, 1, []), (41, 1, 0, 0, [])]
def cd_X10_overWhom : List bh_I := [(1, 1, 0, 0, []), (6, 1, 2, 1, []), (1, 1, 0, 0, []), (6, 1, 3, 1, []), (3, 1, 3, 1, []), (5, 1, 0, 1, []), (25, 3, 109, 0, []), bz, bz, (1, 1, 0, 0, []), (27, 1, 0, 0, []), (22, 3, 39, 3, []), bz, bz, (3, 1, 2, 1, []), (5, 1, 0, 1, []), (3, 1, 3, 1, []), (40, 3, 157, 0, []), bz, bz, (3, 1, 1, 1, []), (22, 3, 30, 1, []), bz, bz, (1, 1, 0, 1, []), (3, 1, 3, 1, []), (10, 1, 6, 0, []), (23, 3, 31, 0, []), bz, bz, (1, 1, 0, 0, []), (10, 1, 4, 0, []), (6, 1, 2, 1, []), (9, 3, 3, 1, []), bz, bz, (23, 3, 4, 0, []), bz, bz, (3, 1, 2, 1, []), (41, 1, 0, 0, [])]
def cd_X10_writer : List bh_I := [(5, 1, 0, 1, []), (3, 1, 1, 1, []), (40, 3, 167, 0, []), bz, bz, (21, 3, 12, 1, []), bz, bz, (1, 3, 4, (-2147483648), [296, 1420]), bz, bz, (41, 1, 0, 0, []), (3, 1, 2, 1, []), (24, 67, 211, 0, [80, 87, 94, 117, 141, 147, 153, 166, 173, 181, 189, 197, 205]), bz, bz, bz, bz, bz, bz, bz, bz, bz, bz, bz, bz, bz, bz, bz, bz, bz, bz, bz, bz, bz, bz, bz, bz, bz, bz, bz, bz, bz, bz, bz, bz, bz, bz, bz, bz, bz, bz, bz, bz, bz, bz, bz, bz, bz, bz, bz, bz, bz, bz, bz, bz, bz, bz, bz, bz, bz, bz, bz, bz, bz, bz, bz, bz, bz, bz, (5, 1, 0, 1, []), (3, 1, 1, 1, []), (1, 1, 0, 0, []), (40, 3, 153, 0, []), bz, bz, (41, 1, 0, 0, []), (5, 1, 0, 1, []), (3, 1, 1, 1, []), (1, 1, 0, 1, []), (40, 3, 153, 0, []), bz, bz, (41, 1, 0, 0, []), (5, 1, 0, 1, []), (3, 1, 1, 1, []), (1, 1, 0, 1, []), (40, 3, 153, 0, []), bz, bz, (40, 3, 145, 0, []), bz, bz, (21, 3, 115, 5, []), bz, bz, (5, 1, 0, 1, []), (3, 1, 1, 1, []), (1, 1, 0, 2, []), (40, 3, 153, 0, []), bz, bz, (23, 3, 116, 0, []), bz, bz, (1, 1, 0, (-1), []), (41, 1, 0, 0, []), (5, 1, 0, 1, []), (3, 1, 1, 1, []), (1, 1, 0, 1, []), (40, 3, 153, 0, []), bz, bz, (40, 3, 145, 0, []), bz, bz, (1, 1, 0, 1, []), (22, 3, 139, 5, []), bz, bz, (5, 1, 0, 1, []), (3, 1, 1, 1, []), (1, 1, 0, 3, []), (40, 3, 153, 0, []), bz, bz, (23, 3, 140, 0, []), bz, bz, (1, 1, 0, (-1), []), (41, 1, 0, 0, []), (5, 1, 0, 1, []), (3, 1, 1, 1, []), (40, 3, 157, 0, []), bz, bz, (41, 1, 0, 0, []), (5, 1, 0, 1, []), (3, 1, 1, 1, []), (40, 3, 161, 0, []), bz, bz, (41, 1, 0, 0, []), (5, 1, 0, 1, []), (25, 3, 120, 0, []), bz, bz, (5, 1, 0, 1, []), (3, 1, 1, 1, []), (40, 3, 161, 0, []), bz, bz, (1, 1, 0, 1, []), (10, 1, 1, 0, []), (27, 1, 0, 0, []), (41, 1, 0, 0, []), (5, 1, 0, 1, []), (3, 1, 1, 1, []), (1, 1, 0, 5, []), (40, 3, 153, 0, []), bz, bz, (41, 1, 0, 0, []), (5, 1, 0, 1, []), (3, 1, 1, 1, []), (1, 2, 1, 6, []), bz, (40, 3, 153, 0, []), bz, bz, (41, 1, 0, 0, []), (5, 1, 0, 1, []), (3, 1, 1, 1, []), (1, 2, 1, 7, []), bz, (40, 3, 153, 0, []), bz, bz, (41, 1, 0, 0, []), (5, 1, 0, 1, []), (3, 1, 1, 1, []), (1, 2, 1, 8, []), bz, (40, 3, 153, 0, []), bz, bz, (41, 1, 0, 0, []), (5, 1, 0, 1, []), (3, 1, 1, 1, []), (1, 2, 1, 9, []), bz, (40, 3, 153, 0, []), bz, bz, (41, 1, 0, 0, []), (5, 1, 0, 1, []), (3, 1, 1, 1, []), (40, 3, 177, 0, []), bz, bz, (41, 1, 0, 0, []), (1, 3, 4, (-2147483648), [296, 1420]), bz, bz, (41, 1, 0, 0, [])]
def cd_X10_page : List bh_I := [(5, 1, 0, 1, []), (3, 1, 1, 1, []), (3, 1, 2, 1, []), (40, 3, 178, 0, []), bz, bz, (21, 3, 18, 0, []), bz, bz, (5, 1, 0, 1, []), (3, 1, 1, 1, []), (3, 1, 2, 1, []), (40, 3, 162, 0, []), bz, bz, (23, 3, 19, 0, []), bz, bz, (1, 1, 0, (-1), []), (41, 1, 0, 0, [])]
def cd_X10_line : List bh_I := [(5, 1, 0, 1, []), (3, 1, 1, 1, []), (40, 3, 167, 0, []), bz, bz, (21, 3, 27, 0, []), bz, bz, (5, 1, 0, 1, []), (3, 1, 2, 1, []), (3, 1, 3, 1, []), (40, 3, 178, 0, []), bz, bz, (21, 3, 27, 0, []), bz, bz, (5, 1, 0, 1, []), (3, 1, 1, 1, []), (3, 1, 2, 1, []), (3, 1, 3, 1, []), (40, 3, 175, 0, []), bz, bz, (23, 3, 28, 0, []), bz, bz, (1, 1, 0, (-1), []), (41, 1, 0, 0, [])]
def cd_X10_brings : List bh_I := [(5, 1, 0, 1, []), (25, 3, 123, 0, []), bz, bz, (3, 1, 2, 1, []), (5, 1, 0, 1, []), (25, 3, 125, 0, []), bz, bz, (3, 1, 1, 1, []), (27, 1, 0, 0, []), (28, 1, 0, 0, []), (5, 1, 0, 1, []), (25, 3, 124, 0, []), bz, bz, (3, 1, 2, 1, []), (5, 1, 0, 1, []), (25, 3, 126, 0, []), bz, bz, (3, 1, 1, 1, []), (27, 1, 0, 0, []), (28, 1, 0, 0, []), (44, 1, 0, 0, [])]
def cd_X10_traces : List bh_I := [(1, 1, 0, 0, []), (6, 2, 4, 0, []), bz, (3, 2, 4, 0, []), bz, (1, 2, 1, 16, []), bz, (22, 3, 44, 3, []), bz, bz, (5, 1, 0, 1, []), (25, 3, 125, 0, []), bz, bz, (3, 2, 4, 0, []), bz, (5, 1, 0, 1, []), (25, 3, 123, 0, []), bz, bz, (3, 2, 4, 0, []), bz, (27, 1, 0, 0, []), (28, 1, 0, 0, []), (5, 1, 0, 1, []), (25, 3, 126, 0, []), bz, bz, (3, 2, 4, 0, []), bz, (5, 1, 0, 1, []), (25, 3, 124, 0, []), bz, bz, (3, 2, 4, 0, []), bz, (27, 1, 0, 0, []), (28, 1, 0, 0, []), (9, 3, 4, 1, []), bz, bz, (23, 3, 3, 0, []), bz, bz, (5, 1, 0, 1, []), (3, 1, 1, 1, []), (1, 1, 0, 1, []), (40, 3, 153, 0, []), bz, bz, (6, 2, 4, 0, []), bz, (5, 1, 0, 1, []), (3, 1, 1, 1, []), (1, 1, 0, 2, []), (40, 3, 153, 0, []), bz, bz, (6, 2, 5, 0, []), bz, (5, 1, 0, 1, []), (3, 1, 1, 1, []), (1, 1, 0, 3, []), (40, 3, 153, 0, []), bz, bz, (6, 2, 6, 0, []), bz, (3, 2, 4, 0, []), bz, (24, 38, 245, 1, [108, 119, 119, 153, 186, 205]), bz, bz, bz, bz, bz, bz, bz, bz, bz, bz, bz, bz, bz, bz, bz, bz, bz, bz, bz, bz, bz, bz, bz, bz, bz, bz, bz, bz, bz, bz, bz, bz, bz, bz, bz, bz, bz, (5, 1, 0, 1, []), (25, 3, 124, 0, []), bz, bz, (3, 2, 5, 0, []), bz, (3, 1, 1, 1, []), (28, 1, 0, 0, []), (23, 3, 245, 0, []), bz, bz, (5, 1, 0, 1, []), (25, 3, 123, 0, []), bz, bz, (3, 2, 5, 0, []), bz, (1, 1, 0, (-1), []), (28, 1, 0, 0, []), (5, 1, 0, 1, []), (25, 3, 124, 0, []), bz, bz, (3, 2, 5, 0, []), bz, (3, 1, 2, 1, []), (3, 1, 3, 1, []), (22, 3, 142, 0, []), bz, bz, (3, 1, 1, 1, []), (23, 3, 149, 0, []), bz, bz, (5, 1, 0, 1, []), (25, 3, 124, 0, []), bz, bz, (3, 2, 5, 0, []), bz, (27, 1, 0, 0, []), (28, 1, 0, 0, []), (23, 3, 245, 0, []), bz, bz, (1, 1, 0, 0, []), (6, 2, 7, 0, []), bz, (3, 2, 7, 0, []), bz, (1, 2, 1, 16, []), bz, (22, 3, 183, 3, []), bz, bz, (5, 1, 0, 1, []), (3, 2, 7, 0, []), bz, (3, 2, 7, 0, []), bz, (3, 2, 5, 0, []), bz, (10, 1, 0, 0, []), (1, 2, 1, 16, []), bz, (12, 1, 0, 0, []), (40, 3, 179, 0, []), bz, bz, (9, 3, 7, 1, []), bz, bz, (23, 3, 156, 0, []), bz, bz, (23, 3, 245, 0, []), bz, bz, (5, 1, 0, 1, []), (3, 2, 5, 0, []), bz, (3, 2, 6, 0, []), bz, (40, 3, 179, 0, []), bz, bz, (5, 1, 0, 1, []), (3, 2, 6, 0, []), bz, (3, 2, 5, 0, []), bz, (40, 3, 179, 0, []), bz, bz, (23, 3, 245, 0, []), bz, bz, (5, 1, 0, 1, []), (25, 3, 123, 0, []), bz, bz, (3, 2, 6, 0, []), bz, (5, 1, 0, 1, []), (25, 3, 125, 0, []), bz, bz, (3, 2, 5, 0, []), bz, (27, 1, 0, 0, []), (28, 1, 0, 0, []), (5, 1, 0, 1, []), (25, 3, 124, 0, []), bz, bz, (3, 2, 6, 0, []), bz, (3, 1, 2, 1, []), (3, 1, 3, 1, []), (22, 3, 234, 0, []), bz, bz, (3, 1, 1, 1, []), (23, 3, 241, 0, []), bz, bz, (5, 1, 0, 1, []), (25, 3, 124, 0, []), bz, bz, (3, 2, 6, 0, []), bz, (27, 1, 0, 0, []), (28, 1, 0, 0, []), (23, 3, 245, 0, []), bz, bz, (44, 1, 0, 0, [])]
def cd_X10_laysTrace : List bh_I := [(1, 1, 0, 0, []), (6, 2, 4, 0, []), bz, (3, 2, 4, 0, []), bz, (1, 2, 1, 16, []), bz, (22, 3, 33, 3, []), bz, bz, (5, 1, 0, 1, []), (25, 3, 123, 0, []), bz, bz, (3, 2, 4, 0, []), bz, (3, 2, 4, 0, []), bz, (28, 1, 0, 0, []), (5, 1, 0, 1, []), (25, 3, 124, 0, []), bz, bz, (3, 2, 4, 0, []), bz, (1, 1, 0, (-1), []), (28, 1, 0, 0, []), (9, 3, 4, 1, []), bz, bz, (23, 3, 3, 0, []), bz, bz, (5, 1, 0, 1, []), (3, 1, 2, 1, []), (3, 1, 3, 1, []), (40, 3, 162, 0, []), bz, bz, (6, 2, 4, 0, []), bz, (5, 1, 0, 1, []), (3, 1, 1, 1, []), (40, 3, 161, 0, []), bz, bz, (1, 1, 0, 1, []), (10, 1, 1, 0, []), (6, 2, 5, 0, []), bz, (3, 2, 5, 0, []), bz, (21, 3, 115, 2, []), bz, bz, (5, 1, 0, 1, []), (5, 1, 0, 1, []), (25, 3, 120, 0, []), bz, bz, (3, 2, 5, 0, []), bz, (27, 1, 0, 0, []), (1, 2, 1, 7, []), bz, (40, 3, 153, 0, []), bz, bz, (1, 1, 0, 1, []), (22, 3, 75, 1, []), bz, bz, (23, 3, 109, 0, []), bz, bz, (5, 1, 0, 1, []), (5, 1, 0, 1, []), (25, 3, 120, 0, []), bz, bz, (3, 2, 5, 0, []), bz, (27, 1, 0, 0, []), (3, 2, 4, 0, []), bz, (40, 3, 160, 0, []), bz, bz, (6, 2, 6, 0, []), bz, (5, 1, 0, 1, []), (5, 1, 0, 1, []), (25, 3, 120, 0, []), bz, bz, (3, 2, 5, 0, []), bz, (27, 1, 0, 0, []), (3, 2, 4, 0, []), bz, (3, 2, 6, 0, []), bz, (40, 3, 180, 0, []), bz, bz, (3, 2, 6, 0, []), bz, (6, 2, 4, 0, []), bz, (9, 3, 5, (-1), []), bz, bz, (23, 3, 50, 0, []), bz, bz, (44, 1, 0, 0, [])]
def cd_X10_trace : List bh_I := [(5, 1, 0, 1, []), (3, 1, 1, 1, []), (40, 3, 167, 0, []), bz, bz, (21, 3, 41, 0, []), bz, bz, (5, 1, 0, 1, []), (3, 1, 2, 1, []), (3, 1, 3, 1, []), (40, 3, 178, 0, []), bz, bz, (21, 3, 41, 0, []), bz, bz, (3, 2, 4, 0, []), bz, (15, 1, 0, 0, []), (2, 1, 0, 0, []), (2, 3, 1, 15, [259, 1320]), bz, bz, (40, 3, 138, 0, []), bz, bz, (21, 3, 41, 0, []), bz, bz, (3, 2, 5, 0, []), bz, (15, 1, 0, 0, []), (2, 1, 0, 0, []), (2, 1, 0, 1, []), (40, 3, 138, 0, []), bz, bz, (21, 3, 44, 1, []), bz, bz, (1, 2, 1, (-3), []), bz, (41, 1, 0, 0, []), (5, 1, 0, 1, []), (3, 1, 1, 1, []), (40, 3, 181, 0, []), bz, bz, (21, 3, 55, 0, []), bz, bz, (1, 2, 1, (-2), []), bz, (41, 1, 0, 0, []), (5, 1, 0, 1, []), (3, 1, 1, 1, []), (3, 1, 2, 1, []), (3, 1, 3, 1, []), (40, 3, 182, 0, []), bz, bz, (3, 2, 5, 0, []), bz, (21, 3, 77, 1, []), bz, bz, (5, 1, 0, 1, []), (25, 3, 123, 0, []), bz, bz, (3, 2, 4, 0, []), bz, (27, 1, 0, 0, []), (23, 3, 84, 0, []), bz, bz, (5, 1, 0, 1, []), (25, 3, 124, 0, []), bz, bz, (3, 2, 4, 0, []), bz, (27, 1, 0, 0, []), (41, 1, 0, 0, [])]
def cd_X10_own : List bh_I := [(5, 1, 0, 1, []), (3, 1, 1, 1, []), (40, 3, 167, 0, []), bz, bz, (21, 3, 17, 0, []), bz, bz, (5, 1, 0, 1, []), (3, 1, 2, 1, []), (3, 1, 3, 1, []), (40, 3, 178, 0, []), bz, bz, (21, 3, 19, 1, []), bz, bz, (1, 1, 0, (-1), []), (41, 1, 0, 0, []), (5, 1, 0, 1, []), (3, 1, 1, 1, []), (40, 3, 181, 0, []), bz, bz, (21, 3, 30, 0, []), bz, bz, (1, 2, 1, (-2), []), bz, (41, 1, 0, 0, []), (5, 1, 0, 1, []), (3, 1, 1, 1, []), (3, 1, 2, 1, []), (3, 1, 3, 1, []), (40, 3, 182, 0, []), bz, bz, (1, 1, 0, 0, []), (6, 2, 4, 0, []), bz, (1, 1, 0, 0, []), (6, 2, 5, 0, []), bz, (3, 2, 5, 0, []), bz, (1, 2, 1, 16, []), bz, (22, 3, 80, 3, []), bz, bz, (3, 2, 4, 0, []), bz, (5, 1, 0, 1, []), (25, 3, 124, 0, []), bz, bz, (3, 2, 5, 0, []), bz, (27, 1, 0, 0, []), (3, 1, 1, 1, []), (22, 3, 70, 1, []), bz, bz, (1, 1, 0, 1, []), (3, 2, 5, 0, []), bz, (10, 1, 6, 0, []), (23, 3, 71, 0, []), bz, bz, (1, 1, 0, 0, []), (10, 1, 4, 0, []), (6, 2, 4, 0, []), bz, (9, 3, 5, 1, []), bz, bz, (23, 3, 43, 0, []), bz, bz, (3, 2, 4, 0, []), bz, (41, 1, 0, 0, [])]
def cd_X10_pay : List bh_I := [(5, 1, 0, 1, []), (3, 1, 1, 1, []), (40, 3, 167, 0, []), bz, bz, (21, 3, 17, 0, []), bz, bz, (5, 1, 0, 1, []), (3, 1, 2, 1, []), (3, 1, 3, 1, []), (40, 3, 178, 0, []), bz, bz, (21, 3, 19, 1, []), bz, bz, (1, 1, 0, (-1), []), (41, 1, 0, 0, []), (5, 1, 0, 1, []), (3, 1, 1, 1, []), (40, 3, 181, 0, []), bz, bz, (21, 3, 30, 0, []), bz, bz, (1, 2, 1, (-2), []), bz, (41, 1, 0, 0, []), (5, 1, 0, 1, []), (3, 1, 1, 1, []), (3, 1, 2, 1, []), (3, 1, 3, 1, []), (40, 3, 182, 0, []), bz, bz, (5, 1, 0, 1, []), (3, 1, 1, 1, []), (40, 3, 161, 0, []), bz, bz, (6, 2, 4, 0, []), bz, (1, 1, 0, 0, []), (6, 2, 5, 0, []), bz, (1, 1, 0, 0, []), (6, 2, 6, 0, []), bz, (3, 2, 6, 0, []), bz, (3, 2, 4, 0, []), bz, (22, 3, 119, 3, []), bz, bz, (1, 1, 0, 0, []), (6, 2, 7, 0, []), bz, (3, 2, 7, 0, []), bz, (1, 2, 1, 16, []), bz, (22, 3, 103, 3, []), bz, bz, (3, 2, 5, 0, []), bz, (5, 1, 0, 1, []), (25, 3, 124, 0, []), bz, bz, (3, 2, 7, 0, []), bz, (27, 1, 0, 0, []), (5, 1, 0, 1, []), (25, 3, 120, 0, []), bz, bz, (3, 2, 6, 0, []), bz, (27, 1, 0, 0, []), (22, 3, 90, 1, []), bz, bz, (1, 1, 0, 1, []), (23, 3, 91, 0, []), bz, bz, (1, 1, 0, 0, []), (40, 3, 151, 0, []), bz, bz, (10, 1, 0, 0, []), (6, 2, 5, 0, []), bz, (9, 3, 7, 1, []), bz, bz, (23, 3, 60, 0, []), bz, bz, (3, 2, 5, 0, []), bz, (1, 2, 1, 8, []), bz, (22, 3, 113, 2, []), bz, bz, (3, 2, 6, 0, []), bz, (41, 1, 0, 0, []), (9, 3, 6, 1, []), bz, bz, (23, 3, 50, 0, []), bz, bz, (1, 2, 1, (-2), []), bz, (41, 1, 0, 0, [])]
def cd_X10_laysSource : List bh_I := [(1, 1, 0, 0, []), (6, 1, 2, 1, []), (3, 1, 2, 1, []), (1, 2, 1, 16, []), bz, (22, 3, 23, 3, []), bz, bz, (5, 1, 0, 1, []), (25, 3, 127, 0, []), bz, bz, (3, 1, 2, 1, []), (1, 1, 0, 2, []), (3, 1, 2, 1, []), (10, 1, 2, 0, []), (28, 1, 0, 0, []), (9, 3, 2, 1, []), bz, bz, (23, 3, 2, 0, []), bz, bz, (5, 1, 0, 1, []), (3, 1, 1, 1, []), (40, 3, 161, 0, []), bz, bz, (1, 1, 0, 1, []), (10, 1, 1, 0, []), (6, 1, 2, 1, []), (3, 1, 2, 1, []), (21, 3, 93, 2, []), bz, bz, (5, 1, 0, 1, []), (5, 1, 0, 1, []), (25, 3, 120, 0, []), bz, bz, (3, 1, 2, 1, []), (27, 1, 0, 0, []), (1, 2, 1, 7, []), bz, (40, 3, 153, 0, []), bz, bz, (21, 3, 87, 1, []), bz, bz, (5, 1, 0, 1, []), (5, 1, 0, 1, []), (5, 1, 0, 1, []), (25, 3, 120, 0, []), bz, bz, (3, 1, 2, 1, []), (27, 1, 0, 0, []), (1, 1, 0, 1, []), (40, 3, 153, 0, []), bz, bz, (5, 1, 0, 1, []), (5, 1, 0, 1, []), (25, 3, 120, 0, []), bz, bz, (3, 1, 2, 1, []), (27, 1, 0, 0, []), (1, 1, 0, 2, []), (40, 3, 153, 0, []), bz, bz, (5, 1, 0, 1, []), (5, 1, 0, 1, []), (25, 3, 120, 0, []), bz, bz, (3, 1, 2, 1, []), (27, 1, 0, 0, []), (1, 1, 0, 3, []), (40, 3, 153, 0, []), bz, bz, (40, 3, 183, 0, []), bz, bz, (9, 3, 2, (-1), []), bz, bz, (23, 3, 31, 0, []), bz, bz, (44, 1, 0, 0, [])]
def cd_X10_leads : List bh_I := [(1, 1, 0, 0, []), (6, 2, 4, 0, []), bz, (3, 2, 4, 0, []), bz, (1, 2, 1, 16, []), bz, (22, 3, 30, 3, []), bz, bz, (5, 1, 0, 1, []), (25, 3, 128, 0, []), bz, bz, (3, 2, 4, 0, []), bz, (5, 1, 0, 1, []), (25, 3, 127, 0, []), bz, bz, (3, 2, 4, 0, []), bz, (27, 1, 0, 0, []), (28, 1, 0, 0, []), (9, 3, 4, 1, []), bz, bz, (23, 3, 3, 0, []), bz, bz, (3, 1, 1, 1, []), (24, 37, 182, 1, [68, 81, 91, 102, 140, 167]), bz, bz, bz, bz, bz, bz, bz, bz, bz, bz, bz, bz, bz, bz, bz, bz, bz, bz, bz, bz, bz, bz, bz, bz, bz, bz, bz, bz, bz, bz, bz, bz, bz, bz, bz, bz, (5, 1, 0, 1, []), (25, 3, 127, 0, []), bz, bz, (3, 1, 2, 1, []), (20, 1, 0, 0, []), (27, 1, 0, 0, []), (1, 1, 0, 1, []), (10, 1, 5, 0, []), (28, 1, 0, 0, []), (23, 3, 182, 0, []), bz, bz, (5, 1, 0, 1, []), (25, 3, 127, 0, []), bz, bz, (3, 1, 2, 1, []), (1, 1, 0, (-1), []), (28, 1, 0, 0, []), (23, 3, 182, 0, []), bz, bz, (5, 1, 0, 1, []), (25, 3, 127, 0, []), bz, bz, (3, 1, 2, 1, []), (1, 2, 1, (-2), []), bz, (28, 1, 0, 0, []), (23, 3, 182, 0, []), bz, bz, (1, 1, 0, 0, []), (6, 2, 4, 0, []), bz, (3, 2, 4, 0, []), bz, (1, 2, 1, 16, []), bz, (22, 3, 137, 3, []), bz, bz, (5, 1, 0, 1, []), (25, 3, 127, 0, []), bz, bz, (3, 2, 4, 0, []), bz, (3, 1, 2, 1, []), (10, 1, 0, 0, []), (1, 2, 1, 16, []), bz, (12, 1, 0, 0, []), (5, 1, 0, 1, []), (25, 3, 128, 0, []), bz, bz, (3, 2, 4, 0, []), bz, (27, 1, 0, 0, []), (28, 1, 0, 0, []), (9, 3, 4, 1, []), bz, bz, (23, 3, 105, 0, []), bz, bz, (23, 3, 182, 0, []), bz, bz, (5, 1, 0, 1, []), (25, 3, 127, 0, []), bz, bz, (3, 1, 2, 1, []), (5, 1, 0, 1, []), (25, 3, 128, 0, []), bz, bz, (3, 1, 3, 1, []), (27, 1, 0, 0, []), (28, 1, 0, 0, []), (5, 1, 0, 1, []), (25, 3, 127, 0, []), bz, bz, (3, 1, 3, 1, []), (5, 1, 0, 1, []), (25, 3, 128, 0, []), bz, bz, (3, 1, 2, 1, []), (27, 1, 0, 0, []), (28, 1, 0, 0, []), (23, 3, 182, 0, []), bz, bz, (5, 1, 0, 1, []), (25, 3, 127, 0, []), bz, bz, (3, 1, 3, 1, []), (5, 1, 0, 1, []), (25, 3, 128, 0, []), bz, bz, (3, 1, 2, 1, []), (27, 1, 0, 0, []), (28, 1, 0, 0, []), (23, 3, 182, 0, []), bz, bz, (44, 1, 0, 0, [])]
def cd_X10_alike : List bh_I := [(5, 1, 0, 1, []), (3, 1, 1, 1, []), (40, 3, 167, 0, []), bz, bz, (21, 3, 16, 0, []), bz, bz, (5, 1, 0, 1, []), (3, 1, 2, 1, []), (40, 3, 167, 0, []), bz, bz, (21, 3, 18, 1, []), bz, bz, (1, 1, 0, (-1), []), (41, 1, 0, 0, []), (5, 1, 0, 1, []), (3, 1, 1, 1, []), (40, 3, 184, 0, []), bz, bz, (1, 1, 0, 0, []), (6, 1, 3, 1, []), (3, 1, 3, 1, []), (1, 2, 1, 16, []), bz, (22, 3, 49, 3, []), bz, bz, (5, 1, 0, 1, []), (25, 3, 129, 0, []), bz, bz, (3, 1, 3, 1, []), (5, 1, 0, 1, []), (25, 3, 127, 0, []), bz, bz, (3, 1, 3, 1, []), (27, 1, 0, 0, []), (28, 1, 0, 0, []), (9, 3, 3, 1, []), bz, bz, (23, 3, 25, 0, []), bz, bz, (5, 1, 0, 1, []), (3, 1, 2, 1, []), (40, 3, 184, 0, []), bz, bz, (1, 1, 0, 0, []), (6, 1, 3, 1, []), (3, 1, 3, 1, []), (1, 2, 1, 16, []), bz, (22, 3, 85, 3, []), bz, bz, (5, 1, 0, 1, []), (25, 3, 129, 0, []), bz, bz, (3, 1, 3, 1, []), (27, 1, 0, 0, []), (5, 1, 0, 1, []), (25, 3, 127, 0, []), bz, bz, (3, 1, 3, 1, []), (27, 1, 0, 0, []), (22, 3, 79, 0, []), bz, bz, (1, 1, 0, 0, []), (41, 1, 0, 0, []), (9, 3, 3, 1, []), bz, bz, (23, 3, 56, 0, []), bz, bz, (1, 1, 0, 1, []), (41, 1, 0, 0, [])]
def cd_X10_fits : List bh_I := [(3, 1, 1, 1, []), (15, 1, 0, 0, []), (2, 1, 0, 0, []), (2, 3, 1, 65535, [292, 1411]), bz, bz, (40, 3, 138, 0, []), bz, bz, (21, 3, 17, 0, []), bz, bz, (3, 1, 2, 1, []), (1, 1, 0, (-1), []), (22, 3, 19, 3, []), bz, bz, (1, 1, 0, (-1), []), (41, 1, 0, 0, []), (1, 1, 0, 0, []), (6, 1, 3, 1, []), (1, 1, 0, 0, []), (6, 2, 4, 0, []), bz, (3, 2, 4, 0, []), bz, (1, 2, 1, 32, []), bz, (5, 1, 0, 1, []), (25, 3, 109, 0, []), bz, bz, (1, 1, 0, 0, []), (27, 1, 0, 0, []), (10, 1, 2, 0, []), (22, 3, 101, 3, []), bz, bz, (3, 2, 4, 0, []), bz, (1, 2, 1, 8, []), bz, (11, 1, 0, 0, []), (1, 1, 0, 4, []), (12, 1, 0, 0, []), (6, 2, 5, 0, []), bz, (5, 1, 0, 1, []), (3, 2, 5, 0, []), bz, (3, 2, 4, 0, []), bz, (1, 2, 1, 8, []), bz, (12, 1, 0, 0, []), (40, 3, 178, 0, []), bz, bz, (21, 3, 95, 0, []), bz, bz, (5, 1, 0, 1, []), (3, 2, 4, 0, []), bz, (1, 2, 1, 32, []), bz, (11, 1, 0, 0, []), (3, 2, 5, 0, []), bz, (3, 2, 4, 0, []), bz, (1, 2, 1, 8, []), bz, (12, 1, 0, 0, []), (40, 3, 175, 0, []), bz, bz, (3, 1, 1, 1, []), (22, 3, 84, 0, []), bz, bz, (23, 3, 95, 0, []), bz, bz, (3, 1, 3, 1, []), (3, 1, 2, 1, []), (22, 3, 92, 1, []), bz, bz, (3, 2, 4, 0, []), bz, (41, 1, 0, 0, []), (9, 3, 3, 1, []), bz, bz, (9, 3, 4, 1, []), bz, bz, (23, 3, 24, 0, []), bz, bz, (3, 1, 2, 1, []), (1, 1, 0, (-1), []), (22, 3, 110, 1, []), bz, bz, (3, 1, 3, 1, []), (23, 3, 112, 0, []), bz, bz, (1, 2, 1, (-2), []), bz, (41, 1, 0, 0, [])]
def cd_X10_likeliest : List bh_I := [(3, 1, 1, 1, []), (15, 1, 0, 0, []), (2, 1, 0, 0, []), (2, 3, 1, 65535, [292, 1411]), bz, bz, (40, 3, 138, 0, []), bz, bz, (21, 3, 22, 0, []), bz, bz, (3, 1, 2, 1, []), (15, 1, 0, 0, []), (2, 1, 0, 0, []), (2, 1, 0, 1, []), (40, 3, 138, 0, []), bz, bz, (21, 3, 24, 1, []), bz, bz, (1, 1, 0, (-1), []), (41, 1, 0, 0, []), (1, 2, 1, (-2), []), bz, (6, 1, 3, 1, []), (1, 2, 1, (-2), []), bz, (6, 2, 4, 0, []), bz, (1, 1, 0, 0, []), (6, 2, 5, 0, []), bz, (3, 2, 5, 0, []), bz, (1, 2, 1, 32, []), bz, (5, 1, 0, 1, []), (25, 3, 109, 0, []), bz, bz, (1, 1, 0, 0, []), (27, 1, 0, 0, []), (10, 1, 2, 0, []), (22, 3, 139, 3, []), bz, bz, (3, 2, 5, 0, []), bz, (1, 2, 1, 8, []), bz, (11, 1, 0, 0, []), (1, 1, 0, 4, []), (12, 1, 0, 0, []), (6, 2, 6, 0, []), bz, (5, 1, 0, 1, []), (3, 2, 6, 0, []), bz, (3, 2, 5, 0, []), bz, (1, 2, 1, 8, []), bz, (12, 1, 0, 0, []), (40, 3, 178, 0, []), bz, bz, (21, 3, 90, 0, []), bz, bz, (5, 1, 0, 1, []), (3, 2, 5, 0, []), bz, (1, 2, 1, 32, []), bz, (11, 1, 0, 0, []), (3, 2, 6, 0, []), bz, (3, 2, 5, 0, []), bz, (1, 2, 1, 8, []), bz, (12, 1, 0, 0, []), (40, 3, 175, 0, []), bz, bz, (23, 3, 92, 0, []), bz, bz, (1, 2, 1, (-2), []), bz, (6, 2, 7, 0, []), bz, (3, 2, 7, 0, []), bz, (1, 2, 1, (-2), []), bz, (22, 3, 104, 1, []), bz, bz, (23, 3, 133, 0, []), bz, bz, (3, 2, 7, 0, []), bz, (3, 1, 1, 1, []), (10, 1, 5, 0, []), (40, 3, 185, 0, []), bz, bz, (6, 2, 8, 0, []), bz, (3, 1, 3, 1, []), (1, 2, 1, (-2), []), bz, (22, 3, 126, 0, []), bz, bz, (3, 2, 8, 0, []), bz, (3, 2, 4, 0, []), bz, (22, 3, 133, 3, []), bz, bz, (3, 2, 5, 0, []), bz, (6, 1, 3, 1, []), (3, 2, 8, 0, []), bz, (6, 2, 4, 0, []), bz, (9, 3, 5, 1, []), bz, bz, (23, 3, 34, 0, []), bz, bz, (3, 1, 2, 1, []), (21, 3, 147, 1, []), bz, bz, (3, 1, 3, 1, []), (23, 3, 149, 0, []), bz, bz, (3, 2, 4, 0, []), bz, (41, 1, 0, 0, [])]
def cd_X10_matches : List bh_I := [(5, 1, 0, 1, []), (3, 1, 1, 1, []), (40, 3, 167, 0, []), bz, bz, (21, 3, 20, 0, []), bz, bz, (3, 1, 2, 1, []), (15, 1, 0, 0, []), (2, 1, 0, 0, []), (2, 3, 1, 65535, [292, 1411]), bz, bz, (40, 3, 138, 0, []), bz, bz, (21, 3, 24, 1, []), bz, bz, (2, 3, 1, (-1), [324, 1490]), bz, bz, (42, 1, 0, 0, []), (2, 1, 0, 0, []), (7, 1, 3, 1, []), (1, 1, 0, 0, []), (6, 2, 5, 0, []), bz, (3, 2, 5, 0, []), bz, (1, 2, 1, 32, []), bz, (22, 3, 85, 3, []), bz, bz, (5, 1, 0, 1, []), (3, 2, 5, 0, []), bz, (1, 2, 1, 8, []), bz, (11, 1, 0, 0, []), (3, 2, 5, 0, []), bz, (1, 2, 1, 8, []), bz, (12, 1, 0, 0, []), (40, 3, 178, 0, []), bz, bz, (21, 3, 79, 0, []), bz, bz, (5, 1, 0, 1, []), (3, 1, 1, 1, []), (3, 2, 5, 0, []), bz, (1, 2, 1, 8, []), bz, (11, 1, 0, 0, []), (3, 2, 5, 0, []), bz, (1, 2, 1, 8, []), bz, (12, 1, 0, 0, []), (40, 3, 175, 0, []), bz, bz, (3, 1, 2, 1, []), (22, 3, 79, 1, []), bz, bz, (4, 1, 3, 1, []), (2, 1, 0, 1, []), (3, 2, 5, 0, []), bz, (14, 1, 0, 0, []), (13, 1, 2, 0, []), (7, 1, 3, 1, []), (9, 3, 5, 1, []), bz, bz, (23, 3, 29, 0, []), bz, bz, (4, 1, 3, 1, []), (42, 1, 0, 0, [])]
def cd_X10_seen : List bh_I := [(5, 1, 0, 1, []), (25, 3, 109, 0, []), bz, bz, (1, 3, 2, 544, []), bz, bz, (3, 1, 1, 1, []), (10, 1, 0, 0, []), (27, 1, 0, 0, []), (41, 1, 0, 0, [])]
def cd_X10_canTree : List bh_I := [(5, 1, 0, 1, []), (3, 1, 1, 1, []), (3, 1, 2, 1, []), (40, 3, 178, 0, []), bz, bz, (21, 3, 34, 0, []), bz, bz, (5, 1, 0, 1, []), (25, 3, 109, 0, []), bz, bz, (1, 1, 0, 2, []), (27, 1, 0, 0, []), (15, 1, 0, 0, []), (2, 1, 0, 1, []), (5, 1, 0, 1, []), (25, 3, 109, 0, []), bz, bz, (1, 1, 0, 0, []), (27, 1, 0, 0, []), (15, 1, 0, 0, []), (40, 3, 138, 0, []), bz, bz, (21, 3, 34, 0, []), bz, bz, (1, 1, 0, 1, []), (23, 3, 35, 0, []), bz, bz, (1, 1, 0, 0, []), (41, 1, 0, 0, [])]
def cd_X10_choices : List bh_I := [(5, 1, 0, 1, []), (3, 1, 1, 1, []), (5, 1, 0, 1, []), (3, 1, 2, 1, []), (3, 1, 3, 1, []), (40, 3, 162, 0, []), bz, bz, (40, 3, 160, 0, []), bz, bz, (5, 1, 0, 1, []), (3, 1, 1, 1, []), (40, 3, 186, 0, []), bz, bz, (22, 3, 25, 1, []), bz, bz, (1, 3, 2, 4096, []), bz, bz, (23, 3, 26, 0, []), bz, bz, (1, 1, 0, 0, []), (6, 2, 4, 0, []), bz, (1, 1, 0, 0, []), (6, 2, 5, 0, []), bz, (3, 2, 5, 0, []), bz, (5, 1, 0, 1, []), (25, 3, 109, 0, []), bz, bz, (1, 1, 0, 2, []), (27, 1, 0, 0, []), (22, 3, 96, 3, []), bz, bz, (3, 2, 4, 0, []), bz, (5, 1, 0, 1, []), (3, 2, 5, 0, []), bz, (1, 1, 0, 0, []), (40, 3, 153, 0, []), bz, bz, (5, 1, 0, 1, []), (3, 1, 1, 1, []), (1, 1, 0, 0, []), (40, 3, 153, 0, []), bz, bz, (22, 3, 86, 3, []), bz, bz, (5, 1, 0, 1, []), (3, 1, 1, 1, []), (5, 1, 0, 1, []), (3, 2, 5, 0, []), bz, (40, 3, 186, 0, []), bz, bz, (40, 3, 160, 0, []), bz, bz, (5, 1, 0, 1, []), (3, 1, 1, 1, []), (40, 3, 186, 0, []), bz, bz, (22, 3, 86, 1, []), bz, bz, (1, 1, 0, 1, []), (3, 2, 5, 0, []), bz, (10, 1, 6, 0, []), (23, 3, 87, 0, []), bz, bz, (1, 1, 0, 0, []), (10, 1, 4, 0, []), (6, 2, 4, 0, []), bz, (9, 3, 5, 1, []), bz, bz, (23, 3, 31, 0, []), bz, bz, (3, 2, 4, 0, []), bz, (41, 1, 0, 0, [])]
def cd_X10_trees : List bh_I := [(5, 1, 0, 1, []), (3, 1, 1, 1, []), (3, 1, 2, 1, []), (40, 3, 187, 0, []), bz, bz, (21, 3, 13, 1, []), bz, bz, (2, 3, 1, (-1), [324, 1490]), bz, bz, (42, 1, 0, 0, []), (2, 1, 0, 1, []), (7, 1, 3, 1, []), (1, 1, 0, 0, []), (6, 2, 5, 0, []), bz, (3, 2, 5, 0, []), bz, (5, 1, 0, 1, []), (25, 3, 109, 0, []), bz, bz, (1, 1, 0, 2, []), (27, 1, 0, 0, []), (22, 3, 50, 3, []), bz, bz, (4, 1, 3, 1, []), (5, 1, 0, 1, []), (3, 2, 5, 0, []), bz, (3, 1, 1, 1, []), (3, 1, 2, 1, []), (40, 3, 188, 0, []), bz, bz, (40, 3, 185, 0, []), bz, bz, (15, 1, 0, 0, []), (13, 1, 1, 0, []), (7, 1, 3, 1, []), (9, 3, 5, 1, []), bz, bz, (23, 3, 18, 0, []), bz, bz, (4, 1, 3, 1, []), (42, 1, 0, 0, [])]
def cd_X10_under_ : List bh_I := [(5, 1, 0, 1, []), (3, 1, 1, 1, []), (3, 1, 2, 1, []), (40, 3, 187, 0, []), bz, bz, (21, 3, 37, 0, []), bz, bz, (3, 1, 3, 1, []), (15, 1, 0, 0, []), (2, 1, 0, 0, []), (5, 1, 0, 1, []), (25, 3, 109, 0, []), bz, bz, (1, 1, 0, 2, []), (27, 1, 0, 0, []), (1, 1, 0, 1, []), (10, 1, 1, 0, []), (15, 1, 0, 0, []), (40, 3, 138, 0, []), bz, bz, (21, 3, 37, 0, []), bz, bz, (5, 1, 0, 1, []), (3, 1, 3, 1, []), (3, 1, 1, 1, []), (3, 1, 2, 1, []), (40, 3, 188, 0, []), bz, bz, (23, 3, 38, 0, []), bz, bz, (1, 1, 0, (-1), []), (41, 1, 0, 0, [])]
def cd_X10_couldBe : List bh_I := [(3, 1, 3, 1, []), (5, 1, 0, 1, []), (3, 1, 2, 1, []), (40, 3, 155, 0, []), bz, bz, (12, 1, 0, 0, []), (6, 2, 4, 0, []), bz, (5, 1, 0, 1, []), (3, 1, 1, 1, []), (5, 1, 0, 1, []), (3, 1, 2, 1, []), (3, 2, 4, 0, []), bz, (40, 3, 162, 0, []), bz, bz, (40, 3, 160, 0, []), bz, bz, (5, 1, 0, 1, []), (3, 1, 3, 1, []), (40, 3, 186, 0, []), bz, bz, (22, 3, 35, 1, []), bz, bz, (1, 3, 2, 4096, []), bz, bz, (23, 3, 36, 0, []), bz, bz, (1, 1, 0, 0, []), (6, 2, 5, 0, []), bz, (1, 1, 0, 0, []), (6, 2, 6, 0, []), bz, (3, 2, 6, 0, []), bz, (5, 1, 0, 1, []), (25, 3, 109, 0, []), bz, bz, (1, 1, 0, 0, []), (27, 1, 0, 0, []), (22, 3, 125, 3, []), bz, bz, (5, 1, 0, 1, []), (3, 2, 6, 0, []), bz, (1, 1, 0, 0, []), (40, 3, 153, 0, []), bz, bz, (5, 1, 0, 1, []), (3, 1, 1, 1, []), (1, 1, 0, 0, []), (40, 3, 153, 0, []), bz, bz, (22, 3, 80, 3, []), bz, bz, (5, 1, 0, 1, []), (3, 2, 6, 0, []), bz, (3, 1, 2, 1, []), (3, 2, 4, 0, []), bz, (40, 3, 175, 0, []), bz, bz, (23, 3, 82, 0, []), bz, bz, (1, 2, 1, (-2), []), bz, (6, 2, 7, 0, []), bz, (3, 2, 5, 0, []), bz, (3, 2, 7, 0, []), bz, (1, 2, 1, (-2), []), bz, (22, 3, 115, 0, []), bz, bz, (5, 1, 0, 1, []), (3, 1, 1, 1, []), (3, 2, 7, 0, []), bz, (40, 3, 160, 0, []), bz, bz, (5, 1, 0, 1, []), (3, 1, 3, 1, []), (40, 3, 186, 0, []), bz, bz, (22, 3, 115, 1, []), bz, bz, (1, 1, 0, 1, []), (3, 2, 6, 0, []), bz, (10, 1, 6, 0, []), (23, 3, 116, 0, []), bz, bz, (1, 1, 0, 0, []), (10, 1, 4, 0, []), (6, 2, 5, 0, []), bz, (9, 3, 6, 1, []), bz, bz, (23, 3, 41, 0, []), bz, bz, (3, 2, 5, 0, []), bz, (41, 1, 0, 0, [])]
def cd_X10_stretches : List bh_I := [(1, 1, 0, 0, []), (6, 1, 3, 1, []), (1, 1, 0, 0, []), (6, 2, 4, 0, []), bz, (3, 2, 4, 0, []), bz, (5, 1, 0, 1, []), (25, 3, 109, 0, []), bz, bz, (1, 1, 0, 2, []), (27, 1, 0, 0, []), (22, 3, 93, 3, []), bz, bz, (5, 1, 0, 1, []), (3, 1, 1, 1, []), (3, 1, 2, 1, []), (3, 2, 4, 0, []), bz, (40, 3, 189, 0, []), bz, bz, (6, 2, 5, 0, []), bz, (3, 2, 5, 0, []), bz, (21, 3, 34, 1, []), bz, bz, (1, 2, 1, (-2), []), bz, (41, 1, 0, 0, []), (3, 1, 3, 1, []), (21, 3, 68, 5, []), bz, bz, (5, 1, 0, 1, []), (25, 3, 131, 0, []), bz, bz, (3, 1, 3, 1, []), (1, 1, 0, 1, []), (10, 1, 1, 0, []), (27, 1, 0, 0, []), (3, 2, 5, 0, []), bz, (10, 1, 3, 0, []), (21, 3, 68, 0, []), bz, bz, (5, 1, 0, 1, []), (25, 3, 131, 0, []), bz, bz, (3, 1, 3, 1, []), (1, 1, 0, 1, []), (10, 1, 1, 0, []), (20, 1, 0, 0, []), (27, 1, 0, 0, []), (3, 2, 5, 0, []), bz, (10, 1, 3, 0, []), (28, 1, 0, 0, []), (23, 3, 87, 0, []), bz, bz, (5, 1, 0, 1, []), (25, 3, 130, 0, []), bz, bz, (3, 1, 3, 1, []), (3, 2, 4, 0, []), bz, (28, 1, 0, 0, []), (5, 1, 0, 1, []), (25, 3, 131, 0, []), bz, bz, (3, 1, 3, 1, []), (3, 2, 5, 0, []), bz, (28, 1, 0, 0, []), (9, 3, 3, 1, []), bz, bz, (9, 3, 4, 1, []), bz, bz, (23, 3, 5, 0, []), bz, bz, (3, 1, 3, 1, []), (41, 1, 0, 0, [])]
def cd_X10_canBreak : List bh_I := [(5, 1, 0, 1, []), (3, 1, 1, 1, []), (40, 3, 167, 0, []), bz, bz, (21, 3, 29, 0, []), bz, bz, (5, 1, 0, 1, []), (3, 1, 2, 1, []), (40, 3, 154, 0, []), bz, bz, (21, 3, 29, 0, []), bz, bz, (5, 1, 0, 1, []), (25, 3, 109, 0, []), bz, bz, (1, 1, 0, 2, []), (27, 1, 0, 0, []), (21, 3, 29, 5, []), bz, bz, (1, 1, 0, 1, []), (23, 3, 30, 0, []), bz, bz, (1, 1, 0, 0, []), (41, 1, 0, 0, [])]
def cd_X10_breaks : List bh_I := [(5, 1, 0, 1, []), (3, 1, 1, 1, []), (3, 1, 2, 1, []), (40, 3, 190, 0, []), bz, bz, (21, 3, 19, 0, []), bz, bz, (3, 1, 3, 1, []), (15, 1, 0, 0, []), (2, 1, 0, 0, []), (2, 1, 0, 1, []), (40, 3, 138, 0, []), bz, bz, (21, 3, 22, 1, []), bz, bz, (1, 2, 1, (-3), []), bz, (41, 1, 0, 0, []), (5, 1, 0, 1, []), (3, 1, 1, 1, []), (3, 1, 2, 1, []), (40, 3, 191, 0, []), bz, bz, (6, 2, 4, 0, []), bz, (3, 2, 4, 0, []), bz, (1, 2, 1, (-2), []), bz, (22, 3, 40, 1, []), bz, bz, (1, 2, 1, (-2), []), bz, (41, 1, 0, 0, []), (3, 1, 3, 1, []), (21, 3, 51, 1, []), bz, bz, (3, 2, 4, 0, []), bz, (1, 1, 0, 1, []), (10, 1, 1, 0, []), (23, 3, 67, 0, []), bz, bz, (3, 2, 4, 0, []), bz, (1, 1, 0, 1, []), (22, 3, 66, 5, []), bz, bz, (5, 1, 0, 1, []), (25, 3, 130, 0, []), bz, bz, (1, 1, 0, 1, []), (27, 1, 0, 0, []), (23, 3, 67, 0, []), bz, bz, (1, 1, 0, (-1), []), (41, 1, 0, 0, [])]
def cd_X10_between : List bh_I := [(5, 1, 0, 1, []), (3, 1, 1, 1, []), (3, 1, 2, 1, []), (40, 3, 190, 0, []), bz, bz, (21, 3, 13, 0, []), bz, bz, (3, 1, 3, 1, []), (21, 3, 15, 3, []), bz, bz, (1, 1, 0, (-1), []), (41, 1, 0, 0, []), (5, 1, 0, 1, []), (3, 1, 1, 1, []), (3, 1, 2, 1, []), (40, 3, 191, 0, []), bz, bz, (6, 2, 4, 0, []), bz, (3, 1, 3, 1, []), (3, 2, 4, 0, []), bz, (22, 3, 38, 3, []), bz, bz, (5, 1, 0, 1, []), (25, 3, 131, 0, []), bz, bz, (3, 1, 3, 1, []), (27, 1, 0, 0, []), (23, 3, 40, 0, []), bz, bz, (1, 2, 1, (-2), []), bz, (41, 1, 0, 0, [])]
def cd_X10_untangle : List bh_I := [(5, 1, 0, 1, []), (3, 1, 1, 1, []), (40, 3, 167, 0, []), bz, bz, (21, 3, 29, 0, []), bz, bz, (5, 1, 0, 1, []), (3, 1, 2, 1, []), (40, 3, 167, 0, []), bz, bz, (21, 3, 29, 0, []), bz, bz, (3, 1, 1, 1, []), (3, 1, 2, 1, []), (22, 3, 29, 0, []), bz, bz, (5, 1, 0, 1, []), (3, 1, 3, 1, []), (40, 3, 154, 0, []), bz, bz, (21, 3, 33, 1, []), bz, bz, (2, 3, 1, (-1), [324, 1490]), bz, bz, (42, 1, 0, 0, []), (1, 1, 0, 0, []), (6, 2, 5, 0, []), bz, (3, 2, 5, 0, []), bz, (1, 2, 1, 16, []), bz, (22, 3, 70, 4, []), bz, bz, (5, 1, 0, 1, []), (25, 3, 132, 0, []), bz, bz, (3, 2, 5, 0, []), bz, (3, 2, 5, 0, []), bz, (21, 3, 58, 1, []), bz, bz, (1, 1, 0, 1, []), (23, 3, 59, 0, []), bz, bz, (1, 1, 0, 0, []), (40, 3, 151, 0, []), bz, bz, (15, 1, 0, 0, []), (32, 1, 0, 0, []), (9, 3, 5, 1, []), bz, bz, (23, 3, 36, 0, []), bz, bz, (1, 1, 0, 0, []), (6, 2, 5, 0, []), bz, (3, 2, 5, 0, []), bz, (5, 1, 0, 1, []), (25, 3, 109, 0, []), bz, bz, (1, 1, 0, 2, []), (27, 1, 0, 0, []), (22, 3, 210, 3, []), bz, bz, (3, 2, 5, 0, []), bz, (5, 1, 0, 1, []), (3, 1, 3, 1, []), (40, 3, 155, 0, []), bz, bz, (12, 1, 0, 0, []), (6, 2, 6, 0, []), bz, (5, 1, 0, 1, []), (3, 1, 1, 1, []), (3, 1, 3, 1, []), (3, 2, 6, 0, []), bz, (40, 3, 175, 0, []), bz, bz, (5, 1, 0, 1, []), (3, 2, 5, 0, []), bz, (40, 3, 186, 0, []), bz, bz, (22, 3, 115, 1, []), bz, bz, (1, 1, 0, 1, []), (23, 3, 116, 0, []), bz, bz, (1, 1, 0, 0, []), (6, 2, 7, 0, []), bz, (5, 1, 0, 1, []), (3, 1, 2, 1, []), (3, 1, 3, 1, []), (3, 2, 6, 0, []), bz, (40, 3, 175, 0, []), bz, bz, (5, 1, 0, 1, []), (3, 2, 5, 0, []), bz, (40, 3, 186, 0, []), bz, bz, (22, 3, 139, 1, []), bz, bz, (1, 1, 0, 1, []), (23, 3, 140, 0, []), bz, bz, (1, 1, 0, 0, []), (6, 2, 8, 0, []), bz, (1, 2, 1, 16, []), bz, (6, 2, 9, 0, []), bz, (3, 2, 9, 0, []), bz, (21, 3, 204, 2, []), bz, bz, (5, 1, 0, 1, []), (25, 3, 132, 0, []), bz, bz, (3, 2, 9, 0, []), bz, (3, 2, 8, 0, []), bz, (21, 3, 172, 0, []), bz, bz, (5, 1, 0, 1, []), (25, 3, 132, 0, []), bz, bz, (3, 2, 9, 0, []), bz, (31, 1, 0, 0, []), (23, 3, 173, 0, []), bz, bz, (2, 1, 0, 0, []), (3, 2, 7, 0, []), bz, (21, 3, 195, 0, []), bz, bz, (3, 2, 9, 0, []), bz, (21, 3, 195, 5, []), bz, bz, (5, 1, 0, 1, []), (25, 3, 132, 0, []), bz, bz, (3, 2, 9, 0, []), bz, (1, 1, 0, 1, []), (10, 1, 1, 0, []), (31, 1, 0, 0, []), (23, 3, 196, 0, []), bz, bz, (2, 1, 0, 0, []), (13, 1, 0, 0, []), (32, 1, 0, 0, []), (9, 3, 9, (-1), []), bz, bz, (23, 3, 146, 0, []), bz, bz, (9, 3, 5, 1, []), bz, bz, (23, 3, 73, 0, []), bz, bz, (3, 2, 4, 0, []), bz, (15, 1, 0, 0, []), (2, 1, 0, 0, []), (2, 3, 1, 16, [344, 1535]), bz, bz, (40, 3, 138, 0, []), bz, bz, (21, 3, 233, 0, []), bz, bz, (5, 1, 0, 1, []), (25, 3, 132, 0, []), bz, bz, (3, 2, 4, 0, []), bz, (31, 1, 0, 0, []), (23, 3, 234, 0, []), bz, bz, (2, 1, 0, 0, []), (42, 1, 0, 0, [])]
def cd_X10_isSet : List bh_I := [(3, 1, 1, 1, []), (15, 1, 0, 0, []), (2, 1, 0, 0, []), (1, 1, 0, 1, []), (5, 1, 0, 1, []), (25, 3, 109, 0, []), bz, bz, (1, 1, 0, 0, []), (27, 1, 0, 0, []), (10, 1, 6, 0, []), (1, 1, 0, 1, []), (10, 1, 1, 0, []), (15, 1, 0, 0, []), (40, 3, 138, 0, []), bz, bz, (41, 1, 0, 0, [])]
def cd_X10_unlikeOn : List bh_I := [(1, 1, 0, 0, []), (6, 2, 4, 0, []), bz, (1, 1, 0, 0, []), (6, 2, 5, 0, []), bz, (3, 2, 5, 0, []), bz, (5, 1, 0, 1, []), (3, 1, 3, 1, []), (40, 3, 155, 0, []), bz, bz, (22, 3, 54, 3, []), bz, bz, (3, 2, 4, 0, []), bz, (5, 1, 0, 1, []), (3, 1, 1, 1, []), (3, 1, 3, 1, []), (3, 2, 5, 0, []), bz, (40, 3, 175, 0, []), bz, bz, (5, 1, 0, 1, []), (3, 1, 2, 1, []), (3, 1, 3, 1, []), (3, 2, 5, 0, []), bz, (40, 3, 175, 0, []), bz, bz, (22, 3, 44, 0, []), bz, bz, (1, 1, 0, 1, []), (3, 2, 5, 0, []), bz, (10, 1, 6, 0, []), (23, 3, 45, 0, []), bz, bz, (1, 1, 0, 0, []), (10, 1, 4, 0, []), (6, 2, 4, 0, []), bz, (9, 3, 5, 1, []), bz, bz, (23, 3, 6, 0, []), bz, bz, (3, 2, 4, 0, []), bz, (41, 1, 0, 0, [])]
def cd_X10_laysApart : List bh_I := [(1, 1, 0, 0, []), (6, 1, 3, 1, []), (1, 1, 0, 0, []), (6, 2, 4, 0, []), bz, (3, 2, 4, 0, []), bz, (5, 1, 0, 1, []), (25, 3, 109, 0, []), bz, bz, (1, 1, 0, 0, []), (27, 1, 0, 0, []), (22, 3, 74, 3, []), bz, bz, (1, 1, 0, 0, []), (6, 2, 5, 0, []), bz, (3, 2, 5, 0, []), bz, (3, 2, 4, 0, []), bz, (22, 3, 68, 3, []), bz, bz, (3, 1, 2, 1, []), (3, 2, 4, 0, []), bz, (40, 3, 156, 0, []), bz, bz, (21, 3, 62, 0, []), bz, bz, (3, 1, 2, 1, []), (3, 2, 5, 0, []), bz, (40, 3, 156, 0, []), bz, bz, (21, 3, 62, 0, []), bz, bz, (5, 1, 0, 1, []), (25, 3, 133, 0, []), bz, bz, (3, 1, 3, 1, []), (5, 1, 0, 1, []), (3, 2, 4, 0, []), bz, (3, 2, 5, 0, []), bz, (3, 1, 1, 1, []), (40, 3, 192, 0, []), bz, bz, (28, 1, 0, 0, []), (9, 3, 3, 1, []), bz, bz, (9, 3, 5, 1, []), bz, bz, (23, 3, 19, 0, []), bz, bz, (9, 3, 4, 1, []), bz, bz, (23, 3, 5, 0, []), bz, bz, (3, 1, 3, 1, []), (41, 1, 0, 0, [])]
def cd_X10_tells : List bh_I := [(5, 1, 0, 1, []), (3, 1, 1, 1, []), (40, 3, 154, 0, []), bz, bz, (21, 3, 34, 0, []), bz, bz, (5, 1, 0, 1, []), (3, 1, 2, 1, []), (40, 3, 193, 0, []), bz, bz, (21, 3, 34, 0, []), bz, bz, (3, 1, 2, 1, []), (40, 3, 185, 0, []), bz, bz, (1, 1, 0, 2, []), (22, 3, 34, 2, []), bz, bz, (3, 1, 3, 1, []), (15, 1, 0, 0, []), (2, 1, 0, 0, []), (2, 1, 0, 1, []), (40, 3, 138, 0, []), bz, bz, (21, 3, 36, 1, []), bz, bz, (1, 1, 0, (-1), []), (41, 1, 0, 0, []), (5, 1, 0, 1, []), (3, 1, 1, 1, []), (3, 1, 2, 1, []), (40, 3, 194, 0, []), bz, bz, (6, 2, 4, 0, []), bz, (1, 2, 1, (-2), []), bz, (6, 2, 5, 0, []), bz, (1, 1, 0, 1, []), (6, 2, 6, 0, []), bz, (3, 2, 6, 0, []), bz, (1, 1, 0, 1, []), (5, 1, 0, 1, []), (3, 1, 1, 1, []), (40, 3, 155, 0, []), bz, bz, (10, 1, 6, 0, []), (22, 3, 142, 3, []), bz, bz, (1, 1, 0, 1, []), (6, 2, 7, 0, []), bz, (1, 1, 0, 0, []), (6, 2, 8, 0, []), bz, (3, 2, 8, 0, []), bz, (3, 2, 4, 0, []), bz, (22, 3, 107, 3, []), bz, bz, (3, 2, 7, 0, []), bz, (21, 3, 98, 0, []), bz, bz, (5, 1, 0, 1, []), (25, 3, 133, 0, []), bz, bz, (3, 2, 8, 0, []), bz, (27, 1, 0, 0, []), (3, 2, 6, 0, []), bz, (10, 1, 3, 0, []), (21, 3, 98, 0, []), bz, bz, (1, 1, 0, 1, []), (23, 3, 99, 0, []), bz, bz, (1, 1, 0, 0, []), (6, 2, 7, 0, []), bz, (9, 3, 8, 1, []), bz, bz, (23, 3, 69, 0, []), bz, bz, (3, 2, 7, 0, []), bz, (21, 3, 136, 0, []), bz, bz, (3, 2, 5, 0, []), bz, (1, 2, 1, (-2), []), bz, (22, 3, 132, 0, []), bz, bz, (3, 2, 6, 0, []), bz, (40, 3, 185, 0, []), bz, bz, (3, 2, 5, 0, []), bz, (40, 3, 185, 0, []), bz, bz, (22, 3, 136, 3, []), bz, bz, (3, 2, 6, 0, []), bz, (6, 2, 5, 0, []), bz, (9, 3, 6, 1, []), bz, bz, (23, 3, 51, 0, []), bz, bz, (3, 2, 5, 0, []), bz, (1, 2, 1, (-2), []), bz, (22, 3, 154, 0, []), bz, bz, (3, 1, 3, 1, []), (1, 1, 0, 1, []), (22, 3, 159, 1, []), bz, bz, (3, 2, 5, 0, []), bz, (23, 3, 164, 0, []), bz, bz, (3, 2, 5, 0, []), bz, (40, 3, 185, 0, []), bz, bz, (41, 1, 0, 0, [])]
def cd_X10_lineWith : List bh_I := [(3, 2, 6, 0, []), bz, (6, 2, 7, 0, []), bz, (3, 1, 1, 1, []), (1, 1, 0, 1, []), (10, 1, 1, 0, []), (6, 2, 8, 0, []), bz, (3, 2, 8, 0, []), bz, (21, 3, 54, 2, []), bz, bz, (3, 2, 8, 0, []), bz, (3, 1, 2, 1, []), (22, 3, 33, 1, []), bz, bz, (3, 1, 3, 1, []), (3, 2, 4, 0, []), bz, (3, 2, 5, 0, []), bz, (3, 2, 7, 0, []), bz, (40, 3, 159, 0, []), bz, bz, (23, 3, 46, 0, []), bz, bz, (5, 1, 0, 1, []), (5, 1, 0, 1, []), (25, 3, 120, 0, []), bz, bz, (3, 2, 8, 0, []), bz, (27, 1, 0, 0, []), (3, 2, 7, 0, []), bz, (40, 3, 166, 0, []), bz, bz, (6, 2, 7, 0, []), bz, (9, 3, 8, (-1), []), bz, bz, (23, 3, 9, 0, []), bz, bz, (3, 2, 7, 0, []), bz, (41, 1, 0, 0, [])]
def cd_X10_slipsBy : List bh_I := [(5, 1, 0, 1, []), (25, 3, 120, 0, []), bz, bz, (3, 1, 2, 1, []), (27, 1, 0, 0, []), (6, 2, 6, 0, []), bz, (3, 1, 3, 1, []), (1, 1, 0, 4, []), (22, 3, 17, 1, []), bz, bz, (1, 1, 0, 1, []), (23, 3, 18, 0, []), bz, bz, (1, 1, 0, 0, []), (6, 2, 7, 0, []), bz, (3, 1, 3, 1, []), (40, 3, 145, 0, []), bz, bz, (21, 3, 32, 5, []), bz, bz, (1, 2, 1, 15, []), bz, (23, 3, 33, 0, []), bz, bz, (1, 1, 0, 0, []), (6, 2, 8, 0, []), bz, (3, 1, 3, 1, []), (40, 3, 145, 0, []), bz, bz, (1, 1, 0, 1, []), (22, 3, 48, 5, []), bz, bz, (1, 2, 1, 15, []), bz, (23, 3, 49, 0, []), bz, bz, (1, 1, 0, 0, []), (6, 2, 9, 0, []), bz, (3, 2, 7, 0, []), bz, (6, 2, 10, 0, []), bz, (3, 2, 10, 0, []), bz, (3, 2, 8, 0, []), bz, (22, 3, 193, 4, []), bz, bz, (1, 1, 0, 0, []), (6, 2, 11, 0, []), bz, (3, 2, 11, 0, []), bz, (3, 2, 9, 0, []), bz, (22, 3, 187, 4, []), bz, bz, (3, 1, 3, 1, []), (3, 2, 10, 0, []), bz, (3, 2, 11, 0, []), bz, (40, 3, 170, 0, []), bz, bz, (21, 3, 181, 0, []), bz, bz, (5, 1, 0, 1, []), (3, 2, 6, 0, []), bz, (3, 1, 3, 1, []), (3, 2, 10, 0, []), bz, (3, 2, 11, 0, []), bz, (40, 3, 171, 0, []), bz, bz, (21, 3, 181, 1, []), bz, bz, (5, 1, 0, 1, []), (3, 1, 1, 1, []), (3, 1, 2, 1, []), (3, 1, 3, 1, []), (3, 2, 10, 0, []), bz, (3, 2, 11, 0, []), bz, (3, 2, 4, 0, []), bz, (40, 3, 195, 0, []), bz, bz, (3, 2, 5, 0, []), bz, (22, 3, 118, 0, []), bz, bz, (23, 3, 181, 0, []), bz, bz, (5, 1, 0, 1, []), (25, 3, 134, 0, []), bz, bz, (21, 3, 171, 1, []), bz, bz, (5, 1, 0, 1, []), (3, 2, 6, 0, []), bz, (26, 3, 135, 0, []), bz, bz, (5, 1, 0, 1, []), (3, 1, 3, 1, []), (26, 3, 136, 0, []), bz, bz, (5, 1, 0, 1, []), (3, 1, 3, 1, []), (40, 3, 145, 0, []), bz, bz, (21, 3, 149, 5, []), bz, bz, (3, 2, 10, 0, []), bz, (23, 3, 150, 0, []), bz, bz, (1, 1, 0, (-1), []), (26, 3, 137, 0, []), bz, bz, (5, 1, 0, 1, []), (3, 1, 3, 1, []), (40, 3, 145, 0, []), bz, bz, (1, 1, 0, 1, []), (22, 3, 167, 5, []), bz, bz, (3, 2, 11, 0, []), bz, (23, 3, 168, 0, []), bz, bz, (1, 1, 0, (-1), []), (26, 3, 138, 0, []), bz, bz, (5, 1, 0, 1, []), (18, 1, 0, 0, []), (25, 3, 134, 0, []), bz, bz, (1, 1, 0, 1, []), (10, 1, 0, 0, []), (26, 3, 134, 0, []), bz, bz, (9, 3, 11, 1, []), bz, bz, (23, 3, 65, 0, []), bz, bz, (9, 3, 10, 1, []), bz, bz, (23, 3, 55, 0, []), bz, bz, (44, 1, 0, 0, [])]
def cd_X10_slips : List bh_I := [(5, 1, 0, 1, []), (3, 1, 1, 1, []), (40, 3, 167, 0, []), bz, bz, (21, 3, 43, 0, []), bz, bz, (5, 1, 0, 1, []), (3, 1, 2, 1, []), (3, 1, 3, 1, []), (40, 3, 178, 0, []), bz, bz, (21, 3, 43, 0, []), bz, bz, (3, 2, 4, 0, []), bz, (15, 1, 0, 0, []), (2, 1, 0, 0, []), (2, 3, 1, 65535, [292, 1411]), bz, bz, (40, 3, 138, 0, []), bz, bz, (21, 3, 43, 0, []), bz, bz, (3, 2, 5, 0, []), bz, (15, 1, 0, 0, []), (2, 1, 0, 0, []), (2, 3, 1, 4, [374, 1556]), bz, bz, (40, 3, 138, 0, []), bz, bz, (21, 3, 46, 1, []), bz, bz, (1, 2, 1, (-3), []), bz, (41, 1, 0, 0, []), (5, 1, 0, 1, []), (3, 1, 1, 1, []), (40, 3, 181, 0, []), bz, bz, (21, 3, 57, 0, []), bz, bz, (1, 2, 1, (-2), []), bz, (41, 1, 0, 0, []), (5, 1, 0, 1, []), (1, 1, 0, 0, []), (26, 3, 134, 0, []), bz, bz, (5, 1, 0, 1, []), (3, 1, 1, 1, []), (40, 3, 161, 0, []), bz, bz, (6, 2, 6, 0, []), bz, (1, 1, 0, 0, []), (6, 2, 7, 0, []), bz, (3, 2, 7, 0, []), bz, (5, 1, 0, 1, []), (25, 3, 109, 0, []), bz, bz, (1, 1, 0, 0, []), (27, 1, 0, 0, []), (22, 3, 162, 3, []), bz, bz, (1, 1, 0, 0, []), (6, 2, 8, 0, []), bz, (3, 2, 8, 0, []), bz, (3, 2, 6, 0, []), bz, (22, 3, 156, 3, []), bz, bz, (1, 1, 0, 0, []), (6, 2, 9, 0, []), bz, (3, 2, 9, 0, []), bz, (1, 2, 1, 7, []), bz, (22, 3, 150, 3, []), bz, bz, (5, 1, 0, 1, []), (25, 3, 120, 0, []), bz, bz, (3, 2, 8, 0, []), bz, (27, 1, 0, 0, []), (3, 2, 7, 0, []), bz, (22, 3, 150, 1, []), bz, bz, (5, 1, 0, 1, []), (3, 2, 7, 0, []), bz, (1, 2, 1, 7, []), bz, (40, 3, 153, 0, []), bz, bz, (21, 3, 150, 1, []), bz, bz, (5, 1, 0, 1, []), (3, 2, 6, 0, []), bz, (3, 2, 8, 0, []), bz, (3, 2, 9, 0, []), bz, (5, 1, 0, 1, []), (3, 1, 2, 1, []), (3, 1, 3, 1, []), (40, 3, 162, 0, []), bz, bz, (3, 2, 4, 0, []), bz, (40, 3, 196, 0, []), bz, bz, (9, 3, 9, 1, []), bz, bz, (23, 3, 96, 0, []), bz, bz, (9, 3, 8, 1, []), bz, bz, (23, 3, 86, 0, []), bz, bz, (9, 3, 7, 1, []), bz, bz, (23, 3, 72, 0, []), bz, bz, (3, 2, 5, 0, []), bz, (21, 3, 174, 0, []), bz, bz, (5, 1, 0, 1, []), (25, 3, 134, 0, []), bz, bz, (21, 3, 189, 1, []), bz, bz, (3, 2, 5, 0, []), bz, (21, 3, 186, 1, []), bz, bz, (5, 1, 0, 1, []), (25, 3, 134, 0, []), bz, bz, (23, 3, 188, 0, []), bz, bz, (1, 2, 1, (-2), []), bz, (41, 1, 0, 0, []), (3, 2, 5, 0, []), bz, (1, 1, 0, 1, []), (22, 3, 202, 1, []), bz, bz, (5, 1, 0, 1, []), (25, 3, 135, 0, []), bz, bz, (23, 3, 232, 0, []), bz, bz, (3, 2, 5, 0, []), bz, (1, 1, 0, 2, []), (22, 3, 215, 1, []), bz, bz, (5, 1, 0, 1, []), (25, 3, 136, 0, []), bz, bz, (23, 3, 232, 0, []), bz, bz, (3, 2, 5, 0, []), bz, (1, 1, 0, 3, []), (22, 3, 228, 1, []), bz, bz, (5, 1, 0, 1, []), (25, 3, 137, 0, []), bz, bz, (23, 3, 232, 0, []), bz, bz, (5, 1, 0, 1, []), (25, 3, 138, 0, []), bz, bz, (41, 1, 0, 0, [])]
def cd_X10_errorsOf : List bh_I := [(1, 1, 0, 0, []), (6, 2, 4, 0, []), bz, (1, 1, 0, 0, []), (6, 2, 5, 0, []), bz, (3, 2, 5, 0, []), bz, (5, 1, 0, 1, []), (25, 3, 109, 0, []), bz, bz, (1, 1, 0, 0, []), (27, 1, 0, 0, []), (22, 3, 72, 3, []), bz, bz, (5, 1, 0, 1, []), (3, 2, 5, 0, []), bz, (3, 1, 1, 1, []), (3, 1, 2, 1, []), (40, 3, 175, 0, []), bz, bz, (6, 2, 6, 0, []), bz, (3, 2, 4, 0, []), bz, (3, 2, 6, 0, []), bz, (1, 2, 1, (-2), []), bz, (22, 3, 62, 0, []), bz, bz, (3, 2, 6, 0, []), bz, (3, 1, 3, 1, []), (40, 3, 156, 0, []), bz, bz, (5, 1, 0, 1, []), (3, 1, 1, 1, []), (3, 1, 2, 1, []), (40, 3, 162, 0, []), bz, bz, (3, 1, 3, 1, []), (40, 3, 156, 0, []), bz, bz, (22, 3, 62, 0, []), bz, bz, (1, 1, 0, 1, []), (3, 2, 5, 0, []), bz, (10, 1, 6, 0, []), (23, 3, 63, 0, []), bz, bz, (1, 1, 0, 0, []), (10, 1, 4, 0, []), (6, 2, 4, 0, []), bz, (9, 3, 5, 1, []), bz, bz, (23, 3, 6, 0, []), bz, bz, (3, 2, 4, 0, []), bz, (41, 1, 0, 0, [])]
def cd_X10_errors : List bh_I := [(5, 1, 0, 1, []), (3, 1, 1, 1, []), (3, 1, 2, 1, []), (40, 3, 178, 0, []), bz, bz, (21, 3, 31, 0, []), bz, bz, (3, 1, 3, 1, []), (15, 1, 0, 0, []), (2, 1, 0, 0, []), (2, 3, 1, 15, [259, 1320]), bz, bz, (40, 3, 138, 0, []), bz, bz, (21, 3, 31, 0, []), bz, bz, (5, 1, 0, 1, []), (3, 1, 1, 1, []), (3, 1, 2, 1, []), (3, 1, 3, 1, []), (40, 3, 197, 0, []), bz, bz, (23, 3, 32, 0, []), bz, bz, (1, 1, 0, (-1), []), (41, 1, 0, 0, [])]
def cd_X10_isWithin : List bh_I := [(3, 1, 0, 1, []), (3, 1, 1, 1, []), (1, 1, 0, (-1), []), (10, 1, 5, 0, []), (10, 1, 3, 0, []), (21, 3, 12, 1, []), bz, bz, (1, 1, 0, 1, []), (23, 3, 13, 0, []), bz, bz, (1, 1, 0, 0, []), (41, 1, 0, 0, [])]
def cd_X10_clashes : List bh_I := [(1, 1, 0, 0, []), (6, 1, 1, 1, []), (1, 1, 0, 0, []), (6, 1, 2, 1, []), (3, 1, 2, 1, []), (1, 2, 1, 16, []), bz, (22, 3, 92, 3, []), bz, bz, (1, 1, 0, 0, []), (6, 1, 3, 1, []), (3, 1, 3, 1, []), (3, 1, 2, 1, []), (22, 3, 86, 3, []), bz, bz, (3, 1, 1, 1, []), (5, 1, 0, 1, []), (25, 3, 139, 0, []), bz, bz, (3, 1, 2, 1, []), (27, 1, 0, 0, []), (5, 1, 0, 1, []), (25, 3, 139, 0, []), bz, bz, (3, 1, 3, 1, []), (27, 1, 0, 0, []), (10, 1, 3, 0, []), (21, 3, 74, 0, []), bz, bz, (5, 1, 0, 1, []), (25, 3, 139, 0, []), bz, bz, (3, 1, 2, 1, []), (27, 1, 0, 0, []), (5, 1, 0, 1, []), (25, 3, 139, 0, []), bz, bz, (3, 1, 3, 1, []), (27, 1, 0, 0, []), (40, 3, 198, 0, []), bz, bz, (21, 3, 74, 1, []), bz, bz, (5, 1, 0, 1, []), (25, 3, 139, 0, []), bz, bz, (3, 1, 3, 1, []), (27, 1, 0, 0, []), (5, 1, 0, 1, []), (25, 3, 139, 0, []), bz, bz, (3, 1, 2, 1, []), (27, 1, 0, 0, []), (40, 3, 198, 0, []), bz, bz, (21, 3, 74, 1, []), bz, bz, (1, 1, 0, 1, []), (23, 3, 75, 0, []), bz, bz, (1, 1, 0, 0, []), (40, 3, 151, 0, []), bz, bz, (10, 1, 0, 0, []), (6, 1, 1, 1, []), (9, 3, 3, 1, []), bz, bz, (23, 3, 12, 0, []), bz, bz, (9, 3, 2, 1, []), bz, bz, (23, 3, 4, 0, []), bz, bz, (3, 1, 1, 1, []), (41, 1, 0, 0, [])]
def cd_X10_laysUnlike : List bh_I := [(1, 1, 0, 0, []), (6, 1, 1, 1, []), (1, 1, 0, 1, []), (6, 1, 2, 1, []), (3, 1, 2, 1, []), (1, 2, 1, 12, []), bz, (22, 3, 113, 4, []), bz, bz, (1, 1, 0, 0, []), (6, 1, 3, 1, []), (3, 1, 3, 1, []), (1, 2, 1, 16, []), bz, (22, 3, 107, 3, []), bz, bz, (5, 1, 0, 1, []), (25, 3, 139, 0, []), bz, bz, (3, 1, 3, 1, []), (27, 1, 0, 0, []), (40, 3, 185, 0, []), bz, bz, (3, 1, 2, 1, []), (22, 3, 35, 1, []), bz, bz, (1, 1, 0, 1, []), (23, 3, 36, 0, []), bz, bz, (1, 1, 0, 0, []), (6, 2, 4, 0, []), bz, (1, 1, 0, 0, []), (6, 2, 5, 0, []), bz, (3, 2, 5, 0, []), bz, (3, 1, 1, 1, []), (22, 3, 81, 3, []), bz, bz, (3, 2, 4, 0, []), bz, (21, 3, 72, 0, []), bz, bz, (5, 1, 0, 1, []), (25, 3, 140, 0, []), bz, bz, (3, 2, 5, 0, []), bz, (27, 1, 0, 0, []), (5, 1, 0, 1, []), (25, 3, 139, 0, []), bz, bz, (3, 1, 3, 1, []), (27, 1, 0, 0, []), (22, 3, 72, 0, []), bz, bz, (1, 1, 0, 1, []), (23, 3, 73, 0, []), bz, bz, (1, 1, 0, 0, []), (6, 2, 4, 0, []), bz, (9, 3, 5, 1, []), bz, bz, (23, 3, 41, 0, []), bz, bz, (3, 2, 4, 0, []), bz, (21, 3, 101, 0, []), bz, bz, (5, 1, 0, 1, []), (25, 3, 140, 0, []), bz, bz, (3, 1, 1, 1, []), (5, 1, 0, 1, []), (25, 3, 139, 0, []), bz, bz, (3, 1, 3, 1, []), (27, 1, 0, 0, []), (28, 1, 0, 0, []), (9, 3, 1, 1, []), bz, bz, (9, 3, 3, 1, []), bz, bz, (23, 3, 12, 0, []), bz, bz, (9, 3, 2, 1, []), bz, bz, (23, 3, 4, 0, []), bz, bz, (3, 1, 1, 1, []), (41, 1, 0, 0, [])]
def cd_X10_longestRow : List bh_I := [(1, 1, 0, 0, []), (6, 1, 2, 1, []), (1, 1, 0, 0, []), (6, 1, 3, 1, []), (3, 1, 3, 1, []), (3, 1, 1, 1, []), (22, 3, 91, 3, []), bz, bz, (5, 1, 0, 1, []), (25, 3, 141, 0, []), bz, bz, (3, 1, 3, 1, []), (1, 1, 0, 1, []), (28, 1, 0, 0, []), (1, 1, 0, 0, []), (6, 2, 4, 0, []), bz, (3, 2, 4, 0, []), bz, (3, 1, 3, 1, []), (22, 3, 74, 3, []), bz, bz, (5, 1, 0, 1, []), (25, 3, 140, 0, []), bz, bz, (3, 2, 4, 0, []), bz, (27, 1, 0, 0, []), (5, 1, 0, 1, []), (25, 3, 140, 0, []), bz, bz, (3, 1, 3, 1, []), (27, 1, 0, 0, []), (40, 3, 198, 0, []), bz, bz, (21, 3, 68, 0, []), bz, bz, (5, 1, 0, 1, []), (25, 3, 141, 0, []), bz, bz, (3, 1, 3, 1, []), (5, 1, 0, 1, []), (25, 3, 141, 0, []), bz, bz, (3, 1, 3, 1, []), (27, 1, 0, 0, []), (5, 1, 0, 1, []), (25, 3, 141, 0, []), bz, bz, (3, 2, 4, 0, []), bz, (27, 1, 0, 0, []), (1, 1, 0, 1, []), (10, 1, 0, 0, []), (49, 3, 0, 386, [1593]), bz, bz, (28, 1, 0, 0, []), (9, 3, 4, 1, []), bz, bz, (23, 3, 19, 0, []), bz, bz, (3, 1, 2, 1, []), (5, 1, 0, 1, []), (25, 3, 141, 0, []), bz, bz, (3, 1, 3, 1, []), (27, 1, 0, 0, []), (49, 3, 0, 386, [1593]), bz, bz, (6, 1, 2, 1, []), (9, 3, 3, 1, []), bz, bz, (23, 3, 4, 0, []), bz, bz, (3, 1, 2, 1, []), (41, 1, 0, 0, [])]
def cd_X10_nested : List bh_I := [(5, 1, 0, 1, []), (3, 1, 1, 1, []), (3, 1, 2, 1, []), (40, 3, 178, 0, []), bz, bz, (21, 3, 21, 0, []), bz, bz, (3, 1, 3, 1, []), (15, 1, 0, 0, []), (2, 1, 0, 0, []), (2, 3, 1, 3, [389, 1577]), bz, bz, (40, 3, 138, 0, []), bz, bz, (21, 3, 23, 1, []), bz, bz, (1, 1, 0, (-1), []), (41, 1, 0, 0, []), (1, 1, 0, 0, []), (6, 2, 4, 0, []), bz, (3, 2, 4, 0, []), bz, (1, 2, 1, 16, []), bz, (22, 3, 54, 3, []), bz, bz, (5, 1, 0, 1, []), (25, 3, 139, 0, []), bz, bz, (3, 2, 4, 0, []), bz, (5, 1, 0, 1, []), (3, 1, 1, 1, []), (3, 1, 2, 1, []), (3, 2, 4, 0, []), bz, (40, 3, 197, 0, []), bz, bz, (28, 1, 0, 0, []), (9, 3, 4, 1, []), bz, bz, (23, 3, 26, 0, []), bz, bz, (3, 1, 3, 1, []), (24, 25, 106, 0, [80, 96, 101]), bz, bz, bz, bz, bz, bz, bz, bz, bz, bz, bz, bz, bz, bz, bz, bz, bz, bz, bz, bz, bz, bz, bz, bz, (5, 1, 0, 1, []), (40, 3, 199, 0, []), bz, bz, (21, 3, 91, 1, []), bz, bz, (1, 1, 0, 1, []), (23, 3, 92, 0, []), bz, bz, (1, 1, 0, 0, []), (40, 3, 151, 0, []), bz, bz, (41, 1, 0, 0, []), (5, 1, 0, 1, []), (40, 3, 199, 0, []), bz, bz, (41, 1, 0, 0, []), (5, 1, 0, 1, []), (40, 3, 200, 0, []), bz, bz, (41, 1, 0, 0, []), (5, 1, 0, 1, []), (5, 1, 0, 1, []), (40, 3, 200, 0, []), bz, bz, (40, 3, 201, 0, []), bz, bz, (41, 1, 0, 0, [])]
def cd_X10_shared : List bh_I := [(5, 1, 0, 1, []), (3, 1, 1, 1, []), (40, 3, 167, 0, []), bz, bz, (21, 3, 16, 0, []), bz, bz, (5, 1, 0, 1, []), (3, 1, 2, 1, []), (40, 3, 167, 0, []), bz, bz, (21, 3, 18, 1, []), bz, bz, (1, 1, 0, (-1), []), (41, 1, 0, 0, []), (5, 1, 0, 1, []), (3, 1, 2, 1, []), (40, 3, 202, 0, []), bz, bz, (6, 1, 3, 1, []), (3, 1, 1, 1, []), (6, 2, 4, 0, []), bz, (3, 2, 4, 0, []), bz, (1, 1, 0, (-1), []), (22, 3, 56, 0, []), bz, bz, (3, 1, 3, 1, []), (3, 2, 4, 0, []), bz, (40, 3, 156, 0, []), bz, bz, (21, 3, 45, 0, []), bz, bz, (3, 2, 4, 0, []), bz, (41, 1, 0, 0, []), (5, 1, 0, 1, []), (3, 2, 4, 0, []), bz, (40, 3, 157, 0, []), bz, bz, (6, 2, 4, 0, []), bz, (23, 3, 27, 0, []), bz, bz, (1, 2, 1, (-2), []), bz, (41, 1, 0, 0, [])]
def cd_X10_quarrel : List bh_I := [(5, 1, 0, 1, []), (3, 1, 1, 1, []), (40, 3, 167, 0, []), bz, bz, (21, 3, 26, 0, []), bz, bz, (5, 1, 0, 1, []), (3, 1, 2, 1, []), (40, 3, 167, 0, []), bz, bz, (21, 3, 26, 0, []), bz, bz, (5, 1, 0, 1, []), (3, 1, 3, 1, []), (3, 2, 4, 0, []), bz, (40, 3, 178, 0, []), bz, bz, (21, 3, 28, 1, []), bz, bz, (1, 1, 0, (-1), []), (41, 1, 0, 0, []), (5, 1, 0, 1, []), (3, 1, 1, 1, []), (3, 1, 3, 1, []), (3, 2, 4, 0, []), bz, (40, 3, 175, 0, []), bz, bz, (6, 2, 5, 0, []), bz, (5, 1, 0, 1, []), (3, 1, 2, 1, []), (3, 1, 3, 1, []), (3, 2, 4, 0, []), bz, (40, 3, 175, 0, []), bz, bz, (6, 2, 6, 0, []), bz, (3, 2, 5, 0, []), bz, (1, 2, 1, (-2), []), bz, (22, 3, 62, 0, []), bz, bz, (3, 2, 6, 0, []), bz, (1, 2, 1, (-2), []), bz, (22, 3, 67, 1, []), bz, bz, (1, 2, 1, (-2), []), bz, (23, 3, 72, 0, []), bz, bz, (3, 2, 5, 0, []), bz, (3, 2, 6, 0, []), bz, (10, 1, 5, 0, []), (41, 1, 0, 0, [])]
def cd_X10_makes : List bh_I := [(3, 1, 2, 1, []), (3, 1, 1, 1, []), (40, 3, 156, 0, []), bz, bz, (21, 3, 12, 0, []), bz, bz, (3, 1, 3, 1, []), (23, 3, 13, 0, []), bz, bz, (1, 1, 0, 0, []), (6, 2, 4, 0, []), bz, (1, 1, 0, 0, []), (6, 2, 5, 0, []), bz, (3, 2, 5, 0, []), bz, (5, 1, 0, 1, []), (25, 3, 109, 0, []), bz, bz, (1, 1, 0, 0, []), (27, 1, 0, 0, []), (22, 3, 62, 3, []), bz, bz, (3, 2, 4, 0, []), bz, (5, 1, 0, 1, []), (3, 2, 5, 0, []), bz, (40, 3, 157, 0, []), bz, bz, (3, 1, 1, 1, []), (22, 3, 52, 1, []), bz, bz, (5, 1, 0, 1, []), (3, 2, 5, 0, []), bz, (3, 1, 2, 1, []), (3, 1, 3, 1, []), (40, 3, 203, 0, []), bz, bz, (23, 3, 53, 0, []), bz, bz, (1, 1, 0, 0, []), (10, 1, 0, 0, []), (6, 2, 4, 0, []), bz, (9, 3, 5, 1, []), bz, bz, (23, 3, 18, 0, []), bz, bz, (3, 2, 4, 0, []), bz, (5, 1, 0, 1, []), (3, 1, 1, 1, []), (40, 3, 163, 0, []), bz, bz, (21, 3, 76, 0, []), bz, bz, (1, 1, 0, 0, []), (23, 3, 82, 0, []), bz, bz, (5, 1, 0, 1, []), (3, 1, 1, 1, []), (1, 1, 0, 0, []), (40, 3, 153, 0, []), bz, bz, (50, 3, 0, 123, [1232]), bz, bz, (41, 1, 0, 0, [])]
def cd_X10_served : List bh_I := [(5, 1, 0, 1, []), (3, 1, 1, 1, []), (40, 3, 193, 0, []), bz, bz, (21, 3, 20, 0, []), bz, bz, (3, 1, 2, 1, []), (15, 1, 0, 0, []), (2, 1, 0, 0, []), (2, 3, 1, 99, [406, 1610]), bz, bz, (40, 3, 138, 0, []), bz, bz, (21, 3, 22, 1, []), bz, bz, (1, 1, 0, (-1), []), (41, 1, 0, 0, []), (1, 1, 0, 0, []), (6, 1, 3, 1, []), (1, 1, 0, 0, []), (6, 2, 4, 0, []), bz, (3, 2, 4, 0, []), bz, (5, 1, 0, 1, []), (25, 3, 109, 0, []), bz, bz, (1, 1, 0, 0, []), (27, 1, 0, 0, []), (22, 3, 69, 3, []), bz, bz, (3, 1, 3, 1, []), (5, 1, 0, 1, []), (3, 2, 4, 0, []), bz, (40, 3, 157, 0, []), bz, bz, (1, 1, 0, (-1), []), (22, 3, 60, 1, []), bz, bz, (5, 1, 0, 1, []), (3, 2, 4, 0, []), bz, (3, 1, 1, 1, []), (3, 1, 2, 1, []), (40, 3, 203, 0, []), bz, bz, (23, 3, 61, 0, []), bz, bz, (1, 1, 0, 0, []), (10, 1, 0, 0, []), (6, 1, 3, 1, []), (9, 3, 4, 1, []), bz, bz, (23, 3, 27, 0, []), bz, bz, (3, 1, 3, 1, []), (41, 1, 0, 0, [])]
def cd_X10_sumOf : List bh_I := [(1, 1, 0, 0, []), (6, 1, 2, 1, []), (1, 1, 0, 0, []), (6, 1, 3, 1, []), (3, 1, 3, 1, []), (5, 1, 0, 1, []), (25, 3, 109, 0, []), bz, bz, (1, 1, 0, 0, []), (27, 1, 0, 0, []), (22, 3, 29, 3, []), bz, bz, (3, 1, 2, 1, []), (5, 1, 0, 1, []), (3, 1, 3, 1, []), (3, 1, 1, 1, []), (40, 3, 153, 0, []), bz, bz, (10, 1, 0, 0, []), (6, 1, 2, 1, []), (9, 3, 3, 1, []), bz, bz, (23, 3, 4, 0, []), bz, bz, (3, 1, 2, 1, []), (41, 1, 0, 0, [])]
def cd_X10_pagesOfAll : List bh_I := [(1, 1, 0, 0, []), (6, 1, 1, 1, []), (1, 1, 0, 0, []), (6, 1, 2, 1, []), (3, 1, 2, 1, []), (5, 1, 0, 1, []), (25, 3, 109, 0, []), bz, bz, (1, 1, 0, 1, []), (27, 1, 0, 0, []), (22, 3, 28, 3, []), bz, bz, (3, 1, 1, 1, []), (5, 1, 0, 1, []), (3, 1, 2, 1, []), (40, 3, 155, 0, []), bz, bz, (10, 1, 0, 0, []), (6, 1, 1, 1, []), (9, 3, 2, 1, []), bz, bz, (23, 3, 4, 0, []), bz, bz, (3, 1, 1, 1, []), (41, 1, 0, 0, [])]
def cd_X10_alone : List bh_I := [(1, 1, 0, 0, []), (6, 1, 1, 1, []), (1, 1, 0, 0, []), (6, 1, 2, 1, []), (3, 1, 2, 1, []), (5, 1, 0, 1, []), (25, 3, 109, 0, []), bz, bz, (1, 1, 0, 0, []), (27, 1, 0, 0, []), (22, 3, 39, 3, []), bz, bz, (3, 1, 1, 1, []), (5, 1, 0, 1, []), (3, 1, 2, 1, []), (40, 3, 157, 0, []), bz, bz, (1, 1, 0, (-1), []), (22, 3, 30, 1, []), bz, bz, (1, 1, 0, 1, []), (3, 1, 2, 1, []), (10, 1, 6, 0, []), (23, 3, 31, 0, []), bz, bz, (1, 1, 0, 0, []), (10, 1, 4, 0, []), (6, 1, 1, 1, []), (9, 3, 2, 1, []), bz, bz, (23, 3, 4, 0, []), bz, bz, (3, 1, 1, 1, []), (41, 1, 0, 0, [])]
def cd_X10_mostHands : List bh_I := [(1, 1, 0, 0, []), (6, 1, 1, 1, []), (1, 1, 0, 0, []), (6, 1, 2, 1, []), (3, 1, 2, 1, []), (5, 1, 0, 1, []), (25, 3, 109, 0, []), bz, bz, (1, 1, 0, 0, []), (27, 1, 0, 0, []), (22, 3, 30, 3, []), bz, bz, (3, 1, 1, 1, []), (5, 1, 0, 1, []), (3, 1, 2, 1, []), (40, 3, 161, 0, []), bz, bz, (49, 3, 0, 386, [1593]), bz, bz, (6, 1, 1, 1, []), (9, 3, 2, 1, []), bz, bz, (23, 3, 4, 0, []), bz, bz, (3, 1, 1, 1, []), (41, 1, 0, 0, [])]
def cd_X10_deadOnes : List bh_I := [(1, 1, 0, 0, []), (6, 1, 1, 1, []), (1, 1, 0, 0, []), (6, 1, 2, 1, []), (3, 1, 2, 1, []), (5, 1, 0, 1, []), (25, 3, 109, 0, []), bz, bz, (1, 1, 0, 0, []), (27, 1, 0, 0, []), (22, 3, 32, 3, []), bz, bz, (3, 1, 1, 1, []), (5, 1, 0, 1, []), (3, 1, 2, 1, []), (1, 2, 1, 8, []), bz, (40, 3, 153, 0, []), bz, bz, (3, 1, 2, 1, []), (10, 1, 6, 0, []), (10, 1, 4, 0, []), (6, 1, 1, 1, []), (9, 3, 2, 1, []), bz, bz, (23, 3, 4, 0, []), bz, bz, (3, 1, 1, 1, []), (41, 1, 0, 0, [])]
def cd_X10_count : List bh_I := [(3, 1, 1, 1, []), (24, 71, 170, 0, [72, 79, 86, 91, 96, 101, 107, 114, 119, 124, 131, 136, 141, 163]), bz, bz, bz, bz, bz, bz, bz, bz, bz, bz, bz, bz, bz, bz, bz, bz, bz, bz, bz, bz, bz, bz, bz, bz, bz, bz, bz, bz, bz, bz, bz, bz, bz, bz, bz, bz, bz, bz, bz, bz, bz, bz, bz, bz, bz, bz, bz, bz, bz, bz, bz, bz, bz, bz, bz, bz, bz, bz, bz, bz, bz, bz, bz, bz, bz, bz, bz, bz, bz, bz, (5, 1, 0, 1, []), (25, 3, 109, 0, []), bz, bz, (1, 1, 0, 0, []), (27, 1, 0, 0, []), (41, 1, 0, 0, []), (5, 1, 0, 1, []), (25, 3, 109, 0, []), bz, bz, (1, 1, 0, 1, []), (27, 1, 0, 0, []), (41, 1, 0, 0, []), (5, 1, 0, 1, []), (40, 3, 204, 0, []), bz, bz, (41, 1, 0, 0, []), (5, 1, 0, 1, []), (40, 3, 205, 0, []), bz, bz, (41, 1, 0, 0, []), (5, 1, 0, 1, []), (40, 3, 206, 0, []), bz, bz, (41, 1, 0, 0, []), (5, 1, 0, 1, []), (1, 1, 0, 5, []), (40, 3, 207, 0, []), bz, bz, (41, 1, 0, 0, []), (5, 1, 0, 1, []), (1, 2, 1, 6, []), bz, (40, 3, 207, 0, []), bz, bz, (41, 1, 0, 0, []), (5, 1, 0, 1, []), (40, 3, 174, 0, []), bz, bz, (41, 1, 0, 0, []), (5, 1, 0, 1, []), (40, 3, 208, 0, []), bz, bz, (41, 1, 0, 0, []), (5, 1, 0, 1, []), (25, 3, 109, 0, []), bz, bz, (1, 1, 0, 2, []), (27, 1, 0, 0, []), (41, 1, 0, 0, []), (5, 1, 0, 1, []), (25, 3, 114, 0, []), bz, bz, (41, 1, 0, 0, []), (5, 1, 0, 1, []), (25, 3, 116, 0, []), bz, bz, (41, 1, 0, 0, []), (5, 1, 0, 1, []), (25, 3, 113, 0, []), bz, bz, (1, 1, 0, 0, []), (29, 1, 0, 0, []), (40, 3, 151, 0, []), bz, bz, (5, 1, 0, 1, []), (25, 3, 113, 0, []), bz, bz, (1, 1, 0, 1, []), (29, 1, 0, 0, []), (40, 3, 151, 0, []), bz, bz, (1, 1, 0, 1, []), (10, 1, 6, 0, []), (10, 1, 4, 0, []), (41, 1, 0, 0, []), (5, 1, 0, 1, []), (25, 3, 109, 0, []), bz, bz, (1, 1, 0, 3, []), (27, 1, 0, 0, []), (41, 1, 0, 0, []), (1, 1, 0, (-1), []), (41, 1, 0, 0, [])]
def cd_L_law : List bh_I := [(36, 3, 9, 7, [121, 122, 103]), bz, bz, (18, 1, 0, 0, []), (40, 3, 209, 0, []), bz, bz, (8, 1, 1, 1, []), (36, 3, 10, 10, [1058, 1059, 112]), bz, bz, (18, 1, 0, 0, []), (40, 3, 210, 0, []), bz, bz, (8, 1, 2, 1, []), (1, 1, 0, 0, []), (6, 1, 3, 1, []), (3, 1, 3, 1, []), (5, 1, 0, 1, []), (35, 1, 0, 0, []), (1, 2, 1, 6, []), bz, (10, 1, 1, 0, []), (22, 3, 1637, 4, []), bz, bz, (5, 1, 0, 1, []), (3, 1, 3, 1, []), (27, 1, 0, 0, []), (1, 2, 1, 63, []), bz, (10, 1, 3, 0, []), (24, 175, 1631, 0, [208, 271, 294, 307, 340, 363, 416, 449, 482, 515, 538, 571, 594, 617, 630, 643, 666, 689, 722, 755, 798, 861, 904, 947, 980, 1013, 1046, 1080, 1114, 1157, 1200, 1254, 1297, 1360, 1403, 1446, 1479, 1532, 1565, 1608]), bz, bz, bz, bz, bz, bz, bz, bz, bz, bz, bz, bz, bz, bz, bz, bz, bz, bz, bz, bz, bz, bz, bz, bz, bz, bz, bz, bz, bz, bz, bz, bz, bz, bz, bz, bz, bz, bz, bz, bz, bz, bz, bz, bz, bz, bz, bz, bz, bz, bz, bz, bz, bz, bz, bz, bz, bz, bz, bz, bz, bz, bz, bz, bz, bz, bz, bz, bz, bz, bz, bz, bz, bz, bz, bz, bz, bz, bz, bz, bz, bz, bz, bz, bz, bz, bz, bz, bz, bz, bz, bz, bz, bz, bz, bz, bz, bz, bz, bz, bz, bz, bz, bz, bz, bz, bz, bz, bz, bz, bz, bz, bz, bz, bz, bz, bz, bz, bz, bz, bz, bz, bz, bz, bz, bz, bz, bz, bz, bz, bz, bz, bz, bz, bz, bz, bz, bz, bz, bz, bz, bz, bz, bz, bz, bz, bz, bz, bz, bz, bz, bz, bz, bz, bz, bz, bz, bz, bz, bz, bz, bz, bz, bz, bz, bz, bz, bz, bz, bz, bz, bz, bz, bz, bz, (5, 1, 1, 1, []), (5, 1, 0, 1, []), (3, 1, 3, 1, []), (1, 1, 0, 1, []), (10, 1, 0, 0, []), (27, 1, 0, 0, []), (5, 1, 0, 1, []), (3, 1, 3, 1, []), (1, 1, 0, 2, []), (10, 1, 0, 0, []), (27, 1, 0, 0, []), (5, 1, 0, 1, []), (3, 1, 3, 1, []), (1, 1, 0, 3, []), (10, 1, 0, 0, []), (27, 1, 0, 0, []), (5, 1, 0, 1, []), (3, 1, 3, 1, []), (1, 1, 0, 4, []), (10, 1, 0, 0, []), (27, 1, 0, 0, []), (5, 1, 0, 1, []), (3, 1, 3, 1, []), (1, 1, 0, 5, []), (10, 1, 0, 0, []), (27, 1, 0, 0, []), (40, 3, 211, 0, []), bz, bz, (5, 1, 2, 1, []), (5, 1, 0, 1, []), (3, 1, 3, 1, []), (1, 1, 0, 1, []), (10, 1, 0, 0, []), (27, 1, 0, 0, []), (5, 1, 0, 1, []), (3, 1, 3, 1, []), (1, 1, 0, 2, []), (10, 1, 0, 0, []), (27, 1, 0, 0, []), (5, 1, 0, 1, []), (3, 1, 3, 1, []), (1, 1, 0, 3, []), (10, 1, 0, 0, []), (27, 1, 0, 0, []), (5, 1, 0, 1, []), (3, 1, 3, 1, []), (1, 1, 0, 4, []), (10, 1, 0, 0, []), (27, 1, 0, 0, []), (5, 1, 0, 1, []), (3, 1, 3, 1, []), (1, 1, 0, 5, []), (10, 1, 0, 0, []), (27, 1, 0, 0, []), (40, 3, 212, 0, []), bz, bz, (22, 3, 1631, 0, []), bz, bz, (1, 1, 0, 0, []), (41, 1, 0, 0, []), (5, 1, 1, 1, []), (5, 1, 0, 1, []), (3, 1, 3, 1, []), (1, 1, 0, 1, []), (10, 1, 0, 0, []), (27, 1, 0, 0, []), (40, 3, 213, 0, []), bz, bz, (5, 1, 2, 1, []), (5, 1, 0, 1, []), (3, 1, 3, 1, []), (1, 1, 0, 1, []), (10, 1, 0, 0, []), (27, 1, 0, 0, []), (40, 3, 214, 0, []), bz, bz, (22, 3, 1631, 0, []), bz, bz, (1, 1, 0, 0, []), (41, 1, 0, 0, []), (5, 1, 1, 1, []), (40, 3, 215, 0, []), bz, bz, (5, 1, 2, 1, []), (40, 3, 216, 0, []), bz, bz, (22, 3, 1631, 0, []), bz, bz, (1, 1, 0, 0, []), (41, 1, 0, 0, []), (5, 1, 1, 1, []), (5, 1, 0, 1, []), (3, 1, 3, 1, []), (1, 1, 0, 1, []), (10, 1, 0, 0, []), (27, 1, 0, 0, []), (5, 1, 0, 1, []), (3, 1, 3, 1, []), (1, 1, 0, 2, []), (10, 1, 0, 0, []), (27, 1, 0, 0, []), (40, 3, 217, 0, []), bz, bz, (5, 1, 2, 1, []), (5, 1, 0, 1, []), (3, 1, 3, 1, []), (1, 1, 0, 1, []), (10, 1, 0, 0, []), (27, 1, 0, 0, []), (5, 1, 0, 1, []), (3, 1, 3, 1, []), (1, 1, 0, 2, []), (10, 1, 0, 0, []), (27, 1, 0, 0, []), (40, 3, 218, 0, []), bz, bz, (22, 3, 1631, 0, []), bz, bz, (1, 1, 0, 0, []), (41, 1, 0, 0, []), (5, 1, 1, 1, []), (5, 1, 0, 1, []), (3, 1, 3, 1, []), (1, 1, 0, 1, []), (10, 1, 0, 0, []), (27, 1, 0, 0, []), (40, 3, 219, 0, []), bz, bz, (5, 1, 2, 1, []), (5, 1, 0, 1, []), (3, 1, 3, 1, []), (1, 1, 0, 1, []), (10, 1, 0, 0, []), (27, 1, 0, 0, []), (40, 3, 220, 0, []), bz, bz, (22, 3, 1631, 0, []), bz, bz, (1, 1, 0, 0, []), (41, 1, 0, 0, []), (5, 1, 1, 1, []), (5, 1, 0, 1, []), (3, 1, 3, 1, []), (1, 1, 0, 1, []), (10, 1, 0, 0, []), (27, 1, 0, 0, []), (5, 1, 0, 1, []), (3, 1, 3, 1, []), (1, 1, 0, 2, []), (10, 1, 0, 0, []), (27, 1, 0, 0, []), (5, 1, 0, 1, []), (3, 1, 3, 1, []), (1, 1, 0, 3, []), (10, 1, 0, 0, []), (27, 1, 0, 0, []), (5, 1, 0, 1, []), (3, 1, 3, 1, []), (1, 1, 0, 4, []), (10, 1, 0, 0, []), (27, 1, 0, 0, []), (40, 3, 221, 0, []), bz, bz, (5, 1, 2, 1, []), (5, 1, 0, 1, []), (3, 1, 3, 1, []), (1, 1, 0, 1, []), (10, 1, 0, 0, []), (27, 1, 0, 0, []), (5, 1, 0, 1, []), (3, 1, 3, 1, []), (1, 1, 0, 2, []), (10, 1, 0, 0, []), (27, 1, 0, 0, []), (5, 1, 0, 1, []), (3, 1, 3, 1, []), (1, 1, 0, 3, []), (10, 1, 0, 0, []), (27, 1, 0, 0, []), (5, 1, 0, 1, []), (3, 1, 3, 1, []), (1, 1, 0, 4, []), (10, 1, 0, 0, []), (27, 1, 0, 0, []), (40, 3, 222, 0, []), bz, bz, (22, 3, 1631, 0, []), bz, bz, (1, 1, 0, 0, []), (41, 1, 0, 0, []), (5, 1, 1, 1, []), (5, 1, 0, 1, []), (3, 1, 3, 1, []), (1, 1, 0, 1, []), (10, 1, 0, 0, []), (27, 1, 0, 0, []), (5, 1, 0, 1, []), (3, 1, 3, 1, []), (1, 1, 0, 2, []), (10, 1, 0, 0, []), (27, 1, 0, 0, []), (40, 3, 223, 0, []), bz, bz, (5, 1, 2, 1, []), (5, 1, 0, 1, []), (3, 1, 3, 1, []), (1, 1, 0, 1, []), (10, 1, 0, 0, []), (27, 1, 0, 0, []), (5, 1, 0, 1, []), (3, 1, 3, 1, []), (1, 1, 0, 2, []), (10, 1, 0, 0, []), (27, 1, 0, 0, []), (40, 3, 224, 0, []), bz, bz, (22, 3, 1631, 0, []), bz, bz, (1, 1, 0, 0, []), (41, 1, 0, 0, []), (5, 1, 1, 1, []), (5, 1, 0, 1, []), (3, 1, 3, 1, []), (1, 1, 0, 1, []), (10, 1, 0, 0, []), (27, 1, 0, 0, []), (5, 1, 0, 1, []), (3, 1, 3, 1, []), (1, 1, 0, 2, []), (10, 1, 0, 0, []), (27, 1, 0, 0, []), (40, 3, 225, 0, []), bz, bz, (5, 1, 2, 1, []), (5, 1, 0, 1, []), (3, 1, 3, 1, []), (1, 1, 0, 1, []), (10, 1, 0, 0, []), (27, 1, 0, 0, []), (5, 1, 0, 1, []), (3, 1, 3, 1, []), (1, 1, 0, 2, []), (10, 1, 0, 0, []), (27, 1, 0, 0, []), (40, 3, 226, 0, []), bz, bz, (22, 3, 1631, 0, []), bz, bz, (1, 1, 0, 0, []), (41, 1, 0, 0, []), (5, 1, 1, 1, []), (5, 1, 0, 1, []), (3, 1, 3, 1, []), (1, 1, 0, 1, []), (10, 1, 0, 0, []), (27, 1, 0, 0, []), (5, 1, 0, 1, []), (3, 1, 3, 1, []), (1, 1, 0, 2, []), (10, 1, 0, 0, []), (27, 1, 0, 0, []), (40, 3, 227, 0, []), bz, bz, (5, 1, 2, 1, []), (5, 1, 0, 1, []), (3, 1, 3, 1, []), (1, 1, 0, 1, []), (10, 1, 0, 0, []), (27, 1, 0, 0, []), (5, 1, 0, 1, []), (3, 1, 3, 1, []), (1, 1, 0, 2, []), (10, 1, 0, 0, []), (27, 1, 0, 0, []), (40, 3, 228, 0, []), bz, bz, (22, 3, 1631, 0, []), bz, bz, (1, 1, 0, 0, []), (41, 1, 0, 0, []), (5, 1, 1, 1, []), (5, 1, 0, 1, []), (3, 1, 3, 1, []), (1, 1, 0, 1, []), (10, 1, 0, 0, []), (27, 1, 0, 0, []), (40, 3, 229, 0, []), bz, bz, (5, 1, 2, 1, []), (5, 1, 0, 1, []), (3, 1, 3, 1, []), (1, 1, 0, 1, []), (10, 1, 0, 0, []), (27, 1, 0, 0, []), (40, 3, 230, 0, []), bz, bz, (22, 3, 1631, 0, []), bz, bz, (1, 1, 0, 0, []), (41, 1, 0, 0, []), (5, 1, 1, 1, []), (5, 1, 0, 1, []), (3, 1, 3, 1, []), (1, 1, 0, 1, []), (10, 1, 0, 0, []), (27, 1, 0, 0, []), (5, 1, 0, 1, []), (3, 1, 3, 1, []), (1, 1, 0, 2, []), (10, 1, 0, 0, []), (27, 1, 0, 0, []), (40, 3, 231, 0, []), bz, bz, (5, 1, 2, 1, []), (5, 1, 0, 1, []), (3, 1, 3, 1, []), (1, 1, 0, 1, []), (10, 1, 0, 0, []), (27, 1, 0, 0, []), (5, 1, 0, 1, []), (3, 1, 3, 1, []), (1, 1, 0, 2, []), (10, 1, 0, 0, []), (27, 1, 0, 0, []), (40, 3, 232, 0, []), bz, bz, (22, 3, 1631, 0, []), bz, bz, (1, 1, 0, 0, []), (41, 1, 0, 0, []), (5, 1, 1, 1, []), (5, 1, 0, 1, []), (3, 1, 3, 1, []), (1, 1, 0, 1, []), (10, 1, 0, 0, []), (27, 1, 0, 0, []), (40, 3, 233, 0, []), bz, bz, (5, 1, 2, 1, []), (5, 1, 0, 1, []), (3, 1, 3, 1, []), (1, 1, 0, 1, []), (10, 1, 0, 0, []), (27, 1, 0, 0, []), (40, 3, 234, 0, []), bz, bz, (22, 3, 1631, 0, []), bz, bz, (1, 1, 0, 0, []), (41, 1, 0, 0, []), (5, 1, 1, 1, []), (5, 1, 0, 1, []), (3, 1, 3, 1, []), (1, 1, 0, 1, []), (10, 1, 0, 0, []), (27, 1, 0, 0, []), (40, 3, 235, 0, []), bz, bz, (5, 1, 2, 1, []), (5, 1, 0, 1, []), (3, 1, 3, 1, []), (1, 1, 0, 1, []), (10, 1, 0, 0, []), (27, 1, 0, 0, []), (40, 3, 236, 0, []), bz, bz, (22, 3, 1631, 0, []), bz, bz, (1, 1, 0, 0, []), (41, 1, 0, 0, []), (5, 1, 1, 1, []), (40, 3, 237, 0, []), bz, bz, (5, 1, 2, 1, []), (40, 3, 238, 0, []), bz, bz, (22, 3, 1631, 0, []), bz, bz, (1, 1, 0, 0, []), (41, 1, 0, 0, []), (5, 1, 1, 1, []), (40, 3, 239, 0, []), bz, bz, (5, 1, 2, 1, []), (40, 3, 240, 0, []), bz, bz, (22, 3, 1631, 0, []), bz, bz, (1, 1, 0, 0, []), (41, 1, 0, 0, []), (5, 1, 1, 1, []), (5, 1, 0, 1, []), (3, 1, 3, 1, []), (1, 1, 0, 1, []), (10, 1, 0, 0, []), (27, 1, 0, 0, []), (40, 3, 241, 0, []), bz, bz, (5, 1, 2, 1, []), (5, 1, 0, 1, []), (3, 1, 3, 1, []), (1, 1, 0, 1, []), (10, 1, 0, 0, []), (27, 1, 0, 0, []), (40, 3, 242, 0, []), bz, bz, (22, 3, 1631, 0, []), bz, bz, (1, 1, 0, 0, []), (41, 1, 0, 0, []), (5, 1, 1, 1, []), (5, 1, 0, 1, []), (3, 1, 3, 1, []), (1, 1, 0, 1, []), (10, 1, 0, 0, []), (27, 1, 0, 0, []), (40, 3, 243, 0, []), bz, bz, (5, 1, 2, 1, []), (5, 1, 0, 1, []), (3, 1, 3, 1, []), (1, 1, 0, 1, []), (10, 1, 0, 0, []), (27, 1, 0, 0, []), (40, 3, 244, 0, []), bz, bz, (22, 3, 1631, 0, []), bz, bz, (1, 1, 0, 0, []), (41, 1, 0, 0, []), (5, 1, 1, 1, []), (5, 1, 0, 1, []), (3, 1, 3, 1, []), (1, 1, 0, 1, []), (10, 1, 0, 0, []), (27, 1, 0, 0, []), (5, 1, 0, 1, []), (3, 1, 3, 1, []), (1, 1, 0, 2, []), (10, 1, 0, 0, []), (27, 1, 0, 0, []), (40, 3, 245, 0, []), bz, bz, (5, 1, 2, 1, []), (5, 1, 0, 1, []), (3, 1, 3, 1, []), (1, 1, 0, 1, []), (10, 1, 0, 0, []), (27, 1, 0, 0, []), (5, 1, 0, 1, []), (3, 1, 3, 1, []), (1, 1, 0, 2, []), (10, 1, 0, 0, []), (27, 1, 0, 0, []), (40, 3, 246, 0, []), bz, bz, (22, 3, 1631, 0, []), bz, bz, (1, 1, 0, 0, []), (41, 1, 0, 0, []), (5, 1, 1, 1, []), (5, 1, 0, 1, []), (3, 1, 3, 1, []), (1, 1, 0, 1, []), (10, 1, 0, 0, []), (27, 1, 0, 0, []), (5, 1, 0, 1, []), (3, 1, 3, 1, []), (1, 1, 0, 2, []), (10, 1, 0, 0, []), (27, 1, 0, 0, []), (40, 3, 247, 0, []), bz, bz, (5, 1, 2, 1, []), (5, 1, 0, 1, []), (3, 1, 3, 1, []), (1, 1, 0, 1, []), (10, 1, 0, 0, []), (27, 1, 0, 0, []), (5, 1, 0, 1, []), (3, 1, 3, 1, []), (1, 1, 0, 2, []), (10, 1, 0, 0, []), (27, 1, 0, 0, []), (40, 3, 248, 0, []), bz, bz, (22, 3, 1631, 0, []), bz, bz, (1, 1, 0, 0, []), (41, 1, 0, 0, []), (5, 1, 1, 1, []), (5, 1, 0, 1, []), (3, 1, 3, 1, []), (1, 1, 0, 1, []), (10, 1, 0, 0, []), (27, 1, 0, 0, []), (5, 1, 0, 1, []), (3, 1, 3, 1, []), (1, 1, 0, 2, []), (10, 1, 0, 0, []), (27, 1, 0, 0, []), (5, 1, 0, 1, []), (3, 1, 3, 1, []), (1, 1, 0, 3, []), (10, 1, 0, 0, []), (27, 1, 0, 0, []), (40, 3, 249, 0, []), bz, bz, (5, 1, 2, 1, []), (5, 1, 0, 1, []), (3, 1, 3, 1, []), (1, 1, 0, 1, []), (10, 1, 0, 0, []), (27, 1, 0, 0, []), (5, 1, 0, 1, []), (3, 1, 3, 1, []), (1, 1, 0, 2, []), (10, 1, 0, 0, []), (27, 1, 0, 0, []), (5, 1, 0, 1, []), (3, 1, 3, 1, []), (1, 1, 0, 3, []), (10, 1, 0, 0, []), (27, 1, 0, 0, []), (40, 3, 250, 0, []), bz, bz, (22, 3, 1631, 0, []), bz, bz, (1, 1, 0, 0, []), (41, 1, 0, 0, []), (5, 1, 1, 1, []), (5, 1, 0, 1, []), (3, 1, 3, 1, []), (1, 1, 0, 1, []), (10, 1, 0, 0, []), (27, 1, 0, 0, []), (5, 1, 0, 1, []), (3, 1, 3, 1, []), (1, 1, 0, 2, []), (10, 1, 0, 0, []), (27, 1, 0, 0, []), (5, 1, 0, 1, []), (3, 1, 3, 1, []), (1, 1, 0, 3, []), (10, 1, 0, 0, []), (27, 1, 0, 0, []), (5, 1, 0, 1, []), (3, 1, 3, 1, []), (1, 1, 0, 4, []), (10, 1, 0, 0, []), (27, 1, 0, 0, []), (5, 1, 0, 1, []), (3, 1, 3, 1, []), (1, 1, 0, 5, []), (10, 1, 0, 0, []), (27, 1, 0, 0, []), (40, 3, 251, 0, []), bz, bz, (5, 1, 2, 1, []), (5, 1, 0, 1, []), (3, 1, 3, 1, []), (1, 1, 0, 1, []), (10, 1, 0, 0, []), (27, 1, 0, 0, []), (5, 1, 0, 1, []), (3, 1, 3, 1, []), (1, 1, 0, 2, []), (10, 1, 0, 0, []), (27, 1, 0, 0, []), (5, 1, 0, 1, []), (3, 1, 3, 1, []), (1, 1, 0, 3, []), (10, 1, 0, 0, []), (27, 1, 0, 0, []), (5, 1, 0, 1, []), (3, 1, 3, 1, []), (1, 1, 0, 4, []), (10, 1, 0, 0, []), (27, 1, 0, 0, []), (5, 1, 0, 1, []), (3, 1, 3, 1, []), (1, 1, 0, 5, []), (10, 1, 0, 0, []), (27, 1, 0, 0, []), (40, 3, 252, 0, []), bz, bz, (22, 3, 1631, 0, []), bz, bz, (1, 1, 0, 0, []), (41, 1, 0, 0, []), (5, 1, 1, 1, []), (5, 1, 0, 1, []), (3, 1, 3, 1, []), (1, 1, 0, 1, []), (10, 1, 0, 0, []), (27, 1, 0, 0, []), (5, 1, 0, 1, []), (3, 1, 3, 1, []), (1, 1, 0, 2, []), (10, 1, 0, 0, []), (27, 1, 0, 0, []), (5, 1, 0, 1, []), (3, 1, 3, 1, []), (1, 1, 0, 3, []), (10, 1, 0, 0, []), (27, 1, 0, 0, []), (40, 3, 253, 0, []), bz, bz, (5, 1, 2, 1, []), (5, 1, 0, 1, []), (3, 1, 3, 1, []), (1, 1, 0, 1, []), (10, 1, 0, 0, []), (27, 1, 0, 0, []), (5, 1, 0, 1, []), (3, 1, 3, 1, []), (1, 1, 0, 2, []), (10, 1, 0, 0, []), (27, 1, 0, 0, []), (5, 1, 0, 1, []), (3, 1, 3, 1, []), (1, 1, 0, 3, []), (10, 1, 0, 0, []), (27, 1, 0, 0, []), (40, 3, 254, 0, []), bz, bz, (22, 3, 1631, 0, []), bz, bz, (1, 1, 0, 0, []), (41, 1, 0, 0, []), (5, 1, 1, 1, []), (5, 1, 0, 1, []), (3, 1, 3, 1, []), (1, 1, 0, 1, []), (10, 1, 0, 0, []), (27, 1, 0, 0, []), (5, 1, 0, 1, []), (3, 1, 3, 1, []), (1, 1, 0, 2, []), (10, 1, 0, 0, []), (27, 1, 0, 0, []), (5, 1, 0, 1, []), (3, 1, 3, 1, []), (1, 1, 0, 3, []), (10, 1, 0, 0, []), (27, 1, 0, 0, []), (40, 3, 255, 0, []), bz, bz, (5, 1, 2, 1, []), (5, 1, 0, 1, []), (3, 1, 3, 1, []), (1, 1, 0, 1, []), (10, 1, 0, 0, []), (27, 1, 0, 0, []), (5, 1, 0, 1, []), (3, 1, 3, 1, []), (1, 1, 0, 2, []), (10, 1, 0, 0, []), (27, 1, 0, 0, []), (5, 1, 0, 1, []), (3, 1, 3, 1, []), (1, 1, 0, 3, []), (10, 1, 0, 0, []), (27, 1, 0, 0, []), (40, 3, 256, 0, []), bz, bz, (22, 3, 1631, 0, []), bz, bz, (1, 1, 0, 0, []), (41, 1, 0, 0, []), (5, 1, 1, 1, []), (5, 1, 0, 1, []), (3, 1, 3, 1, []), (1, 1, 0, 1, []), (10, 1, 0, 0, []), (27, 1, 0, 0, []), (5, 1, 0, 1, []), (3, 1, 3, 1, []), (1, 1, 0, 2, []), (10, 1, 0, 0, []), (27, 1, 0, 0, []), (40, 3, 257, 0, []), bz, bz, (5, 1, 2, 1, []), (5, 1, 0, 1, []), (3, 1, 3, 1, []), (1, 1, 0, 1, []), (10, 1, 0, 0, []), (27, 1, 0, 0, []), (5, 1, 0, 1, []), (3, 1, 3, 1, []), (1, 1, 0, 2, []), (10, 1, 0, 0, []), (27, 1, 0, 0, []), (40, 3, 258, 0, []), bz, bz, (22, 3, 1631, 0, []), bz, bz, (1, 1, 0, 0, []), (41, 1, 0, 0, []), (5, 1, 1, 1, []), (5, 1, 0, 1, []), (3, 1, 3, 1, []), (1, 1, 0, 1, []), (10, 1, 0, 0, []), (27, 1, 0, 0, []), (5, 1, 0, 1, []), (3, 1, 3, 1, []), (1, 1, 0, 2, []), (10, 1, 0, 0, []), (27, 1, 0, 0, []), (40, 3, 259, 0, []), bz, bz, (5, 1, 2, 1, []), (5, 1, 0, 1, []), (3, 1, 3, 1, []), (1, 1, 0, 1, []), (10, 1, 0, 0, []), (27, 1, 0, 0, []), (5, 1, 0, 1, []), (3, 1, 3, 1, []), (1, 1, 0, 2, []), (10, 1, 0, 0, []), (27, 1, 0, 0, []), (40, 3, 260, 0, []), bz, bz, (22, 3, 1631, 0, []), bz, bz, (1, 1, 0, 0, []), (41, 1, 0, 0, []), (5, 1, 1, 1, []), (5, 1, 0, 1, []), (3, 1, 3, 1, []), (1, 1, 0, 1, []), (10, 1, 0, 0, []), (27, 1, 0, 0, []), (5, 1, 0, 1, []), (3, 1, 3, 1, []), (1, 1, 0, 2, []), (10, 1, 0, 0, []), (27, 1, 0, 0, []), (40, 3, 261, 0, []), bz, bz, (5, 1, 2, 1, []), (5, 1, 0, 1, []), (3, 1, 3, 1, []), (1, 1, 0, 1, []), (10, 1, 0, 0, []), (27, 1, 0, 0, []), (5, 1, 0, 1, []), (3, 1, 3, 1, []), (1, 1, 0, 2, []), (10, 1, 0, 0, []), (27, 1, 0, 0, []), (40, 3, 262, 0, []), bz, bz, (22, 3, 1631, 0, []), bz, bz, (1, 1, 0, 0, []), (41, 1, 0, 0, []), (5, 1, 1, 1, []), (5, 1, 0, 1, []), (3, 1, 3, 1, []), (1, 1, 0, 1, []), (10, 1, 0, 0, []), (27, 1, 0, 0, []), (5, 1, 0, 1, []), (3, 1, 3, 1, []), (1, 1, 0, 2, []), (10, 1, 0, 0, []), (27, 1, 0, 0, []), (40, 3, 263, 0, []), bz, bz, (5, 1, 2, 1, []), (5, 1, 0, 1, []), (3, 1, 3, 1, []), (1, 1, 0, 1, []), (10, 1, 0, 0, []), (27, 1, 0, 0, []), (5, 1, 0, 1, []), (3, 1, 3, 1, []), (1, 1, 0, 2, []), (10, 1, 0, 0, []), (27, 1, 0, 0, []), (40, 3, 264, 0, []), bz, bz, (17, 1, 0, 0, []), (21, 3, 1631, 0, []), bz, bz, (1, 1, 0, 0, []), (41, 1, 0, 0, []), (5, 1, 1, 1, []), (5, 1, 0, 1, []), (3, 1, 3, 1, []), (1, 1, 0, 1, []), (10, 1, 0, 0, []), (27, 1, 0, 0, []), (5, 1, 0, 1, []), (3, 1, 3, 1, []), (1, 1, 0, 2, []), (10, 1, 0, 0, []), (27, 1, 0, 0, []), (40, 3, 265, 0, []), bz, bz, (5, 1, 2, 1, []), (5, 1, 0, 1, []), (3, 1, 3, 1, []), (1, 1, 0, 1, []), (10, 1, 0, 0, []), (27, 1, 0, 0, []), (5, 1, 0, 1, []), (3, 1, 3, 1, []), (1, 1, 0, 2, []), (10, 1, 0, 0, []), (27, 1, 0, 0, []), (40, 3, 266, 0, []), bz, bz, (17, 1, 0, 0, []), (21, 3, 1631, 0, []), bz, bz, (1, 1, 0, 0, []), (41, 1, 0, 0, []), (5, 1, 1, 1, []), (5, 1, 0, 1, []), (3, 1, 3, 1, []), (1, 1, 0, 1, []), (10, 1, 0, 0, []), (27, 1, 0, 0, []), (5, 1, 0, 1, []), (3, 1, 3, 1, []), (1, 1, 0, 2, []), (10, 1, 0, 0, []), (27, 1, 0, 0, []), (5, 1, 0, 1, []), (3, 1, 3, 1, []), (1, 1, 0, 3, []), (10, 1, 0, 0, []), (27, 1, 0, 0, []), (40, 3, 267, 0, []), bz, bz, (5, 1, 2, 1, []), (5, 1, 0, 1, []), (3, 1, 3, 1, []), (1, 1, 0, 1, []), (10, 1, 0, 0, []), (27, 1, 0, 0, []), (5, 1, 0, 1, []), (3, 1, 3, 1, []), (1, 1, 0, 2, []), (10, 1, 0, 0, []), (27, 1, 0, 0, []), (5, 1, 0, 1, []), (3, 1, 3, 1, []), (1, 1, 0, 3, []), (10, 1, 0, 0, []), (27, 1, 0, 0, []), (40, 3, 268, 0, []), bz, bz, (22, 3, 1631, 0, []), bz, bz, (1, 1, 0, 0, []), (41, 1, 0, 0, []), (5, 1, 1, 1, []), (5, 1, 0, 1, []), (3, 1, 3, 1, []), (1, 1, 0, 1, []), (10, 1, 0, 0, []), (27, 1, 0, 0, []), (5, 1, 0, 1, []), (3, 1, 3, 1, []), (1, 1, 0, 2, []), (10, 1, 0, 0, []), (27, 1, 0, 0, []), (5, 1, 0, 1, []), (3, 1, 3, 1, []), (1, 1, 0, 3, []), (10, 1, 0, 0, []), (27, 1, 0, 0, []), (40, 3, 269, 0, []), bz, bz, (5, 1, 2, 1, []), (5, 1, 0, 1, []), (3, 1, 3, 1, []), (1, 1, 0, 1, []), (10, 1, 0, 0, []), (27, 1, 0, 0, []), (5, 1, 0, 1, []), (3, 1, 3, 1, []), (1, 1, 0, 2, []), (10, 1, 0, 0, []), (27, 1, 0, 0, []), (5, 1, 0, 1, []), (3, 1, 3, 1, []), (1, 1, 0, 3, []), (10, 1, 0, 0, []), (27, 1, 0, 0, []), (40, 3, 270, 0, []), bz, bz, (22, 3, 1631, 0, []), bz, bz, (1, 1, 0, 0, []), (41, 1, 0, 0, []), (5, 1, 1, 1, []), (5, 1, 0, 1, []), (3, 1, 3, 1, []), (1, 1, 0, 1, []), (10, 1, 0, 0, []), (27, 1, 0, 0, []), (5, 1, 0, 1, []), (3, 1, 3, 1, []), (1, 1, 0, 2, []), (10, 1, 0, 0, []), (27, 1, 0, 0, []), (5, 1, 0, 1, []), (3, 1, 3, 1, []), (1, 1, 0, 3, []), (10, 1, 0, 0, []), (27, 1, 0, 0, []), (5, 1, 0, 1, []), (3, 1, 3, 1, []), (1, 1, 0, 4, []), (10, 1, 0, 0, []), (27, 1, 0, 0, []), (40, 3, 271, 0, []), bz, bz, (5, 1, 2, 1, []), (5, 1, 0, 1, []), (3, 1, 3, 1, []), (1, 1, 0, 1, []), (10, 1, 0, 0, []), (27, 1, 0, 0, []), (5, 1, 0, 1, []), (3, 1, 3, 1, []), (1, 1, 0, 2, []), (10, 1, 0, 0, []), (27, 1, 0, 0, []), (5, 1, 0, 1, []), (3, 1, 3, 1, []), (1, 1, 0, 3, []), (10, 1, 0, 0, []), (27, 1, 0, 0, []), (5, 1, 0, 1, []), (3, 1, 3, 1, []), (1, 1, 0, 4, []), (10, 1, 0, 0, []), (27, 1, 0, 0, []), (40, 3, 272, 0, []), bz, bz, (17, 1, 0, 0, []), (21, 3, 1631, 0, []), bz, bz, (1, 1, 0, 0, []), (41, 1, 0, 0, []), (5, 1, 1, 1, []), (5, 1, 0, 1, []), (3, 1, 3, 1, []), (1, 1, 0, 1, []), (10, 1, 0, 0, []), (27, 1, 0, 0, []), (5, 1, 0, 1, []), (3, 1, 3, 1, []), (1, 1, 0, 2, []), (10, 1, 0, 0, []), (27, 1, 0, 0, []), (5, 1, 0, 1, []), (3, 1, 3, 1, []), (1, 1, 0, 3, []), (10, 1, 0, 0, []), (27, 1, 0, 0, []), (40, 3, 273, 0, []), bz, bz, (5, 1, 2, 1, []), (5, 1, 0, 1, []), (3, 1, 3, 1, []), (1, 1, 0, 1, []), (10, 1, 0, 0, []), (27, 1, 0, 0, []), (5, 1, 0, 1, []), (3, 1, 3, 1, []), (1, 1, 0, 2, []), (10, 1, 0, 0, []), (27, 1, 0, 0, []), (5, 1, 0, 1, []), (3, 1, 3, 1, []), (1, 1, 0, 3, []), (10, 1, 0, 0, []), (27, 1, 0, 0, []), (40, 3, 274, 0, []), bz, bz, (22, 3, 1631, 0, []), bz, bz, (1, 1, 0, 0, []), (41, 1, 0, 0, []), (5, 1, 1, 1, []), (5, 1, 0, 1, []), (3, 1, 3, 1, []), (1, 1, 0, 1, []), (10, 1, 0, 0, []), (27, 1, 0, 0, []), (5, 1, 0, 1, []), (3, 1, 3, 1, []), (1, 1, 0, 2, []), (10, 1, 0, 0, []), (27, 1, 0, 0, []), (5, 1, 0, 1, []), (3, 1, 3, 1, []), (1, 1, 0, 3, []), (10, 1, 0, 0, []), (27, 1, 0, 0, []), (5, 1, 0, 1, []), (3, 1, 3, 1, []), (1, 1, 0, 4, []), (10, 1, 0, 0, []), (27, 1, 0, 0, []), (5, 1, 0, 1, []), (3, 1, 3, 1, []), (1, 1, 0, 5, []), (10, 1, 0, 0, []), (27, 1, 0, 0, []), (40, 3, 275, 0, []), bz, bz, (5, 1, 2, 1, []), (5, 1, 0, 1, []), (3, 1, 3, 1, []), (1, 1, 0, 1, []), (10, 1, 0, 0, []), (27, 1, 0, 0, []), (5, 1, 0, 1, []), (3, 1, 3, 1, []), (1, 1, 0, 2, []), (10, 1, 0, 0, []), (27, 1, 0, 0, []), (5, 1, 0, 1, []), (3, 1, 3, 1, []), (1, 1, 0, 3, []), (10, 1, 0, 0, []), (27, 1, 0, 0, []), (5, 1, 0, 1, []), (3, 1, 3, 1, []), (1, 1, 0, 4, []), (10, 1, 0, 0, []), (27, 1, 0, 0, []), (5, 1, 0, 1, []), (3, 1, 3, 1, []), (1, 1, 0, 5, []), (10, 1, 0, 0, []), (27, 1, 0, 0, []), (40, 3, 276, 0, []), bz, bz, (22, 3, 1631, 0, []), bz, bz, (1, 1, 0, 0, []), (41, 1, 0, 0, []), (5, 1, 1, 1, []), (5, 1, 0, 1, []), (3, 1, 3, 1, []), (1, 1, 0, 1, []), (10, 1, 0, 0, []), (27, 1, 0, 0, []), (5, 1, 0, 1, []), (3, 1, 3, 1, []), (1, 1, 0, 2, []), (10, 1, 0, 0, []), (27, 1, 0, 0, []), (5, 1, 0, 1, []), (3, 1, 3, 1, []), (1, 1, 0, 3, []), (10, 1, 0, 0, []), (27, 1, 0, 0, []), (40, 3, 277, 0, []), bz, bz, (5, 1, 2, 1, []), (5, 1, 0, 1, []), (3, 1, 3, 1, []), (1, 1, 0, 1, []), (10, 1, 0, 0, []), (27, 1, 0, 0, []), (5, 1, 0, 1, []), (3, 1, 3, 1, []), (1, 1, 0, 2, []), (10, 1, 0, 0, []), (27, 1, 0, 0, []), (5, 1, 0, 1, []), (3, 1, 3, 1, []), (1, 1, 0, 3, []), (10, 1, 0, 0, []), (27, 1, 0, 0, []), (40, 3, 278, 0, []), bz, bz, (22, 3, 1631, 0, []), bz, bz, (1, 1, 0, 0, []), (41, 1, 0, 0, []), (5, 1, 1, 1, []), (5, 1, 0, 1, []), (3, 1, 3, 1, []), (1, 1, 0, 1, []), (10, 1, 0, 0, []), (27, 1, 0, 0, []), (5, 1, 0, 1, []), (3, 1, 3, 1, []), (1, 1, 0, 2, []), (10, 1, 0, 0, []), (27, 1, 0, 0, []), (5, 1, 0, 1, []), (3, 1, 3, 1, []), (1, 1, 0, 3, []), (10, 1, 0, 0, []), (27, 1, 0, 0, []), (40, 3, 279, 0, []), bz, bz, (5, 1, 2, 1, []), (5, 1, 0, 1, []), (3, 1, 3, 1, []), (1, 1, 0, 1, []), (10, 1, 0, 0, []), (27, 1, 0, 0, []), (5, 1, 0, 1, []), (3, 1, 3, 1, []), (1, 1, 0, 2, []), (10, 1, 0, 0, []), (27, 1, 0, 0, []), (5, 1, 0, 1, []), (3, 1, 3, 1, []), (1, 1, 0, 3, []), (10, 1, 0, 0, []), (27, 1, 0, 0, []), (40, 3, 280, 0, []), bz, bz, (22, 3, 1631, 0, []), bz, bz, (1, 1, 0, 0, []), (41, 1, 0, 0, []), (5, 1, 1, 1, []), (5, 1, 0, 1, []), (3, 1, 3, 1, []), (1, 1, 0, 1, []), (10, 1, 0, 0, []), (27, 1, 0, 0, []), (5, 1, 0, 1, []), (3, 1, 3, 1, []), (1, 1, 0, 2, []), (10, 1, 0, 0, []), (27, 1, 0, 0, []), (40, 3, 281, 0, []), bz, bz, (5, 1, 2, 1, []), (5, 1, 0, 1, []), (3, 1, 3, 1, []), (1, 1, 0, 1, []), (10, 1, 0, 0, []), (27, 1, 0, 0, []), (5, 1, 0, 1, []), (3, 1, 3, 1, []), (1, 1, 0, 2, []), (10, 1, 0, 0, []), (27, 1, 0, 0, []), (40, 3, 282, 0, []), bz, bz, (22, 3, 1631, 0, []), bz, bz, (1, 1, 0, 0, []), (41, 1, 0, 0, []), (5, 1, 1, 1, []), (5, 1, 0, 1, []), (3, 1, 3, 1, []), (1, 1, 0, 1, []), (10, 1, 0, 0, []), (27, 1, 0, 0, []), (5, 1, 0, 1, []), (3, 1, 3, 1, []), (1, 1, 0, 2, []), (10, 1, 0, 0, []), (27, 1, 0, 0, []), (5, 1, 0, 1, []), (3, 1, 3, 1, []), (1, 1, 0, 3, []), (10, 1, 0, 0, []), (27, 1, 0, 0, []), (5, 1, 0, 1, []), (3, 1, 3, 1, []), (1, 1, 0, 4, []), (10, 1, 0, 0, []), (27, 1, 0, 0, []), (40, 3, 283, 0, []), bz, bz, (5, 1, 2, 1, []), (5, 1, 0, 1, []), (3, 1, 3, 1, []), (1, 1, 0, 1, []), (10, 1, 0, 0, []), (27, 1, 0, 0, []), (5, 1, 0, 1, []), (3, 1, 3, 1, []), (1, 1, 0, 2, []), (10, 1, 0, 0, []), (27, 1, 0, 0, []), (5, 1, 0, 1, []), (3, 1, 3, 1, []), (1, 1, 0, 3, []), (10, 1, 0, 0, []), (27, 1, 0, 0, []), (5, 1, 0, 1, []), (3, 1, 3, 1, []), (1, 1, 0, 4, []), (10, 1, 0, 0, []), (27, 1, 0, 0, []), (40, 3, 284, 0, []), bz, bz, (22, 3, 1631, 0, []), bz, bz, (1, 1, 0, 0, []), (41, 1, 0, 0, []), (5, 1, 1, 1, []), (5, 1, 0, 1, []), (3, 1, 3, 1, []), (1, 1, 0, 1, []), (10, 1, 0, 0, []), (27, 1, 0, 0, []), (5, 1, 0, 1, []), (3, 1, 3, 1, []), (1, 1, 0, 2, []), (10, 1, 0, 0, []), (27, 1, 0, 0, []), (40, 3, 285, 0, []), bz, bz, (5, 1, 2, 1, []), (5, 1, 0, 1, []), (3, 1, 3, 1, []), (1, 1, 0, 1, []), (10, 1, 0, 0, []), (27, 1, 0, 0, []), (5, 1, 0, 1, []), (3, 1, 3, 1, []), (1, 1, 0, 2, []), (10, 1, 0, 0, []), (27, 1, 0, 0, []), (40, 3, 286, 0, []), bz, bz, (22, 3, 1631, 0, []), bz, bz, (1, 1, 0, 0, []), (41, 1, 0, 0, []), (5, 1, 1, 1, []), (5, 1, 0, 1, []), (3, 1, 3, 1, []), (1, 1, 0, 1, []), (10, 1, 0, 0, []), (27, 1, 0, 0, []), (5, 1, 0, 1, []), (3, 1, 3, 1, []), (1, 1, 0, 2, []), (10, 1, 0, 0, []), (27, 1, 0, 0, []), (5, 1, 0, 1, []), (3, 1, 3, 1, []), (1, 1, 0, 3, []), (10, 1, 0, 0, []), (27, 1, 0, 0, []), (40, 3, 287, 0, []), bz, bz, (5, 1, 2, 1, []), (5, 1, 0, 1, []), (3, 1, 3, 1, []), (1, 1, 0, 1, []), (10, 1, 0, 0, []), (27, 1, 0, 0, []), (5, 1, 0, 1, []), (3, 1, 3, 1, []), (1, 1, 0, 2, []), (10, 1, 0, 0, []), (27, 1, 0, 0, []), (5, 1, 0, 1, []), (3, 1, 3, 1, []), (1, 1, 0, 3, []), (10, 1, 0, 0, []), (27, 1, 0, 0, []), (40, 3, 288, 0, []), bz, bz, (22, 3, 1631, 0, []), bz, bz, (1, 1, 0, 0, []), (41, 1, 0, 0, []), (5, 1, 1, 1, []), (5, 1, 0, 1, []), (3, 1, 3, 1, []), (1, 1, 0, 1, []), (10, 1, 0, 0, []), (27, 1, 0, 0, []), (40, 3, 289, 0, []), bz, bz, (5, 1, 2, 1, []), (5, 1, 0, 1, []), (3, 1, 3, 1, []), (1, 1, 0, 1, []), (10, 1, 0, 0, []), (27, 1, 0, 0, []), (40, 3, 290, 0, []), bz, bz, (22, 3, 1631, 0, []), bz, bz, (1, 1, 0, 0, []), (41, 1, 0, 0, []), (9, 3, 3, 6, []), bz, bz, (23, 3, 18, 0, []), bz, bz, (1, 1, 0, 1, []), (41, 1, 0, 0, [])]
def cd_J6_bitCount_0f7a4 : List bh_I := [(3, 1, 0, 1, []), (3, 1, 0, 1, []), (1, 1, 0, 1, []), (10, 1, 8, 0, []), (1, 3, 4, 1431655765, [265, 844]), bz, bz, (10, 1, 3, 0, []), (10, 1, 1, 0, []), (6, 1, 0, 1, []), (3, 1, 0, 1, []), (1, 3, 4, 858993459, [266, 845]), bz, bz, (10, 1, 3, 0, []), (3, 1, 0, 1, []), (1, 1, 0, 2, []), (10, 1, 8, 0, []), (1, 3, 4, 858993459, [266, 845]), bz, bz, (10, 1, 3, 0, []), (10, 1, 0, 0, []), (6, 1, 0, 1, []), (3, 1, 0, 1, []), (3, 1, 0, 1, []), (1, 1, 0, 4, []), (10, 1, 8, 0, []), (10, 1, 0, 0, []), (1, 3, 4, 252645135, [267, 846]), bz, bz, (10, 1, 3, 0, []), (6, 1, 0, 1, []), (3, 1, 0, 1, []), (3, 1, 0, 1, []), (1, 2, 1, 8, []), bz, (10, 1, 8, 0, []), (10, 1, 0, 0, []), (6, 1, 0, 1, []), (3, 1, 0, 1, []), (3, 1, 0, 1, []), (1, 2, 1, 16, []), bz, (10, 1, 8, 0, []), (10, 1, 0, 0, []), (6, 1, 0, 1, []), (3, 1, 0, 1, []), (1, 2, 1, 63, []), bz, (10, 1, 3, 0, []), (41, 1, 0, 0, [])]
def bh_codes : List (List bh_I) := [cd_X0_init, cd_X0_fewestPages, cd_X0_fillRows, cd_X0_listTwos, cd_X0_differingPages, cd_X0_allApart, cd_X1_signsOf, cd_X1_firstSign, cd_X1_secondSign, cd_X1_stands, cd_X1_changeRow, cd_X1_signAt, cd_X2_init, cd_X2_listFrom, cd_X2_listUntilDead, cd_X2_lowest, cd_X2_asBits, cd_X2_anyDead, cd_X2_passUp, cd_X2_lineOf, cd_X3_init, cd_X3_gather, cd_X3_clashes, cd_X3_clash, cd_X3_unlikeSets, cd_X3_isFirstOfItsLike, cd_X3_longestRow, cd_X3_longestWithin, cd_X4_init, cd_X4_search, cd_X4_ofFirst, cd_X4_findDemand, cd_X4_tryHabits, cd_X4_tryOne, cd_X5_init, cd_X5_cut, cd_X5_whoMade, cd_X6_init, cd_X6_hasRoom, cd_X6_append, cd_X6_readInto, cd_X6_readPart, cd_X6_readSemicolon, cd_X6_readWriter, cd_X6_readHabit, cd_X6_readUnder, cd_X6_readBook, cd_X6_readNumber, cd_X6_readWord, cd_X6_wordIs, cd_X6_kindOfWord, cd_X6_wordOfKind, cd_X6_skipBlanks, cd_X6_isLetter, cd_X6_isDigit, cd_X6_refuse, cd_X7_init, cd_X7_empty, cd_X7_copyFrom, cd_X7_copyRow, cd_X7_addWriter, cd_X7_addBook, cd_X7_addPage, cd_X7_isWriter, cd_X7_isBook, cd_X7_isPage, cd_X7_isDead, cd_X7_inMood, cd_X7_hasStock, cd_X7_stockOf, cd_X7_putStock, cd_X7_hasHabit, cd_X7_setHabit, cd_X7_habitOn, cd_X7_rowOf, cd_X7_pageOfSeen, cd_X7_havingUnder, cd_X7_allPages, cd_X7_sumOf, cd_X8_init, cd_X8_follow, cd_X8_changedBy, cd_X8_step, cd_X8_put, cd_X8_turn, cd_X8_swap, cd_X9_init, cd_X9_feed, cd_X9_end, cd_X9_tell, cd_X9_hire, cd_X9_sack, cd_X9_teach, cd_X9_praise, cd_X9_blame, cd_X9_order, cd_X9_day, cd_X9_store, cd_X9_die, cd_X9_see, cd_X9_forget, cd_X9_undo, cd_X9_keep, cd_X9_back, cd_X9_writer, cd_X9_page, cd_X9_line, cd_X9_trace, cd_X9_own, cd_X9_pay, cd_X9_alike, cd_X9_fits, cd_X9_likeliest, cd_X9_matches, cd_X9_trees, cd_X9_under, cd_X9_breaks, cd_X9_untangle, cd_X9_tells, cd_X9_slips, cd_X9_errors, cd_X9_nested, cd_X9_shared, cd_X9_quarrel, cd_X9_served, cd_X9_between, cd_X9_count, cd_X9_isSign, cd_X9_isRow, cd_X9_isGift, cd_X9_isShelf, cd_X9_isSetOfWriters, cd_X9_remember, cd_X9_handsOf, cd_X9_lowestOf, cd_X9_mostHands, cd_X9_lineOf, cd_X9_lineAt, cd_X9_lacksLines, cd_X9_followTrail, cd_X9_passedUp, cd_X9_seenFitsWriters, cd_X9_choicesBySeen, cd_X9_countWays, cd_X9_sendDown, cd_X10_init, cd_X10_in, cd_X10_truth, cd_X10_has, cd_X10_moves, cd_X10_feed, cd_X10_puts, cd_X10_end, cd_X10_sign, cd_X10_next, cd_X10_isRight, cd_X10_fails, cd_X10_isDigit, cd_X10_number, cd_X10_isWord, cd_X10_takes, cd_X10_kindTold, cd_X10_needs, cd_X10_readsHabit, cd_X10_readsWriter, cd_X10_readsBook, cd_X10_readsPart, cd_X10_tell, cd_X10_isWriter, cd_X10_of, cd_X10_puts_, cd_X10_under, cd_X10_isDead, cd_X10_isBook, cd_X10_pagesOf, cd_X10_isPage, cd_X10_pageOf, cd_X10_hasStock, cd_X10_stockAt, cd_X10_hands, cd_X10_handsSet, cd_X10_done, cd_X10_with, cd_X10_habit, cd_X10_passes, cd_X10_lineOf, cd_X10_isAnyDead, cd_X10_keepsPast, cd_X10_undo, cd_X10_keep, cd_X10_back, cd_X10_hire, cd_X10_sack, cd_X10_isHabit, cd_X10_hasHabit, cd_X10_learns, cd_X10_teach, cd_X10_goesDown, cd_X10_praise, cd_X10_blame, cd_X10_order, cd_X10_day, cd_X10_moods, cd_X10_hasAll, cd_X10_store, cd_X10_die, cd_X10_see, cd_X10_forget, cd_X10_overWhom, cd_X10_writer, cd_X10_page, cd_X10_line, cd_X10_brings, cd_X10_traces, cd_X10_laysTrace, cd_X10_trace, cd_X10_own, cd_X10_pay, cd_X10_laysSource, cd_X10_leads, cd_X10_alike, cd_X10_fits, cd_X10_likeliest, cd_X10_matches, cd_X10_seen, cd_X10_canTree, cd_X10_choices, cd_X10_trees, cd_X10_under_, cd_X10_couldBe, cd_X10_stretches, cd_X10_canBreak, cd_X10_breaks, cd_X10_between, cd_X10_untangle, cd_X10_isSet, cd_X10_unlikeOn, cd_X10_laysApart, cd_X10_tells, cd_X10_lineWith, cd_X10_slipsBy, cd_X10_slips, cd_X10_errorsOf, cd_X10_errors, cd_X10_isWithin, cd_X10_clashes, cd_X10_laysUnlike, cd_X10_longestRow, cd_X10_nested, cd_X10_shared, cd_X10_quarrel, cd_X10_makes, cd_X10_served, cd_X10_sumOf, cd_X10_pagesOfAll, cd_X10_alone, cd_X10_mostHands, cd_X10_deadOnes, cd_X10_count, cd_L_law, cd_J6_bitCount_0f7a4]
def bh_ys : List MethodName := [yX0_init, yX0_fewestPages, yX0_fillRows, yX0_listTwos, yX0_differingPages, yX0_allApart, yX1_signsOf, yX1_firstSign, yX1_secondSign, yX1_stands, yX1_changeRow, yX1_signAt, yX2_init, yX2_listFrom, yX2_listUntilDead, yX2_lowest, yX2_asBits, yX2_anyDead, yX2_passUp, yX2_lineOf, yX3_init, yX3_gather, yX3_clashes, yX3_clash, yX3_unlikeSets, yX3_isFirstOfItsLike, yX3_longestRow, yX3_longestWithin, yX4_init, yX4_search, yX4_ofFirst, yX4_findDemand, yX4_tryHabits, yX4_tryOne, yX5_init, yX5_cut, yX5_whoMade, yX6_init, yX6_hasRoom, yX6_append, yX6_readInto, yX6_readPart, yX6_readSemicolon, yX6_readWriter, yX6_readHabit, yX6_readUnder, yX6_readBook, yX6_readNumber, yX6_readWord, yX6_wordIs, yX6_kindOfWord, yX6_wordOfKind, yX6_skipBlanks, yX6_isLetter, yX6_isDigit, yX6_refuse, yX7_init, yX7_empty, yX7_copyFrom, yX7_copyRow, yX7_addWriter, yX7_addBook, yX7_addPage, yX7_isWriter, yX7_isBook, yX7_isPage, yX7_isDead, yX7_inMood, yX7_hasStock, yX7_stockOf, yX7_putStock, yX7_hasHabit, yX7_setHabit, yX7_habitOn, yX7_rowOf, yX7_pageOfSeen, yX7_havingUnder, yX7_allPages, yX7_sumOf, yX8_init, yX8_follow, yX8_changedBy, yX8_step, yX8_put, yX8_turn, yX8_swap, yX9_init, yX9_feed, yX9_end, yX9_tell, yX9_hire, yX9_sack, yX9_teach, yX9_praise, yX9_blame, yX9_order, yX9_day, yX9_store, yX9_die, yX9_see, yX9_forget, yX9_undo, yX9_keep, yX9_back, yX9_writer, yX9_page, yX9_line, yX9_trace, yX9_own, yX9_pay, yX9_alike, yX9_fits, yX9_likeliest, yX9_matches, yX9_trees, yX9_under, yX9_breaks, yX9_untangle, yX9_tells, yX9_slips, yX9_errors, yX9_nested, yX9_shared, yX9_quarrel, yX9_served, yX9_between, yX9_count, yX9_isSign, yX9_isRow, yX9_isGift, yX9_isShelf, yX9_isSetOfWriters, yX9_remember, yX9_handsOf, yX9_lowestOf, yX9_mostHands, yX9_lineOf, yX9_lineAt, yX9_lacksLines, yX9_followTrail, yX9_passedUp, yX9_seenFitsWriters, yX9_choicesBySeen, yX9_countWays, yX9_sendDown, yX10_init, yX10_in, yX10_truth, yX10_has, yX10_moves, yX10_feed, yX10_puts, yX10_end, yX10_sign, yX10_next, yX10_isRight, yX10_fails, yX10_isDigit, yX10_number, yX10_isWord, yX10_takes, yX10_kindTold, yX10_needs, yX10_readsHabit, yX10_readsWriter, yX10_readsBook, yX10_readsPart, yX10_tell, yX10_isWriter, yX10_of, yX10_puts_, yX10_under, yX10_isDead, yX10_isBook, yX10_pagesOf, yX10_isPage, yX10_pageOf, yX10_hasStock, yX10_stockAt, yX10_hands, yX10_handsSet, yX10_done, yX10_with, yX10_habit, yX10_passes, yX10_lineOf, yX10_isAnyDead, yX10_keepsPast, yX10_undo, yX10_keep, yX10_back, yX10_hire, yX10_sack, yX10_isHabit, yX10_hasHabit, yX10_learns, yX10_teach, yX10_goesDown, yX10_praise, yX10_blame, yX10_order, yX10_day, yX10_moods, yX10_hasAll, yX10_store, yX10_die, yX10_see, yX10_forget, yX10_overWhom, yX10_writer, yX10_page, yX10_line, yX10_brings, yX10_traces, yX10_laysTrace, yX10_trace, yX10_own, yX10_pay, yX10_laysSource, yX10_leads, yX10_alike, yX10_fits, yX10_likeliest, yX10_matches, yX10_seen, yX10_canTree, yX10_choices, yX10_trees, yX10_under_, yX10_couldBe, yX10_stretches, yX10_canBreak, yX10_breaks, yX10_between, yX10_untangle, yX10_isSet, yX10_unlikeOn, yX10_laysApart, yX10_tells, yX10_lineWith, yX10_slipsBy, yX10_slips, yX10_errorsOf, yX10_errors, yX10_isWithin, yX10_clashes, yX10_laysUnlike, yX10_longestRow, yX10_nested, yX10_shared, yX10_quarrel, yX10_makes, yX10_served, yX10_sumOf, yX10_pagesOfAll, yX10_alone, yX10_mostHands, yX10_deadOnes, yX10_count, x, yJ6_bitCount_0f7a4]
def bh_bs : List ByteArray := [cX0_init, cX0_fewestPages, cX0_fillRows, cX0_listTwos, cX0_differingPages, cX0_allApart, cX1_signsOf, cX1_firstSign, cX1_secondSign, cX1_stands, cX1_changeRow, cX1_signAt, cX2_init, cX2_listFrom, cX2_listUntilDead, cX2_lowest, cX2_asBits, cX2_anyDead, cX2_passUp, cX2_lineOf, cX3_init, cX3_gather, cX3_clashes, cX3_clash, cX3_unlikeSets, cX3_isFirstOfItsLike, cX3_longestRow, cX3_longestWithin, cX4_init, cX4_search, cX4_ofFirst, cX4_findDemand, cX4_tryHabits, cX4_tryOne, cX5_init, cX5_cut, cX5_whoMade, cX6_init, cX6_hasRoom, cX6_append, cX6_readInto, cX6_readPart, cX6_readSemicolon, cX6_readWriter, cX6_readHabit, cX6_readUnder, cX6_readBook, cX6_readNumber, cX6_readWord, cX6_wordIs, cX6_kindOfWord, cX6_wordOfKind, cX6_skipBlanks, cX6_isLetter, cX6_isDigit, cX6_refuse, cX7_init, cX7_empty, cX7_copyFrom, cX7_copyRow, cX7_addWriter, cX7_addBook, cX7_addPage, cX7_isWriter, cX7_isBook, cX7_isPage, cX7_isDead, cX7_inMood, cX7_hasStock, cX7_stockOf, cX7_putStock, cX7_hasHabit, cX7_setHabit, cX7_habitOn, cX7_rowOf, cX7_pageOfSeen, cX7_havingUnder, cX7_allPages, cX7_sumOf, cX8_init, cX8_follow, cX8_changedBy, cX8_step, cX8_put, cX8_turn, cX8_swap, cX9_init, cX9_feed, cX9_end, cX9_tell, cX9_hire, cX9_sack, cX9_teach, cX9_praise, cX9_blame, cX9_order, cX9_day, cX9_store, cX9_die, cX9_see, cX9_forget, cX9_undo, cX9_keep, cX9_back, cX9_writer, cX9_page, cX9_line, cX9_trace, cX9_own, cX9_pay, cX9_alike, cX9_fits, cX9_likeliest, cX9_matches, cX9_trees, cX9_under, cX9_breaks, cX9_untangle, cX9_tells, cX9_slips, cX9_errors, cX9_nested, cX9_shared, cX9_quarrel, cX9_served, cX9_between, cX9_count, cX9_isSign, cX9_isRow, cX9_isGift, cX9_isShelf, cX9_isSetOfWriters, cX9_remember, cX9_handsOf, cX9_lowestOf, cX9_mostHands, cX9_lineOf, cX9_lineAt, cX9_lacksLines, cX9_followTrail, cX9_passedUp, cX9_seenFitsWriters, cX9_choicesBySeen, cX9_countWays, cX9_sendDown, cX10_init, cX10_in, cX10_truth, cX10_has, cX10_moves, cX10_feed, cX10_puts, cX10_end, cX10_sign, cX10_next, cX10_isRight, cX10_fails, cX10_isDigit, cX10_number, cX10_isWord, cX10_takes, cX10_kindTold, cX10_needs, cX10_readsHabit, cX10_readsWriter, cX10_readsBook, cX10_readsPart, cX10_tell, cX10_isWriter, cX10_of, cX10_puts_, cX10_under, cX10_isDead, cX10_isBook, cX10_pagesOf, cX10_isPage, cX10_pageOf, cX10_hasStock, cX10_stockAt, cX10_hands, cX10_handsSet, cX10_done, cX10_with, cX10_habit, cX10_passes, cX10_lineOf, cX10_isAnyDead, cX10_keepsPast, cX10_undo, cX10_keep, cX10_back, cX10_hire, cX10_sack, cX10_isHabit, cX10_hasHabit, cX10_learns, cX10_teach, cX10_goesDown, cX10_praise, cX10_blame, cX10_order, cX10_day, cX10_moods, cX10_hasAll, cX10_store, cX10_die, cX10_see, cX10_forget, cX10_overWhom, cX10_writer, cX10_page, cX10_line, cX10_brings, cX10_traces, cX10_laysTrace, cX10_trace, cX10_own, cX10_pay, cX10_laysSource, cX10_leads, cX10_alike, cX10_fits, cX10_likeliest, cX10_matches, cX10_seen, cX10_canTree, cX10_choices, cX10_trees, cX10_under_, cX10_couldBe, cX10_stretches, cX10_canBreak, cX10_breaks, cX10_between, cX10_untangle, cX10_isSet, cX10_unlikeOn, cX10_laysApart, cX10_tells, cX10_lineWith, cX10_slipsBy, cX10_slips, cX10_errorsOf, cX10_errors, cX10_isWithin, cX10_clashes, cX10_laysUnlike, cX10_longestRow, cX10_nested, cX10_shared, cX10_quarrel, cX10_makes, cX10_served, cX10_sumOf, cX10_pagesOfAll, cX10_alone, cX10_mostHands, cX10_deadOnes, cX10_count, code, cJ6_bitCount_0f7a4]
def bh_mls : List Nat := [1, 9, 7, 6, 6, 3, 1, 2, 2, 3, 4, 2, 1, 3, 5, 1, 3, 2, 8, 6, 1, 9, 4, 3, 3, 3, 4, 5, 1, 8, 2, 10, 10, 6, 1, 7, 10, 1, 2, 3, 4, 2, 1, 4, 6, 4, 4, 4, 1, 3, 2, 1, 1, 1, 1, 3, 1, 1, 2, 2, 2, 1, 3, 2, 2, 3, 2, 2, 3, 4, 5, 5, 5, 3, 3, 3, 4, 3, 4, 1, 7, 4, 6, 5, 4, 4, 2, 6, 2, 2, 3, 3, 8, 6, 3, 7, 7, 5, 4, 2, 2, 1, 2, 2, 3, 3, 4, 6, 4, 6, 4, 5, 7, 6, 6, 4, 4, 5, 5, 6, 4, 4, 5, 7, 6, 4, 2, 1, 1, 1, 1, 2, 1, 2, 2, 3, 4, 5, 3, 4, 3, 1, 7, 13, 5, 1, 6, 1, 2, 5, 6, 3, 2, 1, 1, 1, 3, 1, 4, 5, 2, 2, 1, 5, 4, 5, 2, 2, 2, 3, 4, 2, 2, 2, 2, 3, 3, 3, 3, 4, 4, 4, 3, 3, 3, 8, 3, 2, 1, 2, 2, 3, 3, 4, 5, 5, 6, 9, 3, 3, 4, 4, 3, 4, 4, 6, 2, 2, 4, 3, 3, 4, 3, 8, 7, 6, 6, 8, 3, 5, 4, 6, 9, 6, 2, 3, 6, 6, 4, 8, 6, 3, 5, 5, 10, 2, 6, 6, 9, 9, 12, 10, 7, 4, 2, 4, 6, 5, 5, 5, 7, 6, 5, 4, 3, 3, 3, 3, 2, 4, 1]
def bh_rts : List (Option FieldType) := [none, (some .int), none, none, (some .int), (some .boolean), (some .int), (some .int), (some .int), (some .boolean), (some .int), (some .int), none, none, (some .int), (some .int), (some .int), (some .boolean), (some .int), (some .int), none, none, (some .int), (some .boolean), (some .int), (some .boolean), (some .int), (some .int), none, none, (some .int), (some .boolean), none, none, none, none, (some .int), none, (some .boolean), none, (some .int), (some .boolean), (some .boolean), (some .boolean), (some .boolean), (some .boolean), (some .boolean), (some .int), none, (some .boolean), (some .int), (some (.object "java/lang/String")), none, (some .boolean), (some .boolean), (some .boolean), none, none, none, none, none, none, none, (some .boolean), (some .boolean), (some .boolean), (some .boolean), (some .boolean), (some .boolean), (some .int), none, (some .boolean), none, (some .int), (some .int), (some .int), (some .int), (some .int), (some .int), none, none, (some .int), none, none, none, none, none, (some .int), (some .int), (some .int), (some .int), (some .int), (some .int), (some .int), (some .int), (some .int), (some .int), (some .int), (some .int), (some .int), (some .int), (some .int), (some .int), (some .int), (some .int), (some .int), (some .int), (some .int), (some .int), (some .int), (some .int), (some .int), (some .int), (some .long), (some .long), (some .int), (some .int), (some .long), (some .int), (some .int), (some .int), (some .int), (some .int), (some .int), (some .int), (some .int), (some .int), (some .boolean), (some .boolean), (some .boolean), (some .boolean), (some .boolean), none, (some .int), (some .int), (some .int), (some .int), (some .int), (some .boolean), (some .boolean), (some .int), (some .boolean), (some .int), none, (some .int), none, (some .boolean), (some .int), (some .boolean), none, (some .int), none, (some .int), (some .int), (some .int), (some .boolean), none, (some .boolean), (some .int), (some .boolean), (some .boolean), (some .int), (some .int), none, none, none, none, (some .int), (some .boolean), (some .int), none, (some .int), (some .boolean), (some .boolean), (some .int), (some .boolean), (some .int), (some .boolean), (some .int), (some .int), (some .int), (some .int), (some .int), (some .int), (some .int), (some .int), (some .boolean), none, (some .int), (some .int), (some .int), (some .int), (some .int), (some .boolean), (some .boolean), none, (some .int), (some .int), (some .int), (some .int), (some .int), (some .int), (some .int), (some .boolean), (some .int), (some .int), (some .int), (some .int), (some .int), (some .int), (some .int), (some .int), none, none, none, (some .int), (some .int), (some .int), none, none, (some .int), (some .int), (some .int), (some .long), (some .int), (some .boolean), (some .int), (some .long), (some .int), (some .int), (some .int), (some .boolean), (some .int), (some .int), (some .long), (some .boolean), (some .int), (some .int), (some .int), (some .int), none, (some .int), (some .int), (some .int), (some .boolean), (some .int), (some .int), (some .int), (some .int), (some .int), (some .int), (some .int), (some .int), (some .int), (some .int), (some .int), (some .int), (some .int), (some .int), (some .boolean), (some .int)]
/-- how many values a method takes, the receiver too -/
def bh_nas : List Nat := [1, 5, 5, 4, 4, 2, 1, 2, 2, 3, 4, 2, 1, 3, 4, 1, 1, 2, 5, 5, 1, 5, 1, 2, 1, 2, 1, 2, 1, 5, 2, 5, 4, 6, 1, 5, 5, 1, 2, 2, 2, 2, 1, 2, 3, 3, 2, 3, 1, 2, 1, 1, 1, 1, 1, 3, 1, 1, 2, 2, 2, 1, 2, 2, 2, 3, 2, 2, 3, 4, 5, 5, 5, 3, 3, 3, 2, 1, 2, 1, 4, 2, 4, 5, 3, 3, 1, 6, 2, 1, 3, 2, 5, 3, 3, 3, 2, 3, 2, 2, 1, 1, 2, 2, 3, 3, 4, 6, 4, 4, 3, 3, 3, 3, 3, 4, 4, 5, 4, 6, 4, 4, 3, 5, 3, 4, 2, 1, 1, 1, 1, 2, 1, 2, 2, 1, 4, 2, 2, 4, 3, 1, 3, 4, 2, 1, 3, 1, 2, 4, 6, 2, 2, 1, 1, 1, 3, 1, 3, 2, 2, 1, 1, 2, 2, 2, 1, 1, 2, 3, 4, 2, 2, 2, 2, 3, 3, 3, 3, 2, 2, 4, 3, 3, 3, 4, 2, 1, 1, 2, 2, 3, 2, 3, 5, 5, 5, 5, 3, 3, 3, 2, 1, 3, 3, 2, 2, 1, 2, 3, 3, 4, 3, 4, 4, 6, 4, 4, 2, 4, 3, 3, 3, 3, 2, 3, 4, 3, 4, 4, 3, 3, 4, 4, 5, 2, 4, 3, 4, 7, 6, 6, 4, 4, 2, 1, 1, 2, 4, 3, 5, 4, 3, 2, 1, 1, 1, 1, 2, 1, 1]
def bh_cis : List Nat := [0, 0, 0, 0, 0, 0, 1, 1, 1, 1, 1, 1, 2, 2, 2, 2, 2, 2, 2, 2, 3, 3, 3, 3, 3, 3, 3, 3, 4, 4, 4, 4, 4, 4, 5, 5, 5, 6, 6, 6, 6, 6, 6, 6, 6, 6, 6, 6, 6, 6, 6, 6, 6, 6, 6, 6, 7, 7, 7, 7, 7, 7, 7, 7, 7, 7, 7, 7, 7, 7, 7, 7, 7, 7, 7, 7, 7, 7, 7, 8, 8, 8, 8, 8, 8, 8, 9, 9, 9, 9, 9, 9, 9, 9, 9, 9, 9, 9, 9, 9, 9, 9, 9, 9, 9, 9, 9, 9, 9, 9, 9, 9, 9, 9, 9, 9, 9, 9, 9, 9, 9, 9, 9, 9, 9, 9, 9, 9, 9, 9, 9, 9, 9, 9, 9, 9, 9, 9, 9, 9, 9, 9, 9, 9, 9, 10, 10, 10, 10, 10, 10, 10, 10, 10, 10, 10, 10, 10, 10, 10, 10, 10, 10, 10, 10, 10, 10, 10, 10, 10, 10, 10, 10, 10, 10, 10, 10, 10, 10, 10, 10, 10, 10, 10, 10, 10, 10, 10, 10, 10, 10, 10, 10, 10, 10, 10, 10, 10, 10, 10, 10, 10, 10, 10, 10, 10, 10, 10, 10, 10, 10, 10, 10, 10, 10, 10, 10, 10, 10, 10, 10, 10, 10, 10, 10, 10, 10, 10, 10, 10, 10, 10, 10, 10, 10, 10, 10, 10, 10, 10, 10, 10, 10, 10, 10, 10, 10, 10, 10, 10, 10, 10, 10, 10, 10, 10, 10, 10, 10, 99, 99]
def bh_mcs : List Nat := [2, 0, 0, 0, 0, 0, 0, 0, 0, 0, 0, 0, 1, 0, 0, 0, 0, 0, 0, 0, 2, 0, 0, 0, 0, 0, 0, 0, 0, 0, 0, 0, 0, 0, 2, 0, 0, 1, 0, 0, 0, 0, 0, 0, 0, 0, 0, 0, 0, 0, 0, 0, 0, 0, 0, 0, 12, 0, 0, 0, 0, 0, 0, 0, 0, 0, 0, 0, 0, 0, 0, 0, 0, 0, 0, 0, 0, 0, 0, 3, 0, 0, 0, 0, 0, 0, 204, 0, 0, 0, 0, 0, 0, 0, 0, 0, 0, 0, 0, 0, 0, 0, 0, 0, 0, 0, 0, 0, 0, 0, 0, 0, 0, 0, 0, 0, 0, 0, 0, 0, 0, 0, 0, 0, 0, 0, 0, 0, 0, 0, 0, 0, 0, 0, 0, 0, 0, 0, 0, 0, 0, 0, 0, 0, 0, 22, 0, 0, 0, 0, 0, 0, 0, 0, 0, 0, 0, 0, 0, 0, 0, 0, 0, 0, 0, 0, 0, 0, 0, 0, 0, 0, 0, 0, 0, 0, 0, 0, 0, 0, 0, 0, 0, 0, 0, 0, 0, 0, 0, 0, 0, 0, 0, 0, 0, 0, 0, 0, 0, 0, 0, 0, 0, 0, 0, 0, 0, 0, 0, 0, 0, 0, 0, 0, 0, 0, 0, 0, 0, 0, 0, 0, 0, 0, 0, 0, 0, 0, 0, 0, 0, 0, 0, 0, 0, 0, 0, 0, 0, 0, 0, 0, 0, 0, 0, 0, 0, 0, 0, 0, 0, 0, 0, 0, 0, 0, 0, 0, 0, 600000, 0]
def bh_mss : List Nat := [240, 0, 0, 0, 0, 0, 0, 0, 0, 0, 0, 0, 12, 0, 0, 0, 0, 0, 0, 0, 32, 0, 0, 0, 0, 0, 0, 0, 0, 0, 0, 0, 0, 0, 32, 0, 0, 400, 0, 0, 0, 0, 0, 0, 0, 0, 0, 0, 0, 0, 0, 0, 0, 0, 0, 0, 532, 0, 0, 0, 0, 0, 0, 0, 0, 0, 0, 0, 0, 0, 0, 0, 0, 0, 0, 0, 0, 0, 0, 48, 0, 0, 0, 0, 0, 0, 8530, 0, 0, 0, 0, 0, 0, 0, 0, 0, 0, 0, 0, 0, 0, 0, 0, 0, 0, 0, 0, 0, 0, 0, 0, 0, 0, 0, 0, 0, 0, 0, 0, 0, 0, 0, 0, 0, 0, 0, 0, 0, 0, 0, 0, 0, 0, 0, 0, 0, 0, 0, 0, 0, 0, 0, 0, 0, 0, 8619, 0, 0, 0, 0, 0, 0, 0, 0, 0, 0, 0, 0, 0, 0, 0, 0, 0, 0, 0, 0, 0, 0, 0, 0, 0, 0, 0, 0, 0, 0, 0, 0, 0, 0, 0, 0, 0, 0, 0, 0, 0, 0, 0, 0, 0, 0, 0, 0, 0, 0, 0, 0, 0, 0, 0, 0, 0, 0, 0, 0, 0, 0, 0, 0, 0, 0, 0, 0, 0, 0, 0, 0, 0, 0, 0, 0, 0, 0, 0, 0, 0, 0, 0, 0, 0, 0, 0, 0, 0, 0, 0, 0, 0, 0, 0, 0, 0, 0, 0, 0, 0, 0, 0, 0, 0, 0, 0, 0, 0, 0, 0, 0, 0, 7302250, 0]
def bh_FL : List (String × Nat × Nat × Nat) := [("BorrowedHands$Town", 48, 7, 0), ("BorrowedHands$Slipping", 15, 7, 0), ("BorrowedHands$Apart", 27, 7, 0), ("BorrowedHands$Mistakes", 18, 7, 0), ("BorrowedHands$Stretches", 44, 7, 0), ("BorrowedHands", 106, 7, 0), ("BorrowedHands$Tape", 50, 7, 0), ("BorrowedHands$Town", 52, 7, 1), ("BorrowedHands$Tape", 65, 7, 1), ("BorrowedHands", 334, 7, 1), ("BorrowedHands$Stretches", 22, 7, 2), ("BorrowedHands$Town", 55, 7, 2), ("BorrowedHands", 199, 7, 2), ("BorrowedHands$Town", 58, 7, 3), ("BorrowedHands", 174, 7, 3), ("BorrowedHands$Town", 61, 7, 4), ("BorrowedHands", 171, 7, 4), ("BorrowedHands$Town", 64, 7, 5), ("BorrowedHands$Hands", 32, 7, 5), ("BorrowedHands", 190, 7, 5), ("BorrowedHands$Town", 9, 7, 6), ("BorrowedHands$Stretches", 47, 7, 6), ("BorrowedHands", 118, 7, 6), ("BorrowedHands$Tape", 106, 7, 6), ("BorrowedHands$Town", 15, 7, 7), ("BorrowedHands$Trail", 50, 7, 7), ("BorrowedHands$Hands", 39, 7, 7), ("BorrowedHands", 141, 7, 7), ("BorrowedHands$Town", 18, 7, 8), ("BorrowedHands$Trail", 44, 7, 8), ("BorrowedHands$Hands", 42, 7, 8), ("BorrowedHands", 217, 7, 8), ("BorrowedHands$Town", 21, 7, 9), ("BorrowedHands$Trail", 47, 7, 9), ("BorrowedHands$Hands", 45, 7, 9), ("BorrowedHands", 224, 7, 9), ("BorrowedHands$Town", 24, 7, 10), ("BorrowedHands$Hands", 23, 7, 10), ("BorrowedHands", 115, 7, 10), ("BorrowedHands$Tape", 109, 7, 10), ("BorrowedHands$Town", 27, 7, 11), ("BorrowedHands", 158, 7, 11), ("BorrowedHands$Town", 30, 7, 12), ("BorrowedHands", 164, 7, 12), ("BorrowedHands$Town", 33, 7, 13), ("BorrowedHands", 233, 7, 13), ("BorrowedHands$Town", 36, 7, 14), ("BorrowedHands$Apart", 18, 7, 14), ("BorrowedHands", 184, 7, 14), ("BorrowedHands$Town", 39, 7, 15), ("BorrowedHands$Town", 42, 7, 16), ("BorrowedHands$Town", 45, 7, 17), ("BorrowedHands$Stretches", 35, 7, 17), ("BorrowedHands", 202, 7, 17), ("BorrowedHands$Tape", 9, 6, 0), ("BorrowedHands$Tape", 15, 6, 1), ("BorrowedHands", 91, 6, 1), ("BorrowedHands$Tape", 24, 6, 2), ("BorrowedHands$Tape", 56, 6, 3), ("BorrowedHands$Tape", 27, 6, 4), ("BorrowedHands$Hands", 9, 2, 0), ("BorrowedHands$Slipping", 23, 2, 0), ("BorrowedHands$Trail", 27, 2, 0), ("BorrowedHands", 161, 2, 0), ("BorrowedHands$Slipping", 20, 2, 1), ("BorrowedHands$Trail", 21, 2, 1), ("BorrowedHands$Hands", 19, 2, 1), ("BorrowedHands", 155, 2, 1), ("BorrowedHands$Trail", 9, 8, 0), ("BorrowedHands", 252, 8, 0), ("BorrowedHands$Trail", 15, 8, 1), ("BorrowedHands", 255, 8, 1), ("BorrowedHands$Trail", 18, 8, 2), ("BorrowedHands$Slipping", 9, 4, 0), ("BorrowedHands", 305, 4, 0), ("BorrowedHands$Slipping", 43, 4, 1), ("BorrowedHands$Slipping", 46, 4, 2), ("BorrowedHands$Slipping", 49, 4, 3), ("BorrowedHands$Slipping", 58, 4, 4), ("BorrowedHands$Slipping", 64, 4, 5), ("BorrowedHands$Slipping", 67, 4, 6), ("BorrowedHands$Stretches", 9, 5, 0), ("BorrowedHands", 284, 5, 0), ("BorrowedHands$Stretches", 15, 5, 1), ("BorrowedHands", 331, 5, 1), ("BorrowedHands$Stretches", 18, 5, 2), ("BorrowedHands", 283, 5, 2), ("BorrowedHands$Apart", 9, 0, 0), ("BorrowedHands$Apart", 15, 0, 1), ("BorrowedHands$Apart", 51, 0, 2), ("BorrowedHands$Mistakes", 9, 3, 0), ("BorrowedHands", 312, 3, 0), ("BorrowedHands$Mistakes", 15, 3, 1), ("BorrowedHands", 12, 9, 0), ("BorrowedHands", 16, 9, 1), ("BorrowedHands", 22, 9, 2), ("BorrowedHands", 26, 9, 3), ("BorrowedHands", 30, 9, 4), ("BorrowedHands", 36, 9, 5), ("BorrowedHands", 43, 9, 6), ("BorrowedHands", 50, 9, 7), ("BorrowedHands", 57, 9, 8), ("BorrowedHands", 64, 9, 9), ("BorrowedHands", 71, 9, 10), ("BorrowedHands", 75, 9, 11), ("BorrowedHands", 79, 9, 12), ("BorrowedHands", 205, 9, 13), ("BorrowedHands", 103, 9, 14), ("BorrowedHands", 211, 9, 15), ("BorrowedHandsModel", 9, 10, 0), ("BorrowedHandsModel", 13, 10, 1), ("BorrowedHandsModel", 16, 10, 2), ("BorrowedHandsModel", 19, 10, 3), ("BorrowedHandsModel", 22, 10, 4), ("BorrowedHandsModel", 200, 10, 5), ("BorrowedHandsModel", 26, 10, 6), ("BorrowedHandsModel", 79, 10, 7), ("BorrowedHandsModel", 87, 10, 8), ("BorrowedHandsModel", 94, 10, 9), ("BorrowedHandsModel", 112, 10, 10), ("BorrowedHandsModel", 30, 10, 11), ("BorrowedHandsModel", 273, 10, 12), ("BorrowedHandsModel", 33, 10, 13), ("BorrowedHandsModel", 36, 10, 14), ("BorrowedHandsModel", 39, 10, 15), ("BorrowedHandsModel", 42, 10, 16), ("BorrowedHandsModel", 45, 10, 17), ("BorrowedHandsModel", 48, 10, 18), ("BorrowedHandsModel", 51, 10, 19), ("BorrowedHandsModel", 54, 10, 20), ("BorrowedHandsModel", 57, 10, 21), ("BorrowedHandsModel", 60, 10, 22), ("BorrowedHandsModel", 63, 10, 23), ("BorrowedHandsModel", 67, 10, 24), ("BorrowedHandsModel", 359, 10, 25), ("BorrowedHandsModel", 362, 10, 26), ("BorrowedHandsModel", 365, 10, 27), ("BorrowedHandsModel", 368, 10, 28), ("BorrowedHandsModel", 371, 10, 29), ("BorrowedHandsModel", 70, 10, 30), ("BorrowedHandsModel", 73, 10, 31), ("BorrowedHandsModel", 76, 10, 32)]
def bh_FLp : List Nat := [135, 136, 137, 138, 139, 140, 141, 142, 143, 144, 145, 146, 147, 148, 149, 150, 151, 152, 153, 154, 155, 156, 157, 158, 159, 160, 161, 162, 163, 164, 165, 166, 167, 168, 169, 170, 171, 172, 173, 174, 175, 176, 177, 178, 179, 180, 181, 182, 183, 184, 185, 186, 187, 188, 233, 234, 235, 236, 237, 238, 257, 258, 259, 260, 261, 262, 263, 264, 276, 277, 278, 279, 280, 294, 295, 296, 297, 298, 299, 300, 301, 323, 324, 325, 326, 327, 328, 342, 343, 344, 358, 359, 360, 366, 367, 368, 369, 370, 371, 372, 373, 374, 375, 376, 377, 378, 379, 380, 381, 1064, 1065, 1066, 1067, 1068, 1069, 1070, 1071, 1072, 1073, 1074, 1075, 1076, 1077, 1078, 1079, 1080, 1081, 1082, 1083, 1084, 1085, 1086, 1087, 1088, 1089, 1090, 1091, 1092, 1093, 1094, 1095, 1096]
/-- own class, index, callee, kind (0 virtual, 1 static, 2 constructor; 3 and 4: static, constructor of a nest mate) -/
def bh_ML : List (String × Nat × Nat × Nat) := [("BorrowedHands$Apart", 23, 2, 0), ("BorrowedHands$Apart", 31, 3, 0), ("BorrowedHands$Apart", 35, 260, 1), ("BorrowedHands$Apart", 41, 5, 0), ("BorrowedHands$Apart", 45, 19, 0), ("BorrowedHands$Apart", 54, 4, 0), ("BorrowedHands$Habit", 11, 6, 1), ("BorrowedHands$Habit", 15, 127, 3), ("BorrowedHands$Hands", 15, 14, 0), ("BorrowedHands$Hands", 28, 16, 0), ("BorrowedHands$Hands", 35, 67, 0), ("BorrowedHands$Hands", 48, 10, 1), ("BorrowedHands$Hands", 54, 74, 0), ("BorrowedHands$Hands", 58, 18, 0), ("BorrowedHands$Hands", 62, 68, 0), ("BorrowedHands$Hands", 66, 69, 0), ("BorrowedHands$Mistakes", 24, 19, 0), ("BorrowedHands$Mistakes", 30, 74, 0), ("BorrowedHands$Mistakes", 34, 23, 1), ("BorrowedHands$Mistakes", 38, 25, 0), ("BorrowedHands$Mistakes", 42, 260, 1), ("BorrowedHands$Mistakes", 48, 27, 0), ("BorrowedHands$Slipping", 27, 67, 0), ("BorrowedHands$Slipping", 31, 31, 0), ("BorrowedHands$Slipping", 35, 18, 0), ("BorrowedHands$Slipping", 39, 32, 0), ("BorrowedHands$Slipping", 52, 7, 1), ("BorrowedHands$Slipping", 61, 8, 1), ("BorrowedHands$Slipping", 70, 6, 1), ("BorrowedHands$Slipping", 74, 71, 0), ("BorrowedHands$Slipping", 78, 9, 1), ("BorrowedHands$Slipping", 82, 33, 0), ("BorrowedHands$Slipping", 86, 10, 1), ("BorrowedHands$Stretches", 27, 36, 1), ("BorrowedHands$Stretches", 31, 75, 0), ("BorrowedHands$Stretches", 38, 74, 0), ("BorrowedHands$Stretches", 41, 73, 0), ("BorrowedHands$Stretches", 50, 19, 0), ("BorrowedHands$Tape", 19, 57, 0), ("BorrowedHands$Tape", 30, 52, 0), ("BorrowedHands$Tape", 33, 41, 0), ("BorrowedHands$Tape", 37, 42, 0), ("BorrowedHands$Tape", 41, 48, 0), ("BorrowedHands$Tape", 46, 49, 0), ("BorrowedHands$Tape", 53, 43, 0), ("BorrowedHands$Tape", 59, 55, 0), ("BorrowedHands$Tape", 68, 46, 0), ("BorrowedHands$Tape", 71, 47, 0), ("BorrowedHands$Tape", 75, 60, 0), ("BorrowedHands$Tape", 79, 44, 0), ("BorrowedHands$Tape", 83, 53, 1), ("BorrowedHands$Tape", 87, 45, 0), ("BorrowedHands$Tape", 90, 50, 0), ("BorrowedHands$Tape", 94, 6, 1), ("BorrowedHands$Tape", 100, 72, 0), ("BorrowedHands$Tape", 111, 61, 0), ("BorrowedHands$Tape", 115, 62, 0), ("BorrowedHands$Tape", 118, 54, 1), ("BorrowedHands$Tape", 135, 51, 1), ("BorrowedHands$Town", 67, 59, 1), ("BorrowedHands$Town", 85, 72, 0), ("BorrowedHands$Town", 89, 64, 0), ("BorrowedHands$Town", 93, 10, 1), ("BorrowedHands$Trail", 30, 67, 0), ("BorrowedHands$Trail", 36, 82, 0), ("BorrowedHands$Trail", 40, 73, 0), ("BorrowedHands$Trail", 53, 11, 1), ("BorrowedHands$Trail", 58, 83, 0), ("BorrowedHands$Trail", 62, 84, 0), ("BorrowedHands$Trail", 66, 85, 1), ("BorrowedHands", 11, 56, 4), ("BorrowedHands", 21, 37, 4), ("BorrowedHands", 35, 12, 4), ("BorrowedHands", 42, 79, 4), ("BorrowedHands", 49, 28, 4), ("BorrowedHands", 56, 34, 4), ("BorrowedHands", 63, 0, 4), ("BorrowedHands", 70, 20, 4), ("BorrowedHands", 83, 38, 0), ("BorrowedHands", 87, 39, 0), ("BorrowedHands", 95, 40, 0), ("BorrowedHands", 99, 58, 0), ("BorrowedHands", 109, 63, 0), ("BorrowedHands", 112, 66, 0), ("BorrowedHands", 121, 132, 0), ("BorrowedHands", 124, 133, 0), ("BorrowedHands", 128, 9, 1), ("BorrowedHands", 134, 6, 1), ("BorrowedHands", 137, 71, 0), ("BorrowedHands", 144, 72, 0), ("BorrowedHands", 148, 129, 1), ("BorrowedHands", 151, 13, 0), ("BorrowedHands", 168, 67, 0), ("BorrowedHands", 177, 64, 0), ("BorrowedHands", 180, 136, 0), ("BorrowedHands", 187, 70, 0), ("BorrowedHands", 193, 138, 0), ("BorrowedHands", 196, 128, 1), ("BorrowedHands", 208, 130, 1), ("BorrowedHands", 220, 7, 1), ("BorrowedHands", 227, 8, 1), ("BorrowedHands", 230, 134, 0), ("BorrowedHands", 236, 76, 0), ("BorrowedHands", 239, 65, 0), ("BorrowedHands", 243, 74, 0), ("BorrowedHands", 246, 127, 1), ("BorrowedHands", 249, 139, 0), ("BorrowedHands", 258, 81, 0), ("BorrowedHands", 261, 260, 1), ("BorrowedHands", 264, 140, 0), ("BorrowedHands", 267, 137, 0), ("BorrowedHands", 272, 141, 0), ("BorrowedHands", 276, 142, 0), ("BorrowedHands", 279, 35, 0), ("BorrowedHands", 287, 143, 0), ("BorrowedHands", 291, 131, 0), ("BorrowedHands", 294, 1, 0), ("BorrowedHands", 298, 17, 0), ("BorrowedHands", 302, 29, 0), ("BorrowedHands", 306, 30, 0), ("BorrowedHands", 309, 21, 0), ("BorrowedHands", 315, 22, 0), ("BorrowedHands", 319, 24, 0), ("BorrowedHands", 322, 26, 0), ("BorrowedHands", 325, 16, 0), ("BorrowedHands", 328, 144, 0), ("BorrowedHands", 337, 77, 0), ("BorrowedHands", 340, 135, 0), ("BorrowedHands", 343, 78, 0), ("BorrowedHands", 353, 15, 0), ("BorrowedHands", 359, 19, 0), ("BorrowedHands", 362, 80, 0), ("BorrowedHands", 366, 18, 0), ("BorrowedHands", 369, 73, 0), ("BorrowedHands", 372, 75, 0), ("BorrowedHandsModel", 83, 151, 0), ("BorrowedHandsModel", 90, 153, 0), ("BorrowedHandsModel", 97, 155, 0), ("BorrowedHandsModel", 105, 146, 1), ("BorrowedHandsModel", 109, 154, 0), ("BorrowedHandsModel", 115, 157, 0), ("BorrowedHandsModel", 118, 156, 0), ("BorrowedHandsModel", 142, 159, 0), ("BorrowedHandsModel", 148, 160, 0), ("BorrowedHandsModel", 163, 161, 0), ("BorrowedHandsModel", 166, 162, 1), ("BorrowedHandsModel", 170, 158, 0), ("BorrowedHandsModel", 173, 163, 0), ("BorrowedHandsModel", 181, 164, 0), ("BorrowedHandsModel", 186, 165, 0), ("BorrowedHandsModel", 189, 166, 0), ("BorrowedHandsModel", 192, 147, 1), ("BorrowedHandsModel", 196, 149, 1), ("BorrowedHandsModel", 203, 169, 0), ("BorrowedHandsModel", 206, 173, 0), ("BorrowedHandsModel", 210, 174, 0), ("BorrowedHandsModel", 213, 148, 1), ("BorrowedHandsModel", 217, 171, 0), ("BorrowedHandsModel", 219, 182, 1), ("BorrowedHandsModel", 223, 181, 1), ("BorrowedHandsModel", 227, 183, 0), ("BorrowedHandsModel", 230, 179, 0), ("BorrowedHandsModel", 233, 176, 0), ("BorrowedHandsModel", 236, 172, 0), ("BorrowedHandsModel", 239, 177, 0), ("BorrowedHandsModel", 242, 178, 1), ("BorrowedHandsModel", 245, 184, 0), ("BorrowedHandsModel", 248, 168, 0), ("BorrowedHandsModel", 251, 187, 0), ("BorrowedHandsModel", 254, 170, 0), ("BorrowedHandsModel", 261, 193, 1), ("BorrowedHandsModel", 265, 194, 0), ("BorrowedHandsModel", 269, 195, 0), ("BorrowedHandsModel", 278, 197, 0), ("BorrowedHandsModel", 283, 202, 0), ("BorrowedHandsModel", 286, 185, 0), ("BorrowedHandsModel", 289, 203, 0), ("BorrowedHandsModel", 297, 208, 0), ("BorrowedHandsModel", 300, 175, 0), ("BorrowedHandsModel", 303, 212, 0), ("BorrowedHandsModel", 306, 213, 0), ("BorrowedHandsModel", 309, 186, 0), ("BorrowedHandsModel", 312, 214, 0), ("BorrowedHandsModel", 315, 219, 0), ("BorrowedHandsModel", 318, 218, 0), ("BorrowedHandsModel", 321, 260, 1), ("BorrowedHandsModel", 326, 224, 0), ("BorrowedHandsModel", 329, 225, 0), ("BorrowedHandsModel", 332, 226, 0), ("BorrowedHandsModel", 335, 229, 0), ("BorrowedHandsModel", 338, 231, 0), ("BorrowedHandsModel", 341, 230, 0), ("BorrowedHandsModel", 346, 236, 0), ("BorrowedHandsModel", 349, 235, 0), ("BorrowedHandsModel", 352, 237, 0), ("BorrowedHandsModel", 355, 239, 0), ("BorrowedHandsModel", 376, 240, 0), ("BorrowedHandsModel", 380, 242, 0), ("BorrowedHandsModel", 383, 244, 1), ("BorrowedHandsModel", 391, 245, 0), ("BorrowedHandsModel", 394, 246, 0), ("BorrowedHandsModel", 397, 247, 0), ("BorrowedHandsModel", 400, 180, 0), ("BorrowedHandsModel", 403, 251, 0), ("BorrowedHandsModel", 408, 254, 0), ("BorrowedHandsModel", 411, 255, 0), ("BorrowedHandsModel", 414, 256, 0), ("BorrowedHandsModel", 417, 253, 0), ("BorrowedHandsModel", 420, 257, 0), ("BorrowedHandsLaw", 9, 86, 2), ("BorrowedHandsLaw", 12, 145, 2), ("BorrowedHandsLaw", 13, 87, 0), ("BorrowedHandsLaw", 17, 150, 0), ("BorrowedHandsLaw", 18, 88, 0), ("BorrowedHandsLaw", 22, 152, 0), ("BorrowedHandsLaw", 23, 89, 0), ("BorrowedHandsLaw", 27, 167, 0), ("BorrowedHandsLaw", 28, 90, 0), ("BorrowedHandsLaw", 32, 191, 0), ("BorrowedHandsLaw", 33, 91, 0), ("BorrowedHandsLaw", 36, 192, 0), ("BorrowedHandsLaw", 37, 92, 0), ("BorrowedHandsLaw", 41, 196, 0), ("BorrowedHandsLaw", 42, 93, 0), ("BorrowedHandsLaw", 45, 198, 0), ("BorrowedHandsLaw", 46, 94, 0), ("BorrowedHandsLaw", 49, 199, 0), ("BorrowedHandsLaw", 50, 95, 0), ("BorrowedHandsLaw", 53, 200, 0), ("BorrowedHandsLaw", 54, 96, 0), ("BorrowedHandsLaw", 57, 201, 0), ("BorrowedHandsLaw", 58, 97, 0), ("BorrowedHandsLaw", 61, 204, 0), ("BorrowedHandsLaw", 62, 98, 0), ("BorrowedHandsLaw", 65, 205, 0), ("BorrowedHandsLaw", 66, 99, 0), ("BorrowedHandsLaw", 69, 206, 0), ("BorrowedHandsLaw", 70, 100, 0), ("BorrowedHandsLaw", 73, 207, 0), ("BorrowedHandsLaw", 74, 101, 0), ("BorrowedHandsLaw", 77, 188, 0), ("BorrowedHandsLaw", 78, 102, 0), ("BorrowedHandsLaw", 81, 189, 0), ("BorrowedHandsLaw", 82, 103, 0), ("BorrowedHandsLaw", 85, 190, 0), ("BorrowedHandsLaw", 86, 104, 0), ("BorrowedHandsLaw", 89, 209, 0), ("BorrowedHandsLaw", 90, 105, 0), ("BorrowedHandsLaw", 93, 210, 0), ("BorrowedHandsLaw", 94, 106, 0), ("BorrowedHandsLaw", 98, 211, 0), ("BorrowedHandsLaw", 99, 107, 0), ("BorrowedHandsLaw", 102, 215, 0), ("BorrowedHandsLaw", 103, 108, 0), ("BorrowedHandsLaw", 106, 216, 0), ("BorrowedHandsLaw", 107, 109, 0), ("BorrowedHandsLaw", 110, 217, 0), ("BorrowedHandsLaw", 111, 110, 0), ("BorrowedHandsLaw", 114, 220, 0), ("BorrowedHandsLaw", 115, 111, 0), ("BorrowedHandsLaw", 118, 221, 0), ("BorrowedHandsLaw", 119, 112, 0), ("BorrowedHandsLaw", 122, 222, 0), ("BorrowedHandsLaw", 123, 113, 0), ("BorrowedHandsLaw", 127, 223, 0), ("BorrowedHandsLaw", 128, 114, 0), ("BorrowedHandsLaw", 131, 227, 0), ("BorrowedHandsLaw", 132, 115, 0), ("BorrowedHandsLaw", 135, 228, 0), ("BorrowedHandsLaw", 136, 116, 0), ("BorrowedHandsLaw", 139, 232, 0), ("BorrowedHandsLaw", 140, 117, 0), ("BorrowedHandsLaw", 144, 234, 0), ("BorrowedHandsLaw", 145, 118, 0), ("BorrowedHandsLaw", 148, 238, 0), ("BorrowedHandsLaw", 149, 119, 0), ("BorrowedHandsLaw", 152, 241, 0), ("BorrowedHandsLaw", 153, 120, 0), ("BorrowedHandsLaw", 156, 243, 0), ("BorrowedHandsLaw", 157, 121, 0), ("BorrowedHandsLaw", 160, 248, 0), ("BorrowedHandsLaw", 161, 122, 0), ("BorrowedHandsLaw", 164, 249, 0), ("BorrowedHandsLaw", 165, 123, 0), ("BorrowedHandsLaw", 168, 250, 0), ("BorrowedHandsLaw", 169, 124, 0), ("BorrowedHandsLaw", 172, 252, 0), ("BorrowedHandsLaw", 173, 125, 0), ("BorrowedHandsLaw", 176, 233, 0), ("BorrowedHandsLaw", 177, 126, 0), ("BorrowedHandsLaw", 180, 258, 0)]
def bh_MLp : List (Nat × Nat × Nat × Nat) := [(929, 931, 28, 110), (934, 936, 29, 110), (942, 842, 0, 120), (943, 945, 31, 110), (933, 683, 684, 106), (938, 940, 30, 110), (639, 558, 0, 118), (636, 637, 0, 103), (621, 623, 14, 106), (796, 797, 798, 106), (694, 667, 668, 104), (695, 696, 0, 118), (686, 687, 688, 104), (690, 691, 692, 106), (699, 700, 701, 104), (703, 704, 705, 104), (987, 683, 684, 106), (988, 687, 688, 104), (997, 998, 0, 111), (1004, 1006, 35, 111), (1012, 842, 0, 120), (1013, 1015, 36, 111), (955, 667, 668, 104), (956, 958, 32, 108), (960, 691, 692, 106), (961, 963, 33, 108), (977, 752, 0, 118), (978, 755, 0, 118), (965, 558, 0, 118), (966, 642, 643, 104), (967, 634, 0, 118), (968, 970, 34, 108), (972, 696, 0, 118), (898, 899, 0, 109), (901, 902, 903, 104), (905, 687, 688, 104), (906, 825, 826, 104), (907, 683, 684, 106), (440, 441, 442, 104), (444, 446, 0, 105), (448, 450, 1, 105), (580, 582, 11, 105), (452, 454, 2, 105), (460, 462, 3, 105), (512, 514, 4, 105), (527, 529, 6, 105), (567, 569, 10, 105), (516, 518, 5, 105), (531, 532, 533, 104), (539, 541, 7, 105), (456, 457, 0, 105), (561, 563, 9, 105), (543, 545, 8, 105), (557, 558, 0, 118), (560, 536, 537, 104), (571, 572, 573, 104), (576, 577, 578, 104), (520, 521, 0, 105), (547, 548, 0, 105), (588, 589, 0, 104), (535, 536, 537, 104), (777, 675, 676, 104), (828, 696, 0, 118), (804, 667, 668, 104), (805, 807, 19, 107), (824, 825, 826, 104), (809, 810, 0, 118), (812, 814, 20, 107), (816, 818, 21, 107), (821, 822, 0, 107), (131, 132, 0, 104), (229, 230, 0, 105), (253, 254, 0, 106), (272, 273, 0, 107), (290, 291, 0, 108), (319, 320, 0, 109), (338, 339, 0, 110), (354, 355, 0, 111), (420, 421, 422, 105), (424, 425, 426, 105), (436, 437, 438, 105), (584, 585, 586, 104), (600, 601, 602, 104), (604, 605, 606, 104), (608, 610, 12, 103), (613, 615, 13, 103), (633, 634, 0, 118), (640, 558, 0, 118), (641, 642, 643, 104), (645, 536, 537, 104), (650, 651, 0, 103), (617, 618, 619, 106), (666, 667, 668, 104), (674, 675, 676, 104), (678, 680, 15, 103), (707, 708, 709, 104), (715, 717, 16, 103), (723, 724, 0, 103), (739, 740, 0, 103), (751, 752, 0, 118), (754, 755, 0, 118), (757, 759, 17, 103), (765, 766, 767, 104), (773, 774, 775, 104), (778, 687, 688, 104), (787, 637, 0, 103), (788, 790, 18, 103), (833, 834, 835, 107), (841, 842, 0, 120), (851, 853, 22, 103), (860, 862, 23, 103), (877, 879, 24, 103), (881, 883, 25, 103), (894, 895, 896, 109), (912, 914, 26, 103), (921, 923, 27, 103), (925, 926, 927, 110), (792, 793, 794, 106), (951, 952, 953, 108), (973, 974, 975, 108), (983, 984, 985, 111), (993, 994, 995, 111), (1000, 1001, 1002, 111), (1008, 1009, 1010, 111), (1024, 797, 798, 106), (1033, 1035, 37, 103), (1045, 1046, 1047, 104), (1049, 1051, 38, 103), (1054, 1055, 1056, 104), (761, 762, 763, 106), (682, 683, 684, 106), (800, 801, 802, 107), (855, 691, 692, 106), (885, 825, 826, 104), (916, 902, 903, 104), (1169, 1171, 39, 112), (1185, 1187, 41, 112), (1198, 1200, 44, 112), (1208, 1209, 0, 112), (1181, 1183, 40, 112), (1225, 1227, 49, 112), (1217, 1219, 47, 112), (1202, 1204, 45, 112), (1194, 1196, 43, 112), (1237, 1239, 51, 112), (1248, 1249, 0, 112), (1221, 1223, 48, 112), (1233, 1235, 50, 112), (1213, 1215, 46, 112), (1253, 1255, 52, 112), (1189, 1191, 42, 112), (1258, 1259, 0, 112), (1261, 1262, 0, 112), (1288, 1290, 55, 112), (1359, 1361, 64, 112), (1367, 1369, 66, 112), (1383, 1384, 0, 112), (1292, 1294, 56, 112), (1400, 1401, 0, 112), (1397, 1398, 0, 112), (1393, 1395, 71, 112), (1304, 1306, 59, 112), (1375, 1377, 68, 112), (1284, 1286, 54, 112), (1379, 1381, 69, 112), (1386, 1387, 0, 112), (1389, 1391, 70, 112), (1280, 1282, 53, 112), (1296, 1298, 57, 112), (1300, 1302, 58, 112), (1316, 1317, 0, 112), (1321, 1323, 60, 112), (1325, 1327, 61, 112), (1334, 1336, 62, 112), (1351, 1353, 63, 112), (1371, 1373, 67, 112), (1363, 1365, 65, 112), (1421, 1423, 72, 112), (1429, 1431, 73, 112), (1453, 1455, 77, 112), (1449, 1451, 76, 112), (1441, 1443, 74, 112), (1445, 1447, 75, 112), (1473, 1475, 79, 112), (1469, 1471, 78, 112), (1485, 842, 0, 120), (1503, 1505, 82, 112), (1495, 1497, 80, 112), (1499, 1501, 81, 112), (1523, 1525, 85, 112), (1515, 1517, 83, 112), (1519, 1521, 84, 112), (1548, 1550, 88, 112), (1540, 1542, 86, 112), (1544, 1546, 87, 112), (1561, 1563, 90, 112), (1557, 1559, 89, 112), (1569, 1571, 91, 112), (1582, 1583, 0, 112), (1578, 1580, 92, 112), (1585, 1587, 93, 112), (1589, 1591, 94, 112), (1598, 1600, 95, 112), (1611, 1613, 96, 112), (1619, 1621, 97, 112), (1623, 1625, 98, 112), (1627, 1629, 99, 112), (1631, 1633, 100, 112), (1635, 1637, 101, 112), (123, 124, 0, 103), (1060, 1061, 0, 112), (416, 417, 418, 103), (1165, 1166, 1167, 112), (428, 429, 430, 103), (1173, 1174, 1175, 112), (432, 433, 434, 103), (1177, 1178, 1179, 112), (596, 597, 598, 103), (1276, 1277, 1278, 112), (625, 626, 627, 103), (1308, 1309, 1310, 112), (629, 630, 631, 103), (1312, 1313, 1314, 112), (646, 647, 648, 103), (1329, 1330, 1331, 112), (653, 654, 655, 103), (1338, 1339, 1340, 112), (657, 658, 659, 103), (1342, 1343, 1344, 112), (661, 662, 663, 103), (1346, 1347, 1348, 112), (670, 671, 672, 103), (1355, 1356, 1357, 112), (711, 712, 713, 103), (1403, 1404, 1405, 112), (719, 720, 721, 103), (1407, 1408, 1409, 112), (727, 728, 729, 103), (1412, 1413, 1414, 112), (731, 732, 733, 103), (1264, 1265, 1266, 112), (735, 736, 737, 103), (1268, 1269, 1270, 112), (742, 743, 744, 103), (1272, 1273, 1274, 112), (746, 747, 748, 103), (1416, 1417, 1418, 112), (769, 770, 771, 103), (1425, 1426, 1427, 112), (779, 780, 781, 103), (1433, 1434, 1435, 112), (783, 784, 785, 103), (1437, 1438, 1439, 112), (829, 830, 831, 103), (1457, 1458, 1459, 112), (837, 838, 839, 103), (1461, 1462, 1463, 112), (847, 848, 849, 103), (1465, 1466, 1467, 112), (856, 857, 858, 103), (1477, 1478, 1479, 112), (864, 865, 866, 103), (1481, 1482, 1483, 112), (868, 869, 870, 103), (1486, 1487, 1488, 112), (873, 874, 875, 103), (1491, 1492, 1493, 112), (886, 887, 888, 103), (1507, 1508, 1509, 112), (890, 891, 892, 103), (1511, 1512, 1513, 112), (908, 909, 910, 103), (1531, 1532, 1533, 112), (917, 918, 919, 103), (1536, 1537, 1538, 112), (947, 948, 949, 103), (1552, 1553, 1554, 112), (979, 980, 981, 103), (1565, 1566, 1567, 112), (989, 990, 991, 103), (1573, 1574, 1575, 112), (1020, 1021, 1022, 103), (1594, 1595, 1596, 112), (1025, 1026, 1027, 103), (1602, 1603, 1604, 112), (1029, 1030, 1031, 103), (1606, 1607, 1608, 112), (1037, 1038, 1039, 103), (1527, 1528, 1529, 112), (1041, 1042, 1043, 103), (1615, 1616, 1617, 112)]
def bh_cdp : List Nat := [340, 928, 932, 937, 941, 946, 559, 753, 756, 635, 697, 811, 255, 620, 624, 764, 799, 795, 693, 685, 356, 986, 996, 999, 1003, 1007, 1011, 1016, 292, 954, 976, 959, 964, 971, 321, 897, 900, 231, 423, 427, 439, 451, 583, 515, 542, 564, 570, 519, 455, 463, 546, 549, 447, 458, 522, 530, 133, 443, 587, 590, 534, 574, 579, 603, 677, 776, 607, 669, 702, 706, 710, 644, 538, 827, 689, 904, 768, 1048, 1057, 274, 803, 836, 808, 815, 819, 823, 125, 419, 431, 435, 599, 628, 632, 649, 656, 660, 664, 673, 714, 722, 730, 734, 738, 745, 749, 772, 782, 786, 832, 840, 850, 859, 867, 871, 876, 889, 893, 911, 920, 950, 982, 992, 1023, 1028, 1032, 1040, 1044, 638, 725, 652, 741, 924, 611, 616, 760, 1052, 681, 863, 718, 791, 854, 880, 884, 915, 1036, 1062, 1210, 1260, 1385, 1263, 1168, 1172, 1176, 1188, 1184, 1201, 1220, 1228, 1224, 1205, 1197, 1240, 1250, 1236, 1216, 1256, 1192, 1180, 1283, 1291, 1303, 1295, 1287, 1362, 1370, 1432, 1378, 1382, 1388, 1307, 1601, 1399, 1402, 1396, 1392, 1374, 1444, 1299, 1267, 1271, 1275, 1279, 1311, 1318, 1324, 1328, 1315, 1337, 1332, 1341, 1345, 1349, 1354, 1366, 1358, 1406, 1410, 1415, 1424, 1419, 1428, 1436, 1456, 1452, 1448, 1440, 1460, 1464, 1472, 1476, 1468, 1480, 1484, 1489, 1506, 1498, 1502, 1494, 1510, 1526, 1522, 1518, 1514, 1530, 1534, 1543, 1551, 1547, 1539, 1564, 1560, 1555, 1572, 1568, 1584, 1581, 1588, 1592, 1576, 1597, 1605, 1614, 1609, 1634, 1622, 1626, 1630, 1638, 1618, 0, 843]
def bh_ST : List (String × Nat × String) := [("BorrowedHands$Tape", 44, "writer"), ("BorrowedHands$Tape", 139, "flip"), ("BorrowedHands$Tape", 141, "set"), ("BorrowedHands$Tape", 143, "clear"), ("BorrowedHands$Tape", 145, "turn"), ("BorrowedHands$Tape", 147, "swap"), ("BorrowedHands$Tape", 149, "copy"), ("BorrowedHands$Tape", 151, "plain"), ("BorrowedHands$Tape", 104, "under"), ("BorrowedHands$Tape", 63, "book"), ("BorrowedHandsModel", 179, "writer"), ("BorrowedHandsModel", 146, "plain"), ("BorrowedHandsModel", 151, "flip"), ("BorrowedHandsModel", 153, "set"), ("BorrowedHandsModel", 155, "clear"), ("BorrowedHandsModel", 157, "turn"), ("BorrowedHandsModel", 159, "swap"), ("BorrowedHandsModel", 161, "copy"), ("BorrowedHandsModel", 176, "under"), ("BorrowedHandsModel", 184, "book")]
def bh_NM : Nat := 261
abbrev m_X0_init : Nat := 0
abbrev m_X0_fewestPages : Nat := 1
abbrev m_X0_fillRows : Nat := 2
abbrev m_X0_listTwos : Nat := 3
abbrev m_X0_differingPages : Nat := 4
abbrev m_X0_allApart : Nat := 5
abbrev m_X1_signsOf : Nat := 6
abbrev m_X1_firstSign : Nat := 7
abbrev m_X1_secondSign : Nat := 8
abbrev m_X1_stands : Nat := 9
abbrev m_X1_changeRow : Nat := 10
abbrev m_X1_signAt : Nat := 11
abbrev m_X2_init : Nat := 12
abbrev m_X2_listFrom : Nat := 13
abbrev m_X2_listUntilDead : Nat := 14
abbrev m_X2_lowest : Nat := 15
abbrev m_X2_asBits : Nat := 16
abbrev m_X2_anyDead : Nat := 17
abbrev m_X2_passUp : Nat := 18
abbrev m_X2_lineOf : Nat := 19
abbrev m_X3_init : Nat := 20
abbrev m_X3_gather : Nat := 21
abbrev m_X3_clashes : Nat := 22
abbrev m_X3_clash : Nat := 23
abbrev m_X3_unlikeSets : Nat := 24
abbrev m_X3_isFirstOfItsLike : Nat := 25
abbrev m_X3_longestRow : Nat := 26
abbrev m_X3_longestWithin : Nat := 27
abbrev m_X4_init : Nat := 28
abbrev m_X4_search : Nat := 29
abbrev m_X4_ofFirst : Nat := 30
abbrev m_X4_findDemand : Nat := 31
abbrev m_X4_tryHabits : Nat := 32
abbrev m_X4_tryOne : Nat := 33
abbrev m_X5_init : Nat := 34
abbrev m_X5_cut : Nat := 35
abbrev m_X5_whoMade : Nat := 36
abbrev m_X6_init : Nat := 37
abbrev m_X6_hasRoom : Nat := 38
abbrev m_X6_append : Nat := 39
abbrev m_X6_readInto : Nat := 40
abbrev m_X6_readPart : Nat := 41
abbrev m_X6_readSemicolon : Nat := 42
abbrev m_X6_readWriter : Nat := 43
abbrev m_X6_readHabit : Nat := 44
abbrev m_X6_readUnder : Nat := 45
abbrev m_X6_readBook : Nat := 46
abbrev m_X6_readNumber : Nat := 47
abbrev m_X6_readWord : Nat := 48
abbrev m_X6_wordIs : Nat := 49
abbrev m_X6_kindOfWord : Nat := 50
abbrev m_X6_wordOfKind : Nat := 51
abbrev m_X6_skipBlanks : Nat := 52
abbrev m_X6_isLetter : Nat := 53
abbrev m_X6_isDigit : Nat := 54
abbrev m_X6_refuse : Nat := 55
abbrev m_X7_init : Nat := 56
abbrev m_X7_empty : Nat := 57
abbrev m_X7_copyFrom : Nat := 58
abbrev m_X7_copyRow : Nat := 59
abbrev m_X7_addWriter : Nat := 60
abbrev m_X7_addBook : Nat := 61
abbrev m_X7_addPage : Nat := 62
abbrev m_X7_isWriter : Nat := 63
abbrev m_X7_isBook : Nat := 64
abbrev m_X7_isPage : Nat := 65
abbrev m_X7_isDead : Nat := 66
abbrev m_X7_inMood : Nat := 67
abbrev m_X7_hasStock : Nat := 68
abbrev m_X7_stockOf : Nat := 69
abbrev m_X7_putStock : Nat := 70
abbrev m_X7_hasHabit : Nat := 71
abbrev m_X7_setHabit : Nat := 72
abbrev m_X7_habitOn : Nat := 73
abbrev m_X7_rowOf : Nat := 74
abbrev m_X7_pageOfSeen : Nat := 75
abbrev m_X7_havingUnder : Nat := 76
abbrev m_X7_allPages : Nat := 77
abbrev m_X7_sumOf : Nat := 78
abbrev m_X8_init : Nat := 79
abbrev m_X8_follow : Nat := 80
abbrev m_X8_changedBy : Nat := 81
abbrev m_X8_step : Nat := 82
abbrev m_X8_put : Nat := 83
abbrev m_X8_turn : Nat := 84
abbrev m_X8_swap : Nat := 85
abbrev m_X9_init : Nat := 86
abbrev m_X9_feed : Nat := 87
abbrev m_X9_end : Nat := 88
abbrev m_X9_tell : Nat := 89
abbrev m_X9_hire : Nat := 90
abbrev m_X9_sack : Nat := 91
abbrev m_X9_teach : Nat := 92
abbrev m_X9_praise : Nat := 93
abbrev m_X9_blame : Nat := 94
abbrev m_X9_order : Nat := 95
abbrev m_X9_day : Nat := 96
abbrev m_X9_store : Nat := 97
abbrev m_X9_die : Nat := 98
abbrev m_X9_see : Nat := 99
abbrev m_X9_forget : Nat := 100
abbrev m_X9_undo : Nat := 101
abbrev m_X9_keep : Nat := 102
abbrev m_X9_back : Nat := 103
abbrev m_X9_writer : Nat := 104
abbrev m_X9_page : Nat := 105
abbrev m_X9_line : Nat := 106
abbrev m_X9_trace : Nat := 107
abbrev m_X9_own : Nat := 108
abbrev m_X9_pay : Nat := 109
abbrev m_X9_alike : Nat := 110
abbrev m_X9_fits : Nat := 111
abbrev m_X9_likeliest : Nat := 112
abbrev m_X9_matches : Nat := 113
abbrev m_X9_trees : Nat := 114
abbrev m_X9_under : Nat := 115
abbrev m_X9_breaks : Nat := 116
abbrev m_X9_untangle : Nat := 117
abbrev m_X9_tells : Nat := 118
abbrev m_X9_slips : Nat := 119
abbrev m_X9_errors : Nat := 120
abbrev m_X9_nested : Nat := 121
abbrev m_X9_shared : Nat := 122
abbrev m_X9_quarrel : Nat := 123
abbrev m_X9_served : Nat := 124
abbrev m_X9_between : Nat := 125
abbrev m_X9_count : Nat := 126
abbrev m_X9_isSign : Nat := 127
abbrev m_X9_isRow : Nat := 128
abbrev m_X9_isGift : Nat := 129
abbrev m_X9_isShelf : Nat := 130
abbrev m_X9_isSetOfWriters : Nat := 131
abbrev m_X9_remember : Nat := 132
abbrev m_X9_handsOf : Nat := 133
abbrev m_X9_lowestOf : Nat := 134
abbrev m_X9_mostHands : Nat := 135
abbrev m_X9_lineOf : Nat := 136
abbrev m_X9_lineAt : Nat := 137
abbrev m_X9_lacksLines : Nat := 138
abbrev m_X9_followTrail : Nat := 139
abbrev m_X9_passedUp : Nat := 140
abbrev m_X9_seenFitsWriters : Nat := 141
abbrev m_X9_choicesBySeen : Nat := 142
abbrev m_X9_countWays : Nat := 143
abbrev m_X9_sendDown : Nat := 144
abbrev m_X10_init : Nat := 145
abbrev m_X10_in : Nat := 146
abbrev m_X10_truth : Nat := 147
abbrev m_X10_has : Nat := 148
abbrev m_X10_moves : Nat := 149
abbrev m_X10_feed : Nat := 150
abbrev m_X10_puts : Nat := 151
abbrev m_X10_end : Nat := 152
abbrev m_X10_sign : Nat := 153
abbrev m_X10_next : Nat := 154
abbrev m_X10_isRight : Nat := 155
abbrev m_X10_fails : Nat := 156
abbrev m_X10_isDigit : Nat := 157
abbrev m_X10_number : Nat := 158
abbrev m_X10_isWord : Nat := 159
abbrev m_X10_takes : Nat := 160
abbrev m_X10_kindTold : Nat := 161
abbrev m_X10_needs : Nat := 162
abbrev m_X10_readsHabit : Nat := 163
abbrev m_X10_readsWriter : Nat := 164
abbrev m_X10_readsBook : Nat := 165
abbrev m_X10_readsPart : Nat := 166
abbrev m_X10_tell : Nat := 167
abbrev m_X10_isWriter : Nat := 168
abbrev m_X10_of : Nat := 169
abbrev m_X10_puts_ : Nat := 170
abbrev m_X10_under : Nat := 171
abbrev m_X10_isDead : Nat := 172
abbrev m_X10_isBook : Nat := 173
abbrev m_X10_pagesOf : Nat := 174
abbrev m_X10_isPage : Nat := 175
abbrev m_X10_pageOf : Nat := 176
abbrev m_X10_hasStock : Nat := 177
abbrev m_X10_stockAt : Nat := 178
abbrev m_X10_hands : Nat := 179
abbrev m_X10_handsSet : Nat := 180
abbrev m_X10_done : Nat := 181
abbrev m_X10_with : Nat := 182
abbrev m_X10_habit : Nat := 183
abbrev m_X10_passes : Nat := 184
abbrev m_X10_lineOf : Nat := 185
abbrev m_X10_isAnyDead : Nat := 186
abbrev m_X10_keepsPast : Nat := 187
abbrev m_X10_undo : Nat := 188
abbrev m_X10_keep : Nat := 189
abbrev m_X10_back : Nat := 190
abbrev m_X10_hire : Nat := 191
abbrev m_X10_sack : Nat := 192
abbrev m_X10_isHabit : Nat := 193
abbrev m_X10_hasHabit : Nat := 194
abbrev m_X10_learns : Nat := 195
abbrev m_X10_teach : Nat := 196
abbrev m_X10_goesDown : Nat := 197
abbrev m_X10_praise : Nat := 198
abbrev m_X10_blame : Nat := 199
abbrev m_X10_order : Nat := 200
abbrev m_X10_day : Nat := 201
abbrev m_X10_moods : Nat := 202
abbrev m_X10_hasAll : Nat := 203
abbrev m_X10_store : Nat := 204
abbrev m_X10_die : Nat := 205
abbrev m_X10_see : Nat := 206
abbrev m_X10_forget : Nat := 207
abbrev m_X10_overWhom : Nat := 208
abbrev m_X10_writer : Nat := 209
abbrev m_X10_page : Nat := 210
abbrev m_X10_line : Nat := 211
abbrev m_X10_brings : Nat := 212
abbrev m_X10_traces : Nat := 213
abbrev m_X10_laysTrace : Nat := 214
abbrev m_X10_trace : Nat := 215
abbrev m_X10_own : Nat := 216
abbrev m_X10_pay : Nat := 217
abbrev m_X10_laysSource : Nat := 218
abbrev m_X10_leads : Nat := 219
abbrev m_X10_alike : Nat := 220
abbrev m_X10_fits : Nat := 221
abbrev m_X10_likeliest : Nat := 222
abbrev m_X10_matches : Nat := 223
abbrev m_X10_seen : Nat := 224
abbrev m_X10_canTree : Nat := 225
abbrev m_X10_choices : Nat := 226
abbrev m_X10_trees : Nat := 227
abbrev m_X10_under_ : Nat := 228
abbrev m_X10_couldBe : Nat := 229
abbrev m_X10_stretches : Nat := 230
abbrev m_X10_canBreak : Nat := 231
abbrev m_X10_breaks : Nat := 232
abbrev m_X10_between : Nat := 233
abbrev m_X10_untangle : Nat := 234
abbrev m_X10_isSet : Nat := 235
abbrev m_X10_unlikeOn : Nat := 236
abbrev m_X10_laysApart : Nat := 237
abbrev m_X10_tells : Nat := 238
abbrev m_X10_lineWith : Nat := 239
abbrev m_X10_slipsBy : Nat := 240
abbrev m_X10_slips : Nat := 241
abbrev m_X10_errorsOf : Nat := 242
abbrev m_X10_errors : Nat := 243
abbrev m_X10_isWithin : Nat := 244
abbrev m_X10_clashes : Nat := 245
abbrev m_X10_laysUnlike : Nat := 246
abbrev m_X10_longestRow : Nat := 247
abbrev m_X10_nested : Nat := 248
abbrev m_X10_shared : Nat := 249
abbrev m_X10_quarrel : Nat := 250
abbrev m_X10_makes : Nat := 251
abbrev m_X10_served : Nat := 252
abbrev m_X10_sumOf : Nat := 253
abbrev m_X10_pagesOfAll : Nat := 254
abbrev m_X10_alone : Nat := 255
abbrev m_X10_mostHands : Nat := 256
abbrev m_X10_deadOnes : Nat := 257
abbrev m_X10_count : Nat := 258
abbrev m_L_law : Nat := 259
abbrev m_J6_bitCount_0f7a4 : Nat := 260
end
section
/-! ===== the machine over a picture: one step, the least fixed point, contracts by depth ===== -/
def bh_Y (m : Nat) : MethodName := bh_ys.getD m ⟨"", "", ""⟩
def bh_B (m : Nat) : ByteArray := bh_bs.getD m ByteArray.empty
def bh_mL (m : Nat) : Nat := bh_mls.getD m 0
def bh_rt (m : Nat) : Option FieldType := bh_rts.getD m none
def bh_na (m : Nat) : Nat := bh_nas.getD m 0
def bh_ci (m : Nat) : Nat := bh_cis.getD m 99
def bh_mc (m : Nat) : Nat := bh_mcs.getD m 0
def bh_ms (m : Nat) : Nat := bh_mss.getD m 0
def bh_cod (m pc : Nat) : bh_I := (bh_codes.getD m []).getD pc bz
/-- how many cells there are; the references; the ints (fields, elements); the longs -/
abbrev bh_H : Type := Nat × (Nat → Nat → Option Nat) × (Nat → Nat → Int32) × (Nat → Nat → Int64)
/-- the plan of the cells: what each is (a class's number; 20 int[], 21 long[], 22 byte[], 23 boolean[], 24 Town[]) and how long -/
def bh_plan : List (Nat × Nat) :=
  let tw : List (Nat × Nat) := (7, 18) :: (List.replicate 8 (20, 12) ++ [(20, 4), (20, 32), (20, 384), (20, 16)])
  (9, 16) :: (tw ++ tw ++ [(6, 5), (20, 400), (24, 10), (24, 2), (2, 2), (20, 12), (8, 3), (20, 16), (20, 16), (20, 16), (4, 7), (5, 3), (20, 16), (20, 16), (0, 3), (20, 96), (20, 144), (3, 2), (20, 16), (20, 16), (20, 12), (21, 17)]
    ++ (List.replicate 12 tw).flatten
    ++ [(10, 33), (20, 560), (20, 560), (20, 5600), (20, 1120), (23, 2), (22, 400), (20, 12), (20, 12), (20, 16), (20, 16), (20, 16), (20, 16), (20, 16), (20, 16), (20, 16), (20, 16), (20, 16), (21, 17), (20, 144), (20, 16), (20, 16), (20, 16)])
def bh_tg (k : Nat) : Nat := (bh_plan.getD k (99, 0)).1
def bh_ln (k : Nat) : Nat := (bh_plan.getD k (99, 0)).2
/-- whether a class's field holds a reference -/
def bh_fr (ci j : Nat) : Bool := match bh_cls[ci]? with
  | some q => decide (1 < (q.2.1 j).2.2.1.length)
  | none => false
end
section
/-! ===== the table is the code: every instruction, every link ===== -/
def bh_O (m : Nat) : String := (bh_Y m).cls
def bh_at (i : Nat) (w : Jvm.Cond) : Bool := decide (lw_tbl[i]? = some w) && goodWord w
theorem bh_at_WS {i : Nat} {w : Jvm.Cond} (h : bh_at i w = true) : w ∈ bh_WS := by
  simp only [bh_at, Bool.and_eq_true, decide_eq_true_eq] at h
  exact bh_WS_of h.1 h.2
def bh_cc (c : Int) : Jvm.ClassFile.Cond := match c with
  | 0 => .eq
  | 1 => .ne
  | 2 => .lt
  | 3 => .ge
  | 4 => .gt
  | _ => .le
def bh_dc (m pc : Nat) (i : Instr) (len : Nat) : Bool := decide (decode (bh_B m) pc = .ok (i, len))
/-- the short form of an instruction with a place, or the long one -/
def bh_d4 (m pc len a : Nat) (c : Int) (f : Fin 4 → Instr) (g : Nat → Instr) : Bool :=
  if c = 1 then (if h : a < 4 then decide (len = 1) && bh_dc m pc (f ⟨a, h⟩) 1 else false) else decide (len = 2) && bh_dc m pc (g a) 2
def bh_ibI (a : Nat) : Instr := match a with
  | 0 => .iadd
  | 1 => .isub
  | 2 => .imul
  | 3 => .iand
  | 4 => .ior
  | 5 => .ixor
  | 6 => .ishl
  | 7 => .ishr
  | _ => .iushr
def bh_lbI (a : Nat) : Instr := match a with
  | 0 => .ladd
  | 1 => .lmul
  | _ => .lor
def bh_nat (a : Nat) : ArrayType := match a with
  | 20 => .int
  | 21 => .long
  | 22 => .byte
  | _ => .boolean
def bh_d1 (m pc len : Nat) (i : Instr) : Bool := decide (len = 1) && bh_dc m pc i 1
def bh_d3 (m pc len : Nat) (i : Instr) : Bool := decide (len = 3) && bh_dc m pc i 3
def bh_ok (m pc : Nat) (i : bh_I) : Bool :=
  match i with
  | (op, len, a, c, l) =>
    match op with
    | 0 => true
    | 1 => match a with
      | 0 => bh_d1 m pc len (.iconst c)
      | 1 => decide (len = 2) && bh_dc m pc (.bipush c) 2 && decide ((Int8.ofInt c).toInt32 = Int32.ofInt c)
      | 2 => decide (len = 3) && bh_dc m pc (.sipush c) 3 && decide ((Int16.ofInt c).toInt32 = Int32.ofInt c)
      | 3 => decide (len = 2) && bh_dc m pc (.ldc (l.getD 0 0)) 2 && bh_at (l.getD 1 0) (.constant (bh_O m) (l.getD 0 0) (Int32.ofInt c))
      | _ => bh_d3 m pc len (.ldc_w (l.getD 0 0)) && bh_at (l.getD 1 0) (.constant (bh_O m) (l.getD 0 0) (Int32.ofInt c))
    | 2 => match a with
      | 0 => if c = 0 then bh_d1 m pc len (.lconst 0) else decide (c = 1) && bh_d1 m pc len (.lconst 1)
      | _ => bh_d3 m pc len (.ldc2_w (l.getD 0 0)) && bh_at (l.getD 1 0) (.constantLong (bh_O m) (l.getD 0 0) (Int64.ofInt c))
    | 3 => bh_d4 m pc len a c .iload_n .iload
    | 4 => bh_d4 m pc len a c .lload_n .lload
    | 5 => bh_d4 m pc len a c .aload_n .aload
    | 6 => bh_d4 m pc len a c .istore_n .istore
    | 7 => bh_d4 m pc len a c .lstore_n .lstore
    | 8 => bh_d4 m pc len a c .astore_n .astore
    | 9 => bh_d3 m pc len (.iinc a c)
    | 10 => bh_d1 m pc len (bh_ibI a)
    | 11 => bh_d1 m pc len .idiv
    | 12 => bh_d1 m pc len .irem
    | 13 => bh_d1 m pc len (bh_lbI a)
    | 14 => bh_d1 m pc len .lshl
    | 15 => bh_d1 m pc len .i2l
    | 16 => bh_d1 m pc len .i2b
    | 17 => bh_d1 m pc len .lcmp
    | 18 => bh_d1 m pc len .dup
    | 19 => bh_d1 m pc len .pop
    | 20 => bh_d1 m pc len .dup2
    | 21 => bh_d3 m pc len (.ifCond (bh_cc c) ((a : Int) - pc))
    | 22 => bh_d3 m pc len (.if_icmp (bh_cc c) ((a : Int) - pc))
    | 23 => bh_d3 m pc len (.goto ((a : Int) - pc))
    | 24 => bh_dc m pc (.tableswitch ((a : Int) - pc) c (c + l.length - 1) (l.map (fun t : Nat => (t : Int) - pc)).toArray) len
    | 25 => match bh_FL[a]? with
      | some q => bh_d3 m pc len (.getfield q.2.1) && decide (q.1 = bh_O m)
      | none => false
    | 26 => match bh_FL[a]? with
      | some q => bh_d3 m pc len (.putfield q.2.1) && decide (q.1 = bh_O m) && (match bh_cls[q.2.2.1]? with
        | some t => (t.2.1 q.2.2.2).2.2.2 == bh_fr q.2.2.1 q.2.2.2 && (!(bh_fr q.2.2.1 q.2.2.2) || (decide ((bh_Y m).name = "<init>") && decide ((t.2.1 q.2.2.2).1 = bh_O m)))
        | none => false)
      | none => false
    | 27 => bh_d1 m pc len .iaload
    | 28 => bh_d1 m pc len .iastore
    | 29 => bh_d1 m pc len .baload
    | 30 => bh_d1 m pc len .bastore
    | 31 => bh_d1 m pc len .laload
    | 32 => bh_d1 m pc len .lastore
    | 33 => bh_d1 m pc len .aaload
    | 34 => bh_d1 m pc len .aastore
    | 35 => bh_d1 m pc len .arraylength
    | 36 => match bh_cls[a]? with
      | some t => bh_d3 m pc len (.new c.toNat) && bh_at (l.getD 0 0) (.classLink (bh_O m) c.toNat t.1) && bh_at (l.getD 1 0) (.instantiable t.1 t.2.2) && bh_at (l.getD 2 0) (.initialized t.1)
      | none => false
    | 37 => decide (20 ≤ a ∧ a ≤ 23) && decide (len = 2) && bh_dc m pc (.newarray (bh_nat a)) 2
    | 38 => bh_d3 m pc len (.anewarray c.toNat) && bh_at (l.getD 0 0) (.classLink (bh_O m) c.toNat "BorrowedHands$Town")
    | 39 => bh_d3 m pc len (.invokespecial c.toNat) && bh_at (l.getD 0 0) (.methodLink (bh_O m) c.toNat Lib.objectInit)
    | 40 => match bh_ML[a]? with
      | some q => decide (q.1 = bh_O m) && bh_d3 m pc len (match q.2.2.2 with
        | 0 => .invokevirtual q.2.1
        | 1 => .invokestatic q.2.1
        | 2 => .invokespecial q.2.1
        | 3 => .invokestatic q.2.1
        | _ => .invokespecial q.2.1)
      | none => false
    | 41 => bh_d1 m pc len .ireturn
    | 42 => bh_d1 m pc len .lreturn
    | 43 => bh_d1 m pc len .areturn
    | 44 => bh_d1 m pc len .return_
    | 45 => decide (len = 2) && bh_dc m pc (.ldc c.toNat) 2 && (match bh_ST[a]? with
      | some q => decide (q.1 = bh_O m ∧ q.2.1 = c.toNat)
      | none => false)
    | 46 => bh_d3 m pc len (.invokevirtual c.toNat) && bh_at (l.getD 0 0) (.methodLink (bh_O m) c.toNat yJ0_length_8abf5)
    | 47 => bh_d3 m pc len (.invokevirtual c.toNat) && bh_at (l.getD 0 0) (.methodLink (bh_O m) c.toNat yJ0_charAt_5068e)
    | 48 => bh_d3 m pc len (.invokestatic c.toNat) && bh_at (l.getD 0 0) (.methodLink (bh_O m) c.toNat arraycopyName)
    | 49 => bh_d3 m pc len (.invokestatic c.toNat) && bh_at (l.getD 0 0) (.methodLink (bh_O m) c.toNat Lib.Math.max.name)
    | 50 => bh_d3 m pc len (.invokestatic c.toNat) && bh_at (l.getD 0 0) (.methodLink (bh_O m) c.toNat Lib.Math.min.name)
    | _ => false
def bh_okm (m : Nat) : Bool := (bh_codes.getD m []).zipIdx.all (fun q => bh_ok m q.2 q.1)
def bh_fw (q : String × Nat × Nat × Nat) : Jvm.Cond := match bh_cls[q.2.2.1]? with
  | some t => .fieldLink q.1 q.2.1 (t.2.1 q.2.2.2).1 (t.2.1 q.2.2.2).2.1 (t.2.1 q.2.2.2).2.2.1
  | none => .count 0
def bh_fok (i : Nat) : Bool := match bh_FL[i]?, bh_FLp[i]? with
  | some q, some p => bh_at p (bh_fw q) && (match bh_cls[q.2.2.1]? with
    | some t => decide (q.2.2.2 < t.2.2)
    | none => false)
  | _, _ => false
def bh_mh (y : MethodName) : Bool := decide (y.cls ≠ "java/lang/invoke/MethodHandle") && decide (y.cls ≠ "java/lang/invoke/VarHandle")
def bh_mok (i : Nat) : Bool := match bh_ML[i]?, bh_MLp[i]? with
  | some q, some p => decide (q.2.2.1 < 261) && bh_at p.2.2.2 (.initialized (bh_Y q.2.2.1).cls) && bh_mh (bh_Y q.2.2.1) && (match q.2.2.2 with
    | 0 => bh_at p.1 (.methodLink q.1 q.2.1 (bh_Y q.2.2.1)) && bh_at p.2.1 (.instanceMethod (bh_Y q.2.2.1)) && bh_at p.2.2.1 (.selects (bh_Y q.2.2.1).cls (bh_Y q.2.2.1) (bh_Y q.2.2.1)) && decide ((parseMethodDescriptor (bh_Y q.2.2.1).desc).map (fun d => d.parameters.length + 1) = some (bh_na q.2.2.1)) && decide ((bh_cls[bh_ci q.2.2.1]?).map (fun t => t.1) = some (bh_Y q.2.2.1).cls)
    | 1 => bh_at p.1 (.methodLink q.1 q.2.1 (bh_Y q.2.2.1)) && bh_at p.2.1 (.static (bh_Y q.2.2.1)) && decide ((parseMethodDescriptor (bh_Y q.2.2.1).desc).map (fun d => d.parameters.length) = some (bh_na q.2.2.1))
    | 2 => bh_at p.1 (.methodLink q.1 q.2.1 (bh_Y q.2.2.1)) && bh_at p.2.1 (.instanceMethod (bh_Y q.2.2.1)) && decide ((bh_Y q.2.2.1).name = "<init>") && decide (bh_rt q.2.2.1 = none) && decide ((parseMethodDescriptor (bh_Y q.2.2.1).desc).map (fun d => d.parameters.length + 1) = some (bh_na q.2.2.1))
    | 3 => decide (lw_tbl[p.1]? = some (.methodLinkNest q.1 q.2.1 (bh_Y q.2.2.1) "BorrowedHands")) && bh_at p.2.1 (.static (bh_Y q.2.2.1)) && decide ((parseMethodDescriptor (bh_Y q.2.2.1).desc).map (fun d => d.parameters.length) = some (bh_na q.2.2.1))
    | 4 => decide (lw_tbl[p.1]? = some (.methodLinkNest q.1 q.2.1 (bh_Y q.2.2.1) "BorrowedHands")) && bh_at p.2.1 (.instanceMethod (bh_Y q.2.2.1)) && decide ((bh_Y q.2.2.1).name = "<init>") && decide (bh_rt q.2.2.1 = none) && decide ((parseMethodDescriptor (bh_Y q.2.2.1).desc).map (fun d => d.parameters.length + 1) = some (bh_na q.2.2.1))
    | _ => false)
  | _, _ => false
def bh_cok (m : Nat) : Bool := plainName (bh_Y m).cls && decide (bh_mL m ≤ 40) && decide (bh_na m ≤ bh_mL m) && (decide (m = m_L_law) || bh_at (bh_cdp.getD m 0) (.code (bh_Y m) (bh_B m) (bh_mL m) (bh_rt m)))
def bh_ty (ci : Nat) : Nat → FieldType := match ci with
  | 0 => tyX0
  | 1 => tyX1
  | 2 => tyX2
  | 3 => tyX3
  | 4 => tyX4
  | 5 => tyX5
  | 6 => tyX6
  | 7 => tyX7
  | 8 => tyX8
  | 9 => tyX9
  | _ => tyX10
def bh_uok (ci : Nat) : Bool := match bh_cls[ci]? with
  | some t => (u_ws t.1 t.2.1 t.2.2).all (fun w => decide (w ∈ bh_WS)) && (List.range t.2.2).all (fun k => decide (parseFieldDescriptor (t.2.1 k).2.2.1 = some (bh_ty ci k)) && (if bh_fr ci k then decide (bh_ty ci k ≠ .int) && decide (defaultValue (bh_ty ci k) = .null) else decide (bh_ty ci k = .int))) && (List.range t.2.2).all (fun a => (List.range t.2.2).all (fun b => decide (a = b) || decide ((t.2.1 a).2.1 ≠ (t.2.1 b).2.1)))
  | none => false
def bh_pok (k : Nat) : Bool := (match bh_cls[bh_tg k]? with
  | some t => decide (t.2.2 = bh_ln k)
  | none => true) && decide (bh_ln k < 10000)
end
section
theorem bh_ok_of {m : Nat} (hm : m < 261) (pc : Nat) : bh_ok m pc (bh_cod m pc) = true := sorry
theorem bh_fok_of {i : Nat} {q : String × Nat × Nat × Nat} (h : bh_FL[i]? = some q) : ∃ t, bh_cls[q.2.2.1]? = some t ∧ q.2.2.2 < t.2.2 ∧ Jvm.Cond.fieldLink q.1 q.2.1 (t.2.1 q.2.2.2).1 (t.2.1 q.2.2.2).2.1 (t.2.1 q.2.2.2).2.2.1 ∈ bh_WS := sorry
theorem mok_all {m : Nat} (hm : m < 291) : bh_mok m = true := sorry
theorem cok_all {m : Nat} (hm : m < 261) : bh_cok m = true := sorry
theorem bh_cls_of {ci : Nat} {t : vw_C} (h : bh_cls[ci]? = some t) : ci < 11 := sorry
theorem bh_uok_of {ci : Nat} {t : vw_C} (h : bh_cls[ci]? = some t) : (∀ w ∈ u_ws t.1 t.2.1 t.2.2, w ∈ bh_WS) ∧ (∀ k, k < t.2.2 → parseFieldDescriptor (t.2.1 k).2.2.1 = some (bh_ty ci k)) ∧ (∀ k, k < t.2.2 → (bh_fr ci k = true → bh_ty ci k ≠ .int ∧ defaultValue (bh_ty ci k) = .null) ∧ (bh_fr ci k = false → bh_ty ci k = .int)) ∧ ∀ a, a < t.2.2 → ∀ b, b < t.2.2 → a ≠ b → (t.2.1 a).2.1 ≠ (t.2.1 b).2.1 := sorry
theorem bh_pok_all : (List.range bh_plan.length).all bh_pok = true := sorry
theorem bh_plan_len : bh_plan.length = 228 := sorry
end
section
def bh_up2 {α : Type} (f : Nat → Nat → α) (k j : Nat) (x : α) : Nat → Nat → α := fun a => if a = k then (fun b => if b = j then x else f k b) else f a
def bh_upr {α : Type} (f : Nat → Nat → α) (k : Nat) (g : Nat → α) : Nat → Nat → α := fun a => if a = k then g else f a
def bh_cut (lv : List Value) (i : Nat) : List Value := match i with
  | 0 => lv
  | k + 1 => match lv[k]? with
    | some v => if v.category = 2 then lv.set k .null else lv
    | none => lv
def bh_sto (lv : List Value) (i : Nat) (v : Value) : List Value := (bh_cut lv i).set i v
def bh_stoL (lv : List Value) (i : Nat) (v : Value) : List Value := ((bh_cut lv i).set (i + 1) .null).set i v
def bh_ib (a : Nat) (x y : Int32) : Int32 := match a with
  | 0 => x + y
  | 1 => x - y
  | 2 => x * y
  | 3 => x &&& y
  | 4 => x ||| y
  | 5 => x ^^^ y
  | 6 => x <<< (y &&& 31)
  | 7 => x >>> (y &&& 31)
  | _ => (x.toUInt32 >>> (y.toUInt32 &&& Int32.toUInt32 31)).toInt32
def bh_lb (a : Nat) (x y : Int64) : Int64 := match a with
  | 0 => x + y
  | 1 => x * y
  | _ => x ||| y
def bh_cmp (c : Int) (x y : Int32) : Prop := match c with
  | 0 => x = y
  | 1 => ¬ x = y
  | 2 => x < y
  | 3 => y ≤ x
  | 4 => y < x
  | _ => x ≤ y
/-- next; returned; called -/
abbrev bh_N : Type := Nat × List Value × List Value × (Nat × Nat) × bh_H
abbrev bh_C : Type := Nat × List Value × Nat × List Value × List Value × (Nat × Nat)
abbrev bh_P : Type := Nat → List Value → List Value → Nat × Nat → bh_H → Prop
abbrev bh_Q : Type := Option Value → bh_H → Prop
def bh_in (i : Int32) (n : Nat) : Prop := vp_in i n
def bh_sl (j : Nat) : Nat := ((bh_ST.getD j ("", 0, "")).2.2).length
def bh_sc (j i : Nat) : Int32 := nI ((((bh_ST.getD j ("", 0, "")).2.2).toList.getD i 'a').toNat)
def bh_catsum (l : List Value) : Nat := (l.map fun v => v.category).sum
/-- one step, to one of three ends -/
def bh_st (m : Nat) (call : Nat → List Value → bh_H → bh_Q → Prop) (P : bh_P) (Q : bh_Q) (pc : Nat) (lv st : List Value) (u : Nat × Nat) (h : bh_H) : Prop :=
  match bh_cod m pc with
  | (op, len, a, c, l) =>
    match op with
    | 1 => P (pc + len) lv (.int (Int32.ofInt c) :: st) u h
    | 2 => P (pc + len) lv (.long (Int64.ofInt c) :: st) u h
    | 3 => ∃ x, lv[a]? = some (.int x) ∧ P (pc + len) lv (.int x :: st) u h
    | 4 => ∃ x, lv[a]? = some (.long x) ∧ P (pc + len) lv (.long x :: st) u h
    | 5 => ∃ x, lv[a]? = some (.ref x) ∧ P (pc + len) lv (.ref x :: st) u h
    | 6 => ∃ x s, st = .int x :: s ∧ a < bh_mL m ∧ P (pc + len) (bh_sto lv a (.int x)) s u h
    | 7 => ∃ x s, st = .long x :: s ∧ a + 1 < bh_mL m ∧ P (pc + len) (bh_stoL lv a (.long x)) s u h
    | 8 => ∃ x s, st = .ref x :: s ∧ a < bh_mL m ∧ P (pc + len) (bh_sto lv a (.ref x)) s u h
    | 9 => ∃ x, lv[a]? = some (.int x) ∧ a < bh_mL m ∧ P (pc + len) (bh_sto lv a (.int (x + Int32.ofInt c))) st u h
    | 10 => ∃ x y s, st = .int y :: .int x :: s ∧ P (pc + len) lv (.int (bh_ib a x y) :: s) u h
    | 11 => ∃ x y s, st = .int y :: .int x :: s ∧ ¬ y = 0 ∧ P (pc + len) lv (.int (x / y) :: s) u h
    | 12 => ∃ x y s, st = .int y :: .int x :: s ∧ ¬ y = 0 ∧ P (pc + len) lv (.int (x - x / y * y) :: s) u h
    | 13 => ∃ x y s, st = .long y :: .long x :: s ∧ P (pc + len) lv (.long (bh_lb a x y) :: s) u h
    | 14 => ∃ (x : Int64) (y : Int32) (s : List Value), st = .int y :: .long x :: s ∧ P (pc + len) lv (.long (x <<< (y.toInt64 &&& 63)) :: s) u h
    | 15 => ∃ (x : Int32) (s : List Value), st = .int x :: s ∧ P (pc + len) lv (.long x.toInt64 :: s) u h
    | 16 => ∃ (x : Int32) (s : List Value), st = .int x :: s ∧ P (pc + len) lv (.int x.toInt8.toInt32 :: s) u h
    | 17 => ∃ x y s, st = .long y :: .long x :: s ∧ P (pc + len) lv (.int (lg_cmp x y) :: s) u h
    | 18 => ∃ v s, st = v :: s ∧ v.category = 1 ∧ P (pc + len) lv (v :: v :: s) u h
    | 19 => ∃ v s, st = v :: s ∧ v.category = 1 ∧ P (pc + len) lv s u h
    | 20 => ∃ v w s, st = v :: w :: s ∧ v.category = 1 ∧ w.category = 1 ∧ P (pc + len) lv (v :: w :: v :: w :: s) u h
    | 21 => ∃ x s, st = .int x :: s ∧ (bh_cmp c x 0 → P a lv s u h) ∧ (¬ bh_cmp c x 0 → P (pc + len) lv s u h)
    | 22 => ∃ x y s, st = .int y :: .int x :: s ∧ (bh_cmp c x y → P a lv s u h) ∧ (¬ bh_cmp c x y → P (pc + len) lv s u h)
    | 23 => P a lv st u h
    | 24 => ∃ x s, st = .int x :: s ∧ ((¬ x.toInt < c ∧ ¬ c + l.length - 1 < x.toInt) → ∃ t, l[(x.toInt - c).toNat]? = some t ∧ P t lv s u h) ∧ ((x.toInt < c ∨ c + l.length - 1 < x.toInt) → P a lv s u h)
    | 25 => ∃ k s, st = .ref k :: s ∧ k < h.1 ∧ ∃ q, bh_FL[a]? = some q ∧ bh_tg k = q.2.2.1 ∧ q.2.2.2 < bh_ln k ∧
        ((bh_fr q.2.2.1 q.2.2.2 = true ∧ ∃ r, h.2.1 k q.2.2.2 = some r ∧ P (pc + len) lv (.ref r :: s) u h) ∨ (bh_fr q.2.2.1 q.2.2.2 = false ∧ P (pc + len) lv (.int (h.2.2.1 k q.2.2.2) :: s) u h))
    | 26 => ∃ q, bh_FL[a]? = some q ∧
        ((bh_fr q.2.2.1 q.2.2.2 = true ∧ ∃ r k s, st = .ref r :: .ref k :: s ∧ k < h.1 ∧ r < h.1 ∧ bh_tg k = q.2.2.1 ∧ q.2.2.2 < bh_ln k ∧ P (pc + len) lv s u (h.1, bh_up2 h.2.1 k q.2.2.2 (some r), h.2.2.1, h.2.2.2)) ∨
         (bh_fr q.2.2.1 q.2.2.2 = false ∧ ∃ x k s, st = .int x :: .ref k :: s ∧ k < h.1 ∧ bh_tg k = q.2.2.1 ∧ q.2.2.2 < bh_ln k ∧ P (pc + len) lv s u (h.1, h.2.1, bh_up2 h.2.2.1 k q.2.2.2 x, h.2.2.2)))
    | 27 => ∃ i k s, st = .int i :: .ref k :: s ∧
        ((k < h.1 ∧ bh_tg k = 20 ∧ vp_in i (bh_ln k) ∧ P (pc + len) lv (.int (h.2.2.1 k i.toNatClampNeg) :: s) u h) ∨ (k = 1000 ∧ vp_in i (h.2.2.1 1001 0).toNatClampNeg ∧ P (pc + len) lv (.int (h.2.2.1 1000 i.toNatClampNeg) :: s) u h))
    | 28 => ∃ x i k s, st = .int x :: .int i :: .ref k :: s ∧ k < h.1 ∧ bh_tg k = 20 ∧ vp_in i (bh_ln k) ∧ P (pc + len) lv s u (h.1, h.2.1, bh_up2 h.2.2.1 k i.toNatClampNeg x, h.2.2.2)
    | 29 => ∃ i k s, st = .int i :: .ref k :: s ∧ k < h.1 ∧ (bh_tg k = 22 ∨ bh_tg k = 23) ∧ vp_in i (bh_ln k) ∧ P (pc + len) lv (.int (h.2.2.1 k i.toNatClampNeg) :: s) u h
    | 30 => ∃ x i k s, st = .int x :: .int i :: .ref k :: s ∧ k < h.1 ∧ vp_in i (bh_ln k) ∧
        ((bh_tg k = 22 ∧ P (pc + len) lv s u (h.1, h.2.1, bh_up2 h.2.2.1 k i.toNatClampNeg (vp_nar .byte x), h.2.2.2)) ∨ (bh_tg k = 23 ∧ P (pc + len) lv s u (h.1, h.2.1, bh_up2 h.2.2.1 k i.toNatClampNeg (vp_nar .boolean x), h.2.2.2)))
    | 31 => ∃ i k s, st = .int i :: .ref k :: s ∧ k < h.1 ∧ bh_tg k = 21 ∧ vp_in i (bh_ln k) ∧ P (pc + len) lv (.long (h.2.2.2 k i.toNatClampNeg) :: s) u h
    | 32 => ∃ x i k s, st = .long x :: .int i :: .ref k :: s ∧ k < h.1 ∧ bh_tg k = 21 ∧ vp_in i (bh_ln k) ∧ P (pc + len) lv s u (h.1, h.2.1, h.2.2.1, bh_up2 h.2.2.2 k i.toNatClampNeg x)
    | 33 => ∃ i k s r, st = .int i :: .ref k :: s ∧ k < h.1 ∧ bh_tg k = 24 ∧ vp_in i (bh_ln k) ∧ h.2.1 k i.toNatClampNeg = some r ∧ P (pc + len) lv (.ref r :: s) u h
    | 34 => ∃ r i k s, st = .ref r :: .int i :: .ref k :: s ∧ k < h.1 ∧ r < h.1 ∧ bh_tg k = 24 ∧ bh_tg r = 7 ∧ vp_in i (bh_ln k) ∧ P (pc + len) lv s u (h.1, bh_up2 h.2.1 k i.toNatClampNeg (some r), h.2.2.1, h.2.2.2)
    | 35 => ∃ k s, st = .ref k :: s ∧ ((k < h.1 ∧ 20 ≤ bh_tg k ∧ bh_tg k ≤ 24 ∧ P (pc + len) lv (.int (nI (bh_ln k)) :: s) u h) ∨ (k = 1000 ∧ P (pc + len) lv (.int (h.2.2.1 1001 0) :: s) u h))
    | 36 => h.1 < 1000 ∧ bh_tg h.1 = a ∧ a < 20 ∧ u.1 + 1 ≤ bh_mc m ∧ u.2 + bh_ln h.1 ≤ bh_ms m ∧
        P (pc + len) lv (.ref h.1 :: st) (u.1 + 1, u.2 + bh_ln h.1) (h.1 + 1, bh_upr h.2.1 h.1 (fun _ => none), bh_upr h.2.2.1 h.1 (fun _ => 0), h.2.2.2)
    | 37 => ∃ n s, st = .int n :: s ∧ h.1 < 1000 ∧ bh_tg h.1 = a ∧ ¬ n < 0 ∧ n.toNatClampNeg = bh_ln h.1 ∧ bh_ln h.1 < 10000 ∧ u.1 + 1 ≤ bh_mc m ∧ u.2 + bh_ln h.1 ≤ bh_ms m ∧
        P (pc + len) lv (.ref h.1 :: s) (u.1 + 1, u.2 + bh_ln h.1) (h.1 + 1, h.2.1, bh_upr h.2.2.1 h.1 (fun _ => 0), bh_upr h.2.2.2 h.1 (fun _ => 0))
    | 38 => ∃ n s, st = .int n :: s ∧ h.1 < 1000 ∧ bh_tg h.1 = 24 ∧ ¬ n < 0 ∧ n.toNatClampNeg = bh_ln h.1 ∧ bh_ln h.1 < 10000 ∧ u.1 + 1 ≤ bh_mc m ∧ u.2 + bh_ln h.1 ≤ bh_ms m ∧
        P (pc + len) lv (.ref h.1 :: s) (u.1 + 1, u.2 + bh_ln h.1) (h.1 + 1, bh_upr h.2.1 h.1 (fun _ => none), h.2.2.1, h.2.2.2)
    | 39 => ∃ k s, st = .ref k :: s ∧ bh_catsum s ≤ 8 ∧ P (pc + len) lv s u h
    | 40 => ∃ q As s, bh_ML[a]? = some q ∧ st = As.reverse ++ s ∧ As.length = bh_na q.2.2.1 ∧ bh_catsum s ≤ 8 ∧ u.1 + bh_mc q.2.2.1 ≤ bh_mc m ∧ u.2 + bh_ms q.2.2.1 ≤ bh_ms m ∧
        (q.2.2.2 = 0 → ∃ k Bs, As = .ref k :: Bs ∧ k < h.1 ∧ bh_tg k = bh_ci q.2.2.1) ∧ (q.2.2.2 = 2 ∨ q.2.2.2 = 4 → ∃ k Bs, As = .ref k :: Bs) ∧
        call q.2.2.1 As h (fun r h' => h'.1 = h.1 + bh_mc q.2.2.1 ∧ P (pc + len) lv (r.toList ++ s) (u.1 + bh_mc q.2.2.1, u.2 + bh_ms q.2.2.1) h')
    | 41 => ∃ x, st = [.int x] ∧ (u.1 ≤ bh_mc m ∧ u.2 ≤ bh_ms m) ∧ (bh_rt m = some .int ∨ (bh_rt m = some .boolean ∧ (x = 0 ∨ x = 1))) ∧ Q (some (.int x)) h
    | 42 => ∃ x, st = [.long x] ∧ (u.1 ≤ bh_mc m ∧ u.2 ≤ bh_ms m) ∧ bh_rt m = some .long ∧ Q (some (.long x)) h
    | 43 => ∃ x, st = [.ref x] ∧ (u.1 ≤ bh_mc m ∧ u.2 ≤ bh_ms m) ∧ bh_rt m = some (.object "java/lang/String") ∧ Q (some (.ref x)) h
    | 44 => st = [] ∧ (u.1 ≤ bh_mc m ∧ u.2 ≤ bh_ms m) ∧ bh_rt m = none ∧ Q none h
    | 45 => P (pc + len) lv (.ref (1100 + a) :: st) u h
    | 46 => ∃ j s, st = .ref (1100 + j) :: s ∧ j < bh_ST.length ∧ bh_catsum s ≤ 8 ∧ (u.1 ≤ bh_mc m ∧ u.2 ≤ bh_ms m) ∧ P (pc + len) lv (.int (nI (bh_sl j)) :: s) u h
    | 47 => ∃ i j s, st = .int i :: .ref (1100 + j) :: s ∧ j < bh_ST.length ∧ bh_catsum s ≤ 8 ∧ (u.1 ≤ bh_mc m ∧ u.2 ≤ bh_ms m) ∧ vp_in i (bh_sl j) ∧ P (pc + len) lv (.int (bh_sc j i.toNatClampNeg) :: s) u h
    | 48 => ∃ n k s, st = .int n :: .int 0 :: .ref k :: .int 0 :: s ∧ ∃ k0 s0, s = .ref k0 :: s0 ∧ bh_catsum s0 ≤ 8 ∧ k < h.1 ∧ k0 < h.1 ∧ bh_tg k = 20 ∧ bh_tg k0 = 20 ∧ ¬ n < 0 ∧ n.toNatClampNeg ≤ bh_ln k ∧ n.toNatClampNeg ≤ bh_ln k0 ∧ k ≠ k0 ∧
        P (pc + len) lv s0 u (h.1, h.2.1, bh_upr h.2.2.1 k (va_cpy (h.2.2.1 k0) (h.2.2.1 k) 0 0 n.toNatClampNeg), h.2.2.2)
    | 49 => ∃ x y s, st = .int y :: .int x :: s ∧ bh_catsum s ≤ 8 ∧ (u.1 ≤ bh_mc m ∧ u.2 ≤ bh_ms m) ∧ P (pc + len) lv (.int (if x < y then y else x) :: s) u h
    | 50 => ∃ x y s, st = .int y :: .int x :: s ∧ bh_catsum s ≤ 8 ∧ (u.1 ≤ bh_mc m ∧ u.2 ≤ bh_ms m) ∧ P (pc + len) lv (.int (if y < x then y else x) :: s) u h
    | _ => False
/-- the least one that is closed under a step -/
def bh_wf (m : Nat) (call : Nat → List Value → bh_H → bh_Q → Prop) (Q : bh_Q) (pc : Nat) (lv st : List Value) (u : Nat × Nat) (h : bh_H) : Prop :=
  ∀ P : bh_P, (∀ pc lv st u h, bh_st m call P Q pc lv st u h → P pc lv st u h) → P pc lv st u h
def bh_lay : List Value → List Value
  | [] => []
  | .long x :: l => .long x :: .null :: bh_lay l
  | .double x :: l => .double x :: .null :: bh_lay l
  | v :: l => v :: bh_lay l
def bh_ent (m : Nat) (As : List Value) : List Value := bh_lay As ++ List.replicate (bh_mL m - (bh_lay As).length) .null
/-- a method called with these values on this heap comes to an end with Q, at most so many calls deep -/
def bh_wc : Nat → Nat → List Value → bh_H → bh_Q → Prop
  | 0, _, _, _, _ => False
  | d + 1, m, As, h, Q => (bh_lay As).length ≤ bh_mL m ∧ bh_wf m (bh_wc d) Q 0 (bh_ent m As) [] (0, 0) h
/-! ===== it grows with what it must come to ===== -/
theorem bh_st_mono {m : Nat} {c1 c2 : Nat → List Value → bh_H → bh_Q → Prop} {P1 P2 : bh_P} {Q1 Q2 : bh_Q} (hc : ∀ m As h q1 q2, (∀ r t, q1 r t → q2 r t) → c1 m As h q1 → c2 m As h q2) (hP : ∀ pc lv st u h, P1 pc lv st u h → P2 pc lv st u h) (hQ : ∀ r h, Q1 r h → Q2 r h)
    {pc : Nat} {lv st : List Value} {u : Nat × Nat} {h : bh_H} (H : bh_st m c1 P1 Q1 pc lv st u h) : bh_st m c2 P2 Q2 pc lv st u h := by
  unfold bh_st at H ⊢
  generalize bh_cod m pc = q at H ⊢
  obtain ⟨op, len, a, c, l⟩ := q
  dsimp only at H ⊢
  split at H
  case h_24 => obtain ⟨x, s, h1, h2, h3⟩ := H; exact ⟨x, s, h1, fun z => by obtain ⟨t, h4, h5⟩ := h2 z; exact ⟨t, h4, hP _ _ _ _ _ h5⟩, fun z => hP _ _ _ _ _ (h3 z)⟩
  case h_25 =>
    obtain ⟨k, s, h1, h2, q, h3, h4, h5, h6⟩ := H
    refine ⟨k, s, h1, h2, q, h3, h4, h5, ?_⟩
    rcases h6 with ⟨h7, r, h8, h9⟩ | ⟨h7, h8⟩
    · exact Or.inl ⟨h7, r, h8, hP _ _ _ _ _ h9⟩
    · exact Or.inr ⟨h7, hP _ _ _ _ _ h8⟩
  case h_26 =>
    obtain ⟨q, h1, h2⟩ := H
    refine ⟨q, h1, ?_⟩
    rcases h2 with ⟨h3, r, k, s, h4, h5, h6, h7, h8, h9⟩ | ⟨h3, x, k, s, h4, h5, h6, h7, h8⟩
    · exact Or.inl ⟨h3, r, k, s, h4, h5, h6, h7, h8, hP _ _ _ _ _ h9⟩
    · exact Or.inr ⟨h3, x, k, s, h4, h5, h6, h7, hP _ _ _ _ _ h8⟩
  case h_27 =>
    obtain ⟨i, k, s, h1, h2⟩ := H
    refine ⟨i, k, s, h1, ?_⟩
    rcases h2 with ⟨h3, h4, h5, h6⟩ | ⟨h3, h4, h5⟩
    · exact Or.inl ⟨h3, h4, h5, hP _ _ _ _ _ h6⟩
    · exact Or.inr ⟨h3, h4, hP _ _ _ _ _ h5⟩
  case h_30 =>
    obtain ⟨x, i, k, s, h1, h2, h3, h4⟩ := H
    refine ⟨x, i, k, s, h1, h2, h3, ?_⟩
    rcases h4 with ⟨h5, h6⟩ | ⟨h5, h6⟩
    · exact Or.inl ⟨h5, hP _ _ _ _ _ h6⟩
    · exact Or.inr ⟨h5, hP _ _ _ _ _ h6⟩
  case h_35 =>
    obtain ⟨k, s, h1, h2⟩ := H
    refine ⟨k, s, h1, ?_⟩
    rcases h2 with ⟨h3, h4, h5, h6⟩ | ⟨h3, h4⟩
    · exact Or.inl ⟨h3, h4, h5, hP _ _ _ _ _ h6⟩
    · exact Or.inr ⟨h3, hP _ _ _ _ _ h4⟩
  case h_40 =>
    obtain ⟨q, As, s, h1, h2, h3, h4, h5, h6, h7, h8, h9⟩ := H
    exact ⟨q, As, s, h1, h2, h3, h4, h5, h6, h7, h8, hc _ _ _ _ _ (fun r t z => ⟨z.1, hP _ _ _ _ _ z.2⟩) h9⟩
  case h_41 => obtain ⟨x, h1, h0, h2, h3⟩ := H; exact ⟨x, h1, h0, h2, hQ _ _ h3⟩
  case h_42 => obtain ⟨x, h1, h0, h2, h3⟩ := H; exact ⟨x, h1, h0, h2, hQ _ _ h3⟩
  case h_43 => obtain ⟨x, h1, h0, h2, h3⟩ := H; exact ⟨x, h1, h0, h2, hQ _ _ h3⟩
  case h_44 => obtain ⟨h1, h0, h2, h3⟩ := H; exact ⟨h1, h0, h2, hQ _ _ h3⟩
  case h_46 => obtain ⟨x, s, h1, h2, h3, h4, h5⟩ := H; exact ⟨x, s, h1, h2, h3, h4, hP _ _ _ _ _ h5⟩
  case h_47 => obtain ⟨x, y, s, h1, h2, h3, h4, h5, h6⟩ := H; exact ⟨x, y, s, h1, h2, h3, h4, h5, hP _ _ _ _ _ h6⟩
  case h_48 =>
    obtain ⟨n, k, s, h1, k0, s0, h2, h3, h4, h5, h6, h7, h8, h9, h10, h11, h12⟩ := H
    exact ⟨n, k, s, h1, k0, s0, h2, h3, h4, h5, h6, h7, h8, h9, h10, h11, hP _ _ _ _ _ h12⟩
  all_goals first
    | exact hP _ _ _ _ _ H
    | (obtain ⟨x, h1, h2⟩ := H; exact ⟨x, h1, hP _ _ _ _ _ h2⟩)
    | (obtain ⟨x, h1, h2, h3⟩ := H; exact ⟨x, h1, h2, hP _ _ _ _ _ h3⟩)
    | (obtain ⟨x, s, h1, h2⟩ := H; exact ⟨x, s, h1, hP _ _ _ _ _ h2⟩)
    | (obtain ⟨x, s, h1, h2, h3⟩ := H; exact ⟨x, s, h1, h2, hP _ _ _ _ _ h3⟩)
    | (obtain ⟨x, s, h1, h2, h3⟩ := H; exact ⟨x, s, h1, fun z => hP _ _ _ _ _ (h2 z), fun z => hP _ _ _ _ _ (h3 z)⟩)
    | (obtain ⟨x, y, s, h1, h2⟩ := H; exact ⟨x, y, s, h1, hP _ _ _ _ _ h2⟩)
    | (obtain ⟨x, y, s, h1, h2, h3⟩ := H; exact ⟨x, y, s, h1, h2, hP _ _ _ _ _ h3⟩)
    | (obtain ⟨x, y, s, h1, h2, h3⟩ := H; exact ⟨x, y, s, h1, fun z => hP _ _ _ _ _ (h2 z), fun z => hP _ _ _ _ _ (h3 z)⟩)
    | (obtain ⟨x, y, s, h1, h2, h3, h4⟩ := H; exact ⟨x, y, s, h1, h2, h3, hP _ _ _ _ _ h4⟩)
    | (obtain ⟨x, y, s, h1, h2, h3, h4, h5⟩ := H; exact ⟨x, y, s, h1, h2, h3, h4, hP _ _ _ _ _ h5⟩)
    | (obtain ⟨x, y, k, s, h1, h2, h3, h4, h5⟩ := H; exact ⟨x, y, k, s, h1, h2, h3, h4, hP _ _ _ _ _ h5⟩)
    | (obtain ⟨x, y, k, s, h1, h2, h3, h4, h5, h6⟩ := H; exact ⟨x, y, k, s, h1, h2, h3, h4, h5, hP _ _ _ _ _ h6⟩)
    | (obtain ⟨x, y, k, s, h1, h2, h3, h4, h5, h6, h7⟩ := H; exact ⟨x, y, k, s, h1, h2, h3, h4, h5, h6, hP _ _ _ _ _ h7⟩)
    | (obtain ⟨h1, h2, h3, h4, h5, h6⟩ := H; exact ⟨h1, h2, h3, h4, h5, hP _ _ _ _ _ h6⟩)
    | (obtain ⟨n, s, h1, h2, h3, h4, h5, h6, h7, h8, h9⟩ := H; exact ⟨n, s, h1, h2, h3, h4, h5, h6, h7, h8, hP _ _ _ _ _ h9⟩)
    | exact H
theorem bh_wf_mono {m : Nat} {c1 c2 : Nat → List Value → bh_H → bh_Q → Prop} {Q1 Q2 : bh_Q} (hc : ∀ m As h q1 q2, (∀ r t, q1 r t → q2 r t) → c1 m As h q1 → c2 m As h q2) (hQ : ∀ r h, Q1 r h → Q2 r h) {pc : Nat} {lv st : List Value} {u : Nat × Nat} {h : bh_H} (H : bh_wf m c1 Q1 pc lv st u h) : bh_wf m c2 Q2 pc lv st u h :=
  fun P hP => H P fun pc lv st u h z => hP _ _ _ _ _ (bh_st_mono hc (fun _ _ _ _ _ y => y) hQ z)
theorem bh_wc_mono {d : Nat} : ∀ {m : Nat} {As : List Value} {h : bh_H} {Q1 Q2 : bh_Q}, (∀ r h, Q1 r h → Q2 r h) → bh_wc d m As h Q1 → bh_wc d m As h Q2 := by
  induction d with
  | zero => intro m As h Q1 Q2 _ H; exact H
  | succ d ih => intro m As h Q1 Q2 hQ H; exact ⟨H.1, bh_wf_mono (c1 := bh_wc d) (c2 := bh_wc d) (fun _ _ _ _ _ hq z => ih hq z) hQ H.2⟩
theorem bh_wc_deep {d : Nat} : ∀ {m : Nat} {As : List Value} {h : bh_H} {Q : bh_Q}, bh_wc d m As h Q → bh_wc (d + 1) m As h Q := by
  induction d with
  | zero => intro m As h Q H; exact H.elim
  | succ d ih => intro m As h Q H; exact ⟨H.1, bh_wf_mono (c1 := bh_wc d) (c2 := bh_wc (d + 1)) (fun _ _ _ _ _ hq z => bh_wc_mono hq (ih z)) (fun _ _ z => z) H.2⟩
theorem bh_wc_le {d d' : Nat} (hd : d ≤ d') {m : Nat} {As : List Value} {h : bh_H} {Q : bh_Q} (H : bh_wc d m As h Q) : bh_wc d' m As h Q := by
  induction hd with
  | refl => exact H
  | step _ ih => exact bh_wc_deep ih
/-- a step -/
theorem bh_go {m d : Nat} {Q : bh_Q} {pc : Nat} {lv st : List Value} {u : Nat × Nat} {h : bh_H} (H : bh_st m (bh_wc d) (bh_wf m (bh_wc d) Q) Q pc lv st u h) : bh_wf m (bh_wc d) Q pc lv st u h :=
  fun P hP => hP _ _ _ _ _ (bh_st_mono (c1 := bh_wc d) (c2 := bh_wc d) (P1 := bh_wf m (bh_wc d) Q) (P2 := P) (Q1 := Q) (Q2 := Q) (fun _ _ _ _ _ hq z => bh_wc_mono hq z) (fun _ _ _ _ _ z => z P hP) (fun _ _ z => z) H)
end
section
/-! ===== the picture's cells on the machine's heap ===== -/
/-- numbers of the classes, of their slots, of the array classes; the first address; addresses of what lies outside (the script 1000, strings 1100 on); the script: its length, its ints -/
abbrev bh_G : Type := (Nat → ClassId) × (Nat → Nat → Nat) × (Nat → ClassId) × Nat × (Nat → Nat) × Nat × (Nat → Int32)
abbrev bh_gD (g : bh_G) : va_G := (g.1, g.2.1)
abbrev bh_gA (g : bh_G) : Nat → ClassId := g.2.2.1
abbrev bh_gB (g : bh_G) : Nat := g.2.2.2.1
abbrev bh_gX (g : bh_G) : Nat → Nat := g.2.2.2.2.1
abbrev bh_gL (g : bh_G) : Nat := g.2.2.2.2.2.1
abbrev bh_gS (g : bh_G) : Nat → Int32 := g.2.2.2.2.2.2
def bh_ad (g : bh_G) (k : Nat) : Nat := if k < 1000 then bh_gB g + k else bh_gX g k
def bh_tr (g : bh_G) (v : Value) : Value := match v with
  | .ref k => .ref (bh_ad g k)
  | v => v
theorem bh_tr_cat (g : bh_G) (v : Value) : (bh_tr g v).category = v.category := by cases v <;> rfl
abbrev bh_rg (g : bh_G) : Nat → Prop := fun q => bh_gB g ≤ q
def bh_fv (g : bh_G) (h : bh_H) (ci k j : Nat) : Value := if bh_fr ci j = true then va_rf ((h.2.1 k j).map (bh_ad g)) else .int (h.2.2.1 k j)
def bh_ar (g : bh_G) (h : bh_H) (k : Nat) : vp_A := (bh_ln k, if bh_tg k = 21 then .inr (.inl (h.2.2.2 k)) else if bh_tg k = 24 then .inr (.inr (.inr (.inr (fun j => (h.2.1 k j).map (bh_ad g))))) else .inl (h.2.2.1 k))
def bh_E (g : bh_G) (h : bh_H) (k : Nat) : va_E :=
  if bh_tg k < 20 then .inr (bh_tg k, (List.range (bh_ln k)).map (bh_fv g h (bh_tg k) k)) else .inl (bh_gA g (bh_tg k), bh_ar g h k)
def bh_ws (g : bh_G) (h : bh_H) : va_W := (List.range h.1).map (fun k => (bh_gB g + k, bh_E g h k))
def bh_tys (g : bh_G) : List (ClassId × FieldType) := [(bh_gA g 20, .int), (bh_gA g 21, .long), (bh_gA g 22, .byte), (bh_gA g 23, .boolean), (bh_gA g 24, .object "BorrowedHands$Town")]
theorem bh_ws_at (g : bh_G) {h : bh_H} {k : Nat} (hk : k < h.1) : (bh_ws g h)[k]? = some (bh_gB g + k, bh_E g h k) := by
  unfold bh_ws
  rw [List.getElem?_map, List.getElem?_range hk]
  rfl
theorem bh_ws_len (g : bh_G) (h : bh_H) : (bh_ws g h).length = h.1 := by simp [bh_ws]
theorem bh_ws_inv {g : bh_G} {h : bh_H} {k : Nat} {q : Nat × va_E} (hq : (bh_ws g h)[k]? = some q) : k < h.1 ∧ q = (bh_gB g + k, bh_E g h k) := by
  have hk : k < h.1 := by
    have := (List.getElem?_eq_some_iff.mp hq).1
    rw [bh_ws_len] at this
    exact this
  rw [bh_ws_at g hk] at hq
  exact ⟨hk, (Option.some.inj hq).symm⟩
theorem bh_ws_D (g : bh_G) (h : bh_H) : va_D (bh_rg g) (bh_ws g h) := by
  refine ⟨fun i j p q hi hj hpq => ?_, fun k q hk => ?_⟩
  · obtain ⟨-, rfl⟩ := bh_ws_inv hi
    obtain ⟨-, rfl⟩ := bh_ws_inv hj
    have : bh_gB g + i = bh_gB g + j := hpq
    omega
  · obtain ⟨-, rfl⟩ := bh_ws_inv hk
    exact Nat.le_add_right _ _
/-- a change of one cell -/
theorem bh_ws_set {g : bh_G} {h h' : bh_H} {k : Nat} {e : va_E} (hn : h'.1 = h.1) (hk : k < h.1) (he : bh_E g h' k = e) (ho : ∀ j, j ≠ k → bh_E g h' j = bh_E g h j) : (bh_ws g h).set k (bh_gB g + k, e) = bh_ws g h' := by
  apply List.ext_getElem?
  intro i
  by_cases hi : i = k
  · subst hi
    rw [List.getElem?_set_self (by rw [bh_ws_len]; exact hk), bh_ws_at g (by rw [hn]; exact hk), he]
  · rw [List.getElem?_set_ne (Ne.symm hi)]
    by_cases hl : i < h.1
    · rw [bh_ws_at g hl, bh_ws_at g (by rw [hn]; exact hl), ho i hi]
    · rw [List.getElem?_eq_none (by rw [bh_ws_len]; omega), List.getElem?_eq_none (by rw [bh_ws_len, hn]; omega)]
/-- one more cell -/
theorem bh_ws_push {g : bh_G} {h h' : bh_H} {e : va_E} (hn : h'.1 = h.1 + 1) (he : bh_E g h' h.1 = e) (ho : ∀ j, j < h.1 → bh_E g h' j = bh_E g h j) : bh_ws g h ++ [(bh_gB g + h.1, e)] = bh_ws g h' := by
  unfold bh_ws
  rw [hn, List.range_succ, List.map_append]
  congr 1
  · exact List.map_congr_left fun j hj => by rw [ho j (List.mem_range.mp hj)]
  · rw [← he]; rfl
theorem bh_E_obj {g : bh_G} {h : bh_H} {k ci : Nat} (ht : bh_tg k = ci) (hc : ci < 20) : bh_E g h k = .inr (ci, (List.range (bh_ln k)).map (bh_fv g h ci k)) := by
  unfold bh_E
  rw [ht, if_pos hc]
theorem bh_E_int {g : bh_G} {h : bh_H} {k t : Nat} (ht : bh_tg k = t) (hc : t = 20 ∨ t = 22 ∨ t = 23) : bh_E g h k = .inl (bh_gA g t, bh_ln k, .inl (h.2.2.1 k)) := by
  unfold bh_E bh_ar
  rw [ht]
  rcases hc with rfl | rfl | rfl <;> rfl
theorem bh_E_long {g : bh_G} {h : bh_H} {k : Nat} (ht : bh_tg k = 21) : bh_E g h k = .inl (bh_gA g 21, bh_ln k, .inr (.inl (h.2.2.2 k))) := by
  unfold bh_E bh_ar
  rw [ht]
  rfl
theorem bh_E_ref {g : bh_G} {h : bh_H} {k : Nat} (ht : bh_tg k = 24) : bh_E g h k = .inl (bh_gA g 24, bh_ln k, .inr (.inr (.inr (.inr (fun j => (h.2.1 k j).map (bh_ad g)))))) := by
  unfold bh_E bh_ar
  rw [ht]
  rfl
/-- a cell is what its rows are -/
theorem bh_E_congr {g : bh_G} {h h' : bh_H} {k : Nat} (h1 : h'.2.1 k = h.2.1 k) (h2 : h'.2.2.1 k = h.2.2.1 k) (h3 : h'.2.2.2 k = h.2.2.2 k) : bh_E g h' k = bh_E g h k := by
  unfold bh_E bh_ar bh_fv
  rw [h1, h2, h3]
theorem bh_fs_at {g : bh_G} {h : bh_H} {ci k j : Nat} (hj : j < bh_ln k) : ((List.range (bh_ln k)).map (bh_fv g h ci k))[j]? = some (bh_fv g h ci k j) := by
  rw [List.getElem?_map, List.getElem?_range hj]
  rfl
theorem bh_fs_set {g : bh_G} {h h' : bh_H} {ci k j : Nat} {v : Value} (hj : bh_fv g h' ci k j = v) (ho : ∀ i, i ≠ j → bh_fv g h' ci k i = bh_fv g h ci k i) : ((List.range (bh_ln k)).map (bh_fv g h ci k)).set j v = (List.range (bh_ln k)).map (bh_fv g h' ci k) := by
  apply List.ext_getElem?
  intro i
  by_cases hl : i < bh_ln k
  · by_cases hi : i = j
    · subst hi
      rw [List.getElem?_set_self (by simpa using hl), bh_fs_at hl, hj]
    · rw [List.getElem?_set_ne (Ne.symm hi), bh_fs_at hl, bh_fs_at hl, ho i hi]
  · rw [List.getElem?_eq_none (by simp; omega), List.getElem?_eq_none (by simp; omega)]
theorem bh_up2_self {α : Type} (f : Nat → Nat → α) (k j : Nat) (x : α) : bh_up2 f k j x k j = x := by simp [bh_up2]
theorem bh_up2_k {α : Type} (f : Nat → Nat → α) (k j : Nat) (x : α) : bh_up2 f k j x k = fun b => if b = j then x else f k b := by simp [bh_up2]
theorem bh_up2_ne {α : Type} (f : Nat → Nat → α) {k a : Nat} (j : Nat) (x : α) (h : a ≠ k) : bh_up2 f k j x a = f a := by simp [bh_up2, h]
theorem bh_upr_self {α : Type} (f : Nat → Nat → α) (k : Nat) (r : Nat → α) : bh_upr f k r k = r := by simp [bh_upr]
theorem bh_upr_ne {α : Type} (f : Nat → Nat → α) {k a : Nat} (r : Nat → α) (h : a ≠ k) : bh_upr f k r a = f a := by simp [bh_upr, h]
/-! locals -/
def bh_pr1 (g : bh_G) (i : Nat) (o : Option Value) : Option (Nat × Value) := match o with
  | some Value.null => none
  | some v => some (i, bh_tr g v)
  | none => none
theorem bh_pr1_some {g : bh_G} {i : Nat} {o : Option Value} {q : Nat × Value} : bh_pr1 g i o = some q ↔ ∃ v, o = some v ∧ v ≠ .null ∧ q = (i, bh_tr g v) := by
  constructor
  · intro h
    unfold bh_pr1 at h
    split at h
    · cases h
    next v hv => 
      cases h
      exact ⟨v, rfl, fun e => by subst e; exact hv rfl, rfl⟩
    · cases h
  · rintro ⟨v, rfl, hn, rfl⟩
    unfold bh_pr1
    split
    next h => cases h; exact absurd rfl hn
    next h => cases h; rfl
    next h => cases h
def bh_pr (g : bh_G) (lv : List Value) : List (Nat × Value) := (List.range lv.length).filterMap (fun i => bh_pr1 g i lv[i]?)
theorem bh_pr_mem {g : bh_G} {lv : List Value} {q : Nat × Value} : q ∈ bh_pr g lv ↔ ∃ v, lv[q.1]? = some v ∧ v ≠ .null ∧ q.2 = bh_tr g v := by
  unfold bh_pr
  rw [List.mem_filterMap]
  constructor
  · rintro ⟨i, hi, h⟩
    obtain ⟨v, h1, h2, rfl⟩ := bh_pr1_some.mp h
    exact ⟨v, h1, h2, rfl⟩
  · rintro ⟨v, hv, hn, he⟩
    exact ⟨q.1, List.mem_range.mpr (List.getElem?_eq_some_iff.mp hv).1, bh_pr1_some.mpr ⟨v, hv, hn, by rw [← he]⟩⟩
theorem bh_pr_at {g : bh_G} {lv : List Value} {ls : Array Slot} {n i : Nat} {v : Value} (h : lv_has ls n (bh_pr g lv)) (hi : lv[i]? = some v) (hv : v ≠ .null) : ls[i]? = some (.val (bh_tr g v)) :=
  h.2.2 (i, bh_tr g v) (bh_pr_mem.mpr ⟨v, hi, hv, rfl⟩)
theorem bh_cut_len (lv : List Value) (i : Nat) : (bh_cut lv i).length = lv.length := by
  unfold bh_cut
  split
  · rfl
  · split
    · split
      · simp
      · rfl
    · rfl
theorem bh_cut_at {lv : List Value} {i j : Nat} {v : Value} (h : (bh_cut lv i)[j]? = some v) (hv : v ≠ .null) : lv[j]? = some v ∧ (j + 1 = i → v.category ≠ 2) := by
  unfold bh_cut at h
  split at h
  · exact ⟨h, fun e => by omega⟩
  next k =>
    split at h
    next x hx =>
      split at h
      next hc =>
        by_cases hj : j = k
        · subst hj
          rw [List.getElem?_set_self (List.getElem?_eq_some_iff.mp hx).1] at h
          cases h
          exact absurd rfl hv
        · rw [List.getElem?_set_ne (Ne.symm hj)] at h
          exact ⟨h, fun e => by omega⟩
      next hc =>
        refine ⟨h, fun e => ?_⟩
        have hj : j = k := by omega
        subst hj
        rw [hx] at h
        cases h
        exact hc
    next hx =>
      refine ⟨h, fun e => ?_⟩
      have hj : j = k := by omega
      subst hj
      rw [hx] at h
      cases h
/-- a value of one slot, stored -/
theorem bh_sto_has {g : bh_G} {lv : List Value} {ls : Array Slot} {n i : Nat} {v : Value} (hc : v.category = 1) (h : lv_has ls n ((i, bh_tr g v) :: (bh_pr g lv).filter (fun q => !(q.1 == i) && !(q.1 + 1 == i && q.2.category == 2)))) : lv_has ls n (bh_pr g (bh_sto lv i v)) := by
  refine ⟨h.1, h.2.1, fun q hq => h.2.2 q ?_⟩
  obtain ⟨w, hw, hn, he⟩ := bh_pr_mem.mp hq
  obtain ⟨j, b⟩ := q
  dsimp only at hw he
  subst he
  unfold bh_sto at hw
  by_cases hj : j = i
  · subst hj
    have hl : j < (bh_cut lv j).length := by
      have := (List.getElem?_eq_some_iff.mp hw).1
      rwa [List.length_set] at this
    rw [List.getElem?_set_self hl] at hw
    cases hw
    exact List.mem_cons_self
  · rw [List.getElem?_set_ne (Ne.symm hj)] at hw
    obtain ⟨h1, h2⟩ := bh_cut_at hw hn
    refine List.mem_cons_of_mem _ (List.mem_filter.mpr ⟨bh_pr_mem.mpr ⟨w, h1, hn, rfl⟩, ?_⟩)
    simp only [Bool.and_eq_true, Bool.not_eq_true', beq_eq_false_iff_ne, ne_eq, hj, not_false_eq_true, true_and, Bool.and_eq_false_imp, beq_iff_eq, bh_tr_cat]
    exact fun e => h2 e
/-- a value of two slots, stored -/
theorem bh_stoL_has {g : bh_G} {lv : List Value} {ls : Array Slot} {n i : Nat} {v : Value} (h : lv_has ls n ((i, bh_tr g v) :: (bh_pr g lv).filter (fun q => !(q.1 == i) && (!(q.1 == i + 1) && !(q.1 + 1 == i && q.2.category == 2))))) : lv_has ls n (bh_pr g (bh_stoL lv i v)) := by
  refine ⟨h.1, h.2.1, fun q hq => h.2.2 q ?_⟩
  obtain ⟨w, hw, hn, he⟩ := bh_pr_mem.mp hq
  obtain ⟨j, b⟩ := q
  dsimp only at hw he
  subst he
  unfold bh_stoL at hw
  by_cases hj : j = i
  · subst hj
    have hl := (List.getElem?_eq_some_iff.mp hw).1
    rw [List.length_set] at hl
    rw [List.getElem?_set_self hl] at hw
    cases hw
    exact List.mem_cons_self
  · rw [List.getElem?_set_ne (Ne.symm hj)] at hw
    by_cases hj2 : j = i + 1
    · subst hj2
      have hl := (List.getElem?_eq_some_iff.mp hw).1
      rw [List.length_set] at hl
      rw [List.getElem?_set_self hl] at hw
      cases hw
      exact absurd rfl hn
    · rw [List.getElem?_set_ne (Ne.symm hj2)] at hw
      obtain ⟨h1, h2⟩ := bh_cut_at hw hn
      refine List.mem_cons_of_mem _ (List.mem_filter.mpr ⟨bh_pr_mem.mpr ⟨w, h1, hn, rfl⟩, ?_⟩)
      simp only [Bool.and_eq_true, Bool.not_eq_true', beq_eq_false_iff_ne, ne_eq, hj, hj2, not_false_eq_true, true_and, Bool.and_eq_false_imp, beq_iff_eq, bh_tr_cat]
      exact fun e => h2 e
/-- the locals with which a method begins -/
theorem bh_lay_at (g : bh_G) : ∀ (As : List Value) (i : Nat) (v : Value) (n : Nat), (bh_lay As)[i]? = some v → v ≠ .null → (n + i, bh_tr g v) ∈ lv_args n (As.map (bh_tr g)) := by
  intro As
  induction As with
  | nil => intro i v n h; simp [bh_lay] at h
  | cons a l ih =>
    intro i v n h hv
    have one : ∀ (hc : a.category = 1), (a :: bh_lay l)[i]? = some v → (n + i, bh_tr g v) ∈ lv_args n ((a :: l).map (bh_tr g)) := by
      intro hc h
      show _ ∈ (n, bh_tr g a) :: lv_args (if (bh_tr g a).category = 2 then n + 2 else n + 1) (l.map (bh_tr g))
      rw [bh_tr_cat, hc, if_neg (by decide)]
      cases i with
      | zero =>
        cases h
        exact List.mem_cons_self
      | succ i =>
        have := ih i v (n + 1) h hv
        rw [show n + (i + 1) = n + 1 + i by omega]
        exact List.mem_cons_of_mem _ this
    cases a with
    | long x =>
      show _ ∈ (n, Value.long x) :: lv_args (n + 2) (l.map (bh_tr g))
      match i, h with
      | 0, h => cases h; exact List.mem_cons_self
      | 1, h => cases h; exact absurd rfl hv
      | i + 2, h =>
        have := ih i v (n + 2) h hv
        rw [show n + (i + 2) = n + 2 + i by omega]
        exact List.mem_cons_of_mem _ this
    | double x =>
      show _ ∈ (n, Value.double x) :: lv_args (n + 2) (l.map (bh_tr g))
      match i, h with
      | 0, h => cases h; exact List.mem_cons_self
      | 1, h => cases h; exact absurd rfl hv
      | i + 2, h =>
        have := ih i v (n + 2) h hv
        rw [show n + (i + 2) = n + 2 + i by omega]
        exact List.mem_cons_of_mem _ this
    | int x => exact one rfl h
    | float x => exact one rfl h
    | null => exact one rfl h
    | ref x => exact one rfl h
    | retAddr x => exact one rfl h
end
section
/-! ===== what stands outside the picture ===== -/
/-- strings: what the library's own methods need of them -/
def bh_SX (g : bh_G) (U : State) (H : Heap) : Prop := True
theorem bh_SX_warm {g : bh_G} {s U : State} {H : Heap} (hW : s.WarmedH U.vm) (h : bh_SX g s H) : bh_SX g U H := trivial
theorem bh_SX_same {g : bh_G} {s U : State} {H : Heap} (hv : U.vm = s.vm) (h : bh_SX g s H) : bh_SX g U H := trivial
theorem bh_SX_kept {g : bh_G} {U : State} {H H1 : Heap} (hk : ∀ q, q < bh_gB g → H1[q]? = H[q]?) (h : bh_SX g U H) : bh_SX g U H1 := trivial
def bh_Ext (g : bh_G) (U : State) (H : Heap) : Prop :=
  va_K (bh_gD g) bh_cls (bh_tys g) U ∧ (∀ q ∈ bh_ML, q.2.2.2 = 3 ∨ q.2.2.2 = 4 → va_Nw (.methodLinkNest q.1 q.2.1 (bh_Y q.2.2.1) "BorrowedHands") U) ∧ va_AO "BorrowedHands$Town" U ∧
  (∀ (j : Nat) (q : String × Nat × String), bh_ST[j]? = some q → vk_R q.1 q.2.1 q.2.2 (bh_gX g (1100 + j)) U) ∧ va_X (bh_gX g 1000) (bh_gL g) (bh_gS g) U H ∧ bh_gX g 1000 < bh_gB g ∧ bh_gL g ≤ 3072 ∧ bh_SX g U H
theorem bh_Ext_warm {g : bh_G} {s U : State} {H : Heap} (hW : s.WarmedH U.vm) (h : bh_Ext g s H) : bh_Ext g U H := by
  obtain ⟨h1, h2, h3, h4, h5, h6, h7, h8⟩ := h
  exact ⟨h1.moved hW.alike, fun q hq hk => va_Nw.warmM hW (h2 q hq hk), h3.moved hW.alike, fun j q hj => (h4 j q hj).warm hW, h5.moved hW.alike, h6, h7, bh_SX_warm hW h8⟩
theorem bh_Ext_same {g : bh_G} {s U : State} {H : Heap} (hv : U.vm = s.vm) (h : bh_Ext g s H) : bh_Ext g U H := by
  obtain ⟨h1, h2, h3, h4, h5, h6, h7, h8⟩ := h
  have ha : s.vm.Alike U.vm := by rw [hv]; exact Vm.Alike.refl _
  exact ⟨h1.moved ha, fun q hq hk => va_Nw.same rfl hv.symm (h2 q hq hk), h3.moved ha, fun j q hj => (h4 j q hj).same hv, h5.moved ha, h6, h7, bh_SX_same hv h8⟩
theorem bh_Ext_kept {g : bh_G} {U : State} {H H1 : Heap} (hk : ∀ q, q < bh_gB g → H1[q]? = H[q]?) (h : bh_Ext g U H) : bh_Ext g U H1 := by
  obtain ⟨h1, h2, h3, h4, h5, h6, h7, h8⟩ := h
  exact ⟨h1, h2, h3, h4, h5.kept (hk _ h6), h6, h7, bh_SX_kept hk h8⟩
/-- the script in the picture -/
def bh_scr (g : bh_G) (h : bh_H) : Prop := h.2.2.1 1000 = bh_gS g ∧ h.2.2.1 1001 0 = nI (bh_gL g) ∧ h.1 ≤ 1000
def bh_rm (d m : Nat) : Room := { frames := d + 8, cells := bh_mc m, slots := bh_ms m, locals := 64 * (d + 8) }
def bh_wsm (m : Nat) : List Jvm.Cond := Jvm.Cond.code (bh_Y m) (bh_B m) (bh_mL m) (bh_rt m) :: bh_WS
def bh_Pc (g : bh_G) (As : List Value) (h : bh_H) : Array Value → State → Prop := fun v U => v = (As.map (bh_tr g)).toArray ∧ bh_gB g + h.1 = U.heap.size ∧ va_P (bh_gD g) bh_cls (bh_ws g h) U.heap ∧ bh_Ext g U U.heap ∧ bh_scr g h
def bh_Qc (g : bh_G) (Q : bh_Q) : Array Value → State → Outcome → State → Prop := fun _ st oc t => (∃ (r : Option Value) (h : bh_H), oc = .returned (r.map (bh_tr g)) ∧ Q r h ∧ va_P (bh_gD g) bh_cls (bh_ws g h) t.heap ∧ bh_scr g h) ∧ va_F (bh_rg g) st t
/-- what 'bh_wc' says of the machine -/
def bh_Mt (g : bh_G) (l : Launch) (d m : Nat) (As : List Value) (h : bh_H) (Q : bh_Q) : Prop := Met l (bh_Y m) (bh_wsm m) (bh_rm d m) (bh_Pc g As h) (bh_Qc g Q) (bh_mc m) (bh_ms m) (bh_rg g)
theorem bh_Pc_blind (g : bh_G) (As : List Value) (h : bh_H) : FrameBlind (bh_Pc g As h) := by
  rintro a U f mk ⟨h1, h2, h3, h4, h5⟩
  exact ⟨h1, h2, h3, bh_Ext_same (s := U) rfl h4, h5⟩
section bh_ctx
variable {p : Program} {l : Launch} {e : Env} {R : Room} {s : State} {m : MethodId} {args : Array Value} {below : List Frame} {meth : Method} {c : Code} {H : Heap} {locs : List Loc} {cells slots : Nat} {Qf : State → Prop}
/-- where a method stands -/
def bh_Cx (g : bh_G) (m0 d : Nat) (p : Program) (R : Room) (s : State) (m : MethodId) (args : Array Value) (meth : Method) (c : Code) : Prop :=
  p.tables.exec = Jvm.exec ∧ c.code = bh_B m0 ∧ c.maxLocals = bh_mL m0 ∧ s.vm.findClass (bh_O m0) = some m.cls ∧ (∀ w ∈ bh_WS, w.before args s = true) ∧ m0 < 261 ∧ bh_Ext g s s.heap ∧ (d ≤ R.frames ∧ 64 * d ≤ R.locals ∧ R.cells = bh_mc m0 ∧ R.slots = bh_ms m0) ∧ bh_gB g ≤ s.heap.size ∧ ((bh_Y m0).name = "<init>" → meth.name = "<init>")
def bh_MP (g : bh_G) (m0 : Nat) (p : Program) (l : Launch) (e : Env) (R : Room) (s : State) (m : MethodId) (args : Array Value) (below : List Frame) (meth : Method) (c : Code) (Qf : State → Prop) : bh_P := fun pc lv st u h =>
  ∀ (H : Heap) (locs : List Loc) (ls : Array Slot), va_P (bh_gD g) bh_cls (bh_ws g h) H → va_S (bh_rg g) s.heap H locs → bh_gB g + h.1 = s.heap.size + u.1 → bh_scr g h → lv_has ls (bh_mL m0) (bh_pr g lv) → W p l e R s m args below meth c H locs u.1 u.2 Qf (F0 m pc ls (st.map (bh_tr g)))
/-- the heap is as large as the picture says -/
theorem bh_size {g : bh_G} {h : bh_H} {f : JFrame} (hP : va_P (bh_gD g) bh_cls (bh_ws g h) H) (hS : va_S (bh_rg g) s.heap H locs) (hB : bh_gB g ≤ s.heap.size) (hN : bh_gB g + h.1 = s.heap.size + cells) (k : H.size = bh_gB g + h.1 → W p l e R s m args below meth c H locs cells slots Qf f) : W p l e R s m args below meth c H locs cells slots Qf f := by
  intro T hT X
  have h1 := X.heapSize
  have h2 : bh_gB g + h.1 ≤ H.size := by
    by_cases h0 : h.1 = 0
    · have := hS.1
      omega
    · have h3 := (hP (h.1 - 1) _ (bh_ws_at g (by omega))).lt
      have h4 : bh_gB g + (h.1 - 1) < H.size := h3
      omega
  exact k (by rw [hT] at h1; omega) T hT X
/-- behind a call -/
theorem bh_callW {g : bh_G} {Q : bh_Q} {mc ms pc : Nat} {ls : Array Slot} {st0 rest : List Value} {a : Array Value} (hr : va_Run p l e R s m args below meth c H locs cells slots mc ms (F0 m pc ls st0) rest (bh_Qc g Q a) (bh_rg g)) (hS : va_S (bh_rg g) s.heap H locs)
    (kk : ∀ (r : Option Value) (h : bh_H) (H1 : Heap) (locs1 : List Loc), Q r h → va_P (bh_gD g) bh_cls (bh_ws g h) H1 → bh_scr g h → va_S (bh_rg g) s.heap H1 locs1 → W p l e R s m args below meth c H1 locs1 (cells + mc) (slots + ms) Qf (F0 m (pc + 3) ls ((r.map (bh_tr g)).toList ++ rest))) : W p l e R s m args below meth c H locs cells slots Qf (F0 m pc ls st0) := by
  intro T hT X
  obtain ⟨v, st₀, t, T', L, h0, X', hL, e1, e2, ⟨⟨r, h, hv, hq, hp, hx⟩, hz, hk⟩, st⟩ := hr T hT X
  cases hv
  rw [h0] at hz hk
  obtain ⟨t2, a1, b1⟩ := kk r h T'.heap (locs ++ L) hq (by rw [e1]; exact hp) hx ⟨Nat.le_trans hS.1 (by rw [e1]; exact hz), fun q h1 h2 => by rw [e1, hk q (Nat.lt_of_lt_of_le h1 hS.1) h2]; exact hS.2.1 q h1 h2, fun q hq => by
      rcases List.mem_append.mp hq with h | h
      · exact hS.2.2 q h
      · exact hL q h⟩ T' rfl X'
  exact ⟨t2, st t2 a1, b1⟩
end bh_ctx
theorem bh_good (m : Nat) (hm : m < 261) (hL : m ≠ m_L_law) : GoodIn bh_WS (bh_wsm m) := by
  intro w hw
  rcases List.mem_cons.mp hw with rfl | hw
  · have h1 := cok_all hm
    unfold bh_cok at h1
    simp only [Bool.and_eq_true, Bool.or_eq_true, decide_eq_true_eq] at h1
    rcases h1.2 with h2 | h2
    · exact absurd h2 hL
    · exact ⟨bh_at_WS h2, good_of_word (bh_WS_good (bh_at_WS h2))⟩
  · exact ⟨hw, good_of_word (bh_WS_good hw)⟩
theorem bh_native_good : goodWord (Jvm.Cond.native arraycopyName) = true := by decide +kernel
end
section
/-! ===== a step of the picture is steps of the machine ===== -/
theorem bh_ad_own {g : bh_G} {h : bh_H} {k : Nat} (hk : k < h.1) (hX : bh_scr g h) : bh_ad g k = bh_gB g + k := by
  have := hX.2.2
  unfold bh_ad
  rw [if_pos (by omega)]
theorem bh_ne_own {g : bh_G} {h : bh_H} {k : Nat} (hk : k < h.1) (hX : bh_scr g h) : 1000 ≠ k ∧ 1001 ≠ k := by
  have := hX.2.2
  omega
section bh_sound
variable {g : bh_G} {m0 d : Nat} {p : Program} {l : Launch} {e : Env} {R : Room} {S0 : State} {m : MethodId} {args : Array Value} {below : List Frame} {meth : Method} {c : Code} {Qf : State → Prop} {pc len a : Nat} {cn : Int} {l9 : List Nat} {lv st : List Value} {u : Nat × Nat} {h : bh_H}
set_option maxHeartbeats 1000000 in
theorem bs_1_0 (cx : bh_Cx g m0 d p R S0 m args meth c) (hok : bh_d1 m0 pc len (.iconst cn) = true) (H1 : (bh_MP g m0 p l e R S0 m args below meth c Qf) (pc + len) lv (.int (Int32.ofInt cn) :: st) u h) : bh_MP g m0 p l e R S0 m args below meth c Qf pc lv st u h := by
  obtain ⟨hx, hb, hml, hown, hts, hm0, hE, hR, hB, hini⟩ := id cx
  simp only [bh_d1, bh_dc, Bool.and_eq_true, decide_eq_true_eq] at hok
  obtain ⟨rfl, hd⟩ := hok
  intro H locs ls hP hS hN hX hl
  exact lv_iconst hx hb hd rfl (H1 H locs ls hP hS hN hX hl)
set_option maxHeartbeats 1000000 in
theorem bs_1_1 (cx : bh_Cx g m0 d p R S0 m args meth c) (hok : (decide (len = 2) && bh_dc m0 pc (.bipush cn) 2 && decide ((Int8.ofInt cn).toInt32 = Int32.ofInt cn)) = true) (H1 : (bh_MP g m0 p l e R S0 m args below meth c Qf) (pc + len) lv (.int (Int32.ofInt cn) :: st) u h) : bh_MP g m0 p l e R S0 m args below meth c Qf pc lv st u h := by
  obtain ⟨hx, hb, hml, hown, hts, hm0, hE, hR, hB, hini⟩ := id cx
  simp only [bh_dc, Bool.and_eq_true, decide_eq_true_eq] at hok
  obtain ⟨⟨rfl, hd⟩, hv⟩ := hok
  intro H locs ls hP hS hN hX hl
  exact lv_bipush hx hb hd hv (H1 H locs ls hP hS hN hX hl)
set_option maxHeartbeats 1000000 in
theorem bs_1_2 (cx : bh_Cx g m0 d p R S0 m args meth c) (hok : (decide (len = 3) && bh_dc m0 pc (.sipush cn) 3 && decide ((Int16.ofInt cn).toInt32 = Int32.ofInt cn)) = true) (H1 : (bh_MP g m0 p l e R S0 m args below meth c Qf) (pc + len) lv (.int (Int32.ofInt cn) :: st) u h) : bh_MP g m0 p l e R S0 m args below meth c Qf pc lv st u h := by
  obtain ⟨hx, hb, hml, hown, hts, hm0, hE, hR, hB, hini⟩ := id cx
  simp only [bh_dc, Bool.and_eq_true, decide_eq_true_eq] at hok
  obtain ⟨⟨rfl, hd⟩, hv⟩ := hok
  intro H locs ls hP hS hN hX hl
  exact lv_sipush hx hb hd hv (H1 H locs ls hP hS hN hX hl)
set_option maxHeartbeats 1000000 in
theorem bs_1_3 (cx : bh_Cx g m0 d p R S0 m args meth c) (hok : (decide (len = 2) && bh_dc m0 pc (.ldc (l9.getD 0 0)) 2 && bh_at (l9.getD 1 0) (.constant (bh_O m0) (l9.getD 0 0) (Int32.ofInt cn))) = true) (H1 : (bh_MP g m0 p l e R S0 m args below meth c Qf) (pc + len) lv (.int (Int32.ofInt cn) :: st) u h) : bh_MP g m0 p l e R S0 m args below meth c Qf pc lv st u h := by
  obtain ⟨hx, hb, hml, hown, hts, hm0, hE, hR, hB, hini⟩ := id cx
  simp only [bh_dc, Bool.and_eq_true, decide_eq_true_eq] at hok
  obtain ⟨⟨rfl, hd⟩, hv⟩ := hok
  intro H locs ls hP hS hN hX hl
  exact W.ldc hx hb hown (hts _ (bh_at_WS hv)) (g := F0 m pc ls (st.map (bh_tr g))) rfl hd (H1 H locs ls hP hS hN hX hl)
set_option maxHeartbeats 1000000 in
theorem bs_1_4 (cx : bh_Cx g m0 d p R S0 m args meth c) (hok : (bh_d3 m0 pc len (.ldc_w (l9.getD 0 0)) && bh_at (l9.getD 1 0) (.constant (bh_O m0) (l9.getD 0 0) (Int32.ofInt cn))) = true) (H1 : (bh_MP g m0 p l e R S0 m args below meth c Qf) (pc + len) lv (.int (Int32.ofInt cn) :: st) u h) : bh_MP g m0 p l e R S0 m args below meth c Qf pc lv st u h := by
  obtain ⟨hx, hb, hml, hown, hts, hm0, hE, hR, hB, hini⟩ := id cx
  simp only [bh_d3, bh_dc, Bool.and_eq_true, decide_eq_true_eq] at hok
  obtain ⟨⟨rfl, hd⟩, hv⟩ := hok
  intro H locs ls hP hS hN hX hl
  exact lv_ldcw hx hb hown (hts _ (bh_at_WS hv)) hd (H1 H locs ls hP hS hN hX hl)
set_option maxHeartbeats 1000000 in
theorem bs_2_0 (cx : bh_Cx g m0 d p R S0 m args meth c) (hok : bh_d1 m0 pc len (.lconst 0) = true) (H1 : (bh_MP g m0 p l e R S0 m args below meth c Qf) (pc + len) lv (.long (Int64.ofInt 0) :: st) u h) : bh_MP g m0 p l e R S0 m args below meth c Qf pc lv st u h := by
  obtain ⟨hx, hb, hml, hown, hts, hm0, hE, hR, hB, hini⟩ := id cx
  simp only [bh_d1, bh_dc, Bool.and_eq_true, decide_eq_true_eq] at hok
  obtain ⟨rfl, hd⟩ := hok
  intro H locs ls hP hS hN hX hl
  exact lv_lconst hx hb hd rfl (H1 H locs ls hP hS hN hX hl)
set_option maxHeartbeats 1000000 in
theorem bs_2_1 (cx : bh_Cx g m0 d p R S0 m args meth c) (hok : bh_d1 m0 pc len (.lconst 1) = true) (H1 : (bh_MP g m0 p l e R S0 m args below meth c Qf) (pc + len) lv (.long (Int64.ofInt 1) :: st) u h) : bh_MP g m0 p l e R S0 m args below meth c Qf pc lv st u h := by
  obtain ⟨hx, hb, hml, hown, hts, hm0, hE, hR, hB, hini⟩ := id cx
  simp only [bh_d1, bh_dc, Bool.and_eq_true, decide_eq_true_eq] at hok
  obtain ⟨rfl, hd⟩ := hok
  intro H locs ls hP hS hN hX hl
  exact lv_lconst hx hb hd rfl (H1 H locs ls hP hS hN hX hl)
set_option maxHeartbeats 1000000 in
theorem bs_2_2 (cx : bh_Cx g m0 d p R S0 m args meth c) (hok : (bh_d3 m0 pc len (.ldc2_w (l9.getD 0 0)) && bh_at (l9.getD 1 0) (.constantLong (bh_O m0) (l9.getD 0 0) (Int64.ofInt cn))) = true) (H1 : (bh_MP g m0 p l e R S0 m args below meth c Qf) (pc + len) lv (.long (Int64.ofInt cn) :: st) u h) : bh_MP g m0 p l e R S0 m args below meth c Qf pc lv st u h := by
  obtain ⟨hx, hb, hml, hown, hts, hm0, hE, hR, hB, hini⟩ := id cx
  simp only [bh_d3, bh_dc, Bool.and_eq_true, decide_eq_true_eq] at hok
  obtain ⟨⟨rfl, hd⟩, hv⟩ := hok
  intro H locs ls hP hS hN hX hl
  exact W.ldc2 hx hb hown (hts _ (bh_at_WS hv)) (g := F0 m pc ls (st.map (bh_tr g))) rfl hd (H1 H locs ls hP hS hN hX hl)
set_option maxHeartbeats 1000000 in
theorem bs_3 (cx : bh_Cx g m0 d p R S0 m args meth c) (hok : bh_d4 m0 pc len a cn .iload_n .iload = true) (H1 : ∃ x, lv[a]? = some (.int x) ∧ (bh_MP g m0 p l e R S0 m args below meth c Qf) (pc + len) lv (.int x :: st) u h) : bh_MP g m0 p l e R S0 m args below meth c Qf pc lv st u h := by
  obtain ⟨hx, hb, hml, hown, hts, hm0, hE, hR, hB, hini⟩ := id cx
  obtain ⟨x, hxv, H1⟩ := H1
  unfold bh_d4 at hok
  intro H locs ls hP hS hN hX hl
  have hat := bh_pr_at hl hxv (by intro h; cases h)
  split at hok
  · split at hok
    next ha =>
      simp only [bh_dc, Bool.and_eq_true, decide_eq_true_eq] at hok
      obtain ⟨rfl, hd⟩ := hok
      exact lv_iload_n hx hb hd rfl hat (H1 H locs ls hP hS hN hX hl)
    next => cases hok
  · simp only [bh_dc, Bool.and_eq_true, decide_eq_true_eq] at hok
    obtain ⟨rfl, hd⟩ := hok
    exact lv_iload hx hb hd hat (H1 H locs ls hP hS hN hX hl)
set_option maxHeartbeats 1000000 in
theorem bs_4 (cx : bh_Cx g m0 d p R S0 m args meth c) (hok : bh_d4 m0 pc len a cn .lload_n .lload = true) (H1 : ∃ x, lv[a]? = some (.long x) ∧ (bh_MP g m0 p l e R S0 m args below meth c Qf) (pc + len) lv (.long x :: st) u h) : bh_MP g m0 p l e R S0 m args below meth c Qf pc lv st u h := by
  obtain ⟨hx, hb, hml, hown, hts, hm0, hE, hR, hB, hini⟩ := id cx
  obtain ⟨x, hxv, H1⟩ := H1
  unfold bh_d4 at hok
  intro H locs ls hP hS hN hX hl
  have hat := bh_pr_at hl hxv (by intro h; cases h)
  split at hok
  · split at hok
    next ha =>
      simp only [bh_dc, Bool.and_eq_true, decide_eq_true_eq] at hok
      obtain ⟨rfl, hd⟩ := hok
      exact lv_lload_n hx hb hd rfl hat (H1 H locs ls hP hS hN hX hl)
    next => cases hok
  · simp only [bh_dc, Bool.and_eq_true, decide_eq_true_eq] at hok
    obtain ⟨rfl, hd⟩ := hok
    exact lv_lload hx hb hd hat (H1 H locs ls hP hS hN hX hl)
set_option maxHeartbeats 1000000 in
theorem bs_5 (cx : bh_Cx g m0 d p R S0 m args meth c) (hok : bh_d4 m0 pc len a cn .aload_n .aload = true) (H1 : ∃ x, lv[a]? = some (.ref x) ∧ (bh_MP g m0 p l e R S0 m args below meth c Qf) (pc + len) lv (.ref x :: st) u h) : bh_MP g m0 p l e R S0 m args below meth c Qf pc lv st u h := by
  obtain ⟨hx, hb, hml, hown, hts, hm0, hE, hR, hB, hini⟩ := id cx
  obtain ⟨x, hxv, H1⟩ := H1
  unfold bh_d4 at hok
  intro H locs ls hP hS hN hX hl
  have hat := bh_pr_at hl hxv (by intro h; cases h)
  split at hok
  · split at hok
    next ha =>
      simp only [bh_dc, Bool.and_eq_true, decide_eq_true_eq] at hok
      obtain ⟨rfl, hd⟩ := hok
      exact lv_aload_n hx hb hd rfl hat (H1 H locs ls hP hS hN hX hl)
    next => cases hok
  · simp only [bh_dc, Bool.and_eq_true, decide_eq_true_eq] at hok
    obtain ⟨rfl, hd⟩ := hok
    exact lv_aload hx hb hd hat (H1 H locs ls hP hS hN hX hl)
set_option maxHeartbeats 1000000 in
theorem bs_6 (cx : bh_Cx g m0 d p R S0 m args meth c) (hok : bh_d4 m0 pc len a cn .istore_n .istore = true) (H1 : ∃ x s, st = .int x :: s ∧ a < bh_mL m0 ∧ (bh_MP g m0 p l e R S0 m args below meth c Qf) (pc + len) (bh_sto lv a (.int x)) s u h) : bh_MP g m0 p l e R S0 m args below meth c Qf pc lv st u h := by
  obtain ⟨hx, hb, hml, hown, hts, hm0, hE, hR, hB, hini⟩ := id cx
  obtain ⟨x, sk, rfl, hlt, H1⟩ := H1
  unfold bh_d4 at hok
  intro H locs ls hP hS hN hX hl
  split at hok
  · split at hok
    next ha =>
      simp only [bh_dc, Bool.and_eq_true, decide_eq_true_eq] at hok
      obtain ⟨rfl, hd⟩ := hok
      exact lv_istore_n hx hb hd rfl hl hlt rfl (fun ls' hl' => H1 H locs ls' hP hS hN hX (bh_sto_has rfl hl'))
    next => cases hok
  · simp only [bh_dc, Bool.and_eq_true, decide_eq_true_eq] at hok
    obtain ⟨rfl, hd⟩ := hok
    exact lv_istore hx hb hd hl hlt rfl (fun ls' hl' => H1 H locs ls' hP hS hN hX (bh_sto_has rfl hl'))
set_option maxHeartbeats 1000000 in
theorem bs_7 (cx : bh_Cx g m0 d p R S0 m args meth c) (hok : bh_d4 m0 pc len a cn .lstore_n .lstore = true) (H1 : ∃ x s, st = .long x :: s ∧ a + 1 < bh_mL m0 ∧ (bh_MP g m0 p l e R S0 m args below meth c Qf) (pc + len) (bh_stoL lv a (.long x)) s u h) : bh_MP g m0 p l e R S0 m args below meth c Qf pc lv st u h := by
  obtain ⟨hx, hb, hml, hown, hts, hm0, hE, hR, hB, hini⟩ := id cx
  obtain ⟨x, sk, rfl, hlt, H1⟩ := H1
  unfold bh_d4 at hok
  intro H locs ls hP hS hN hX hl
  split at hok
  · split at hok
    next ha =>
      simp only [bh_dc, Bool.and_eq_true, decide_eq_true_eq] at hok
      obtain ⟨rfl, hd⟩ := hok
      exact lv_lstore_n hx hb hd rfl hl hlt rfl (fun ls' hl' => H1 H locs ls' hP hS hN hX (bh_stoL_has hl'))
    next => cases hok
  · simp only [bh_dc, Bool.and_eq_true, decide_eq_true_eq] at hok
    obtain ⟨rfl, hd⟩ := hok
    exact lv_lstore hx hb hd hl hlt rfl (fun ls' hl' => H1 H locs ls' hP hS hN hX (bh_stoL_has hl'))
set_option maxHeartbeats 1000000 in
theorem bs_8 (cx : bh_Cx g m0 d p R S0 m args meth c) (hok : bh_d4 m0 pc len a cn .astore_n .astore = true) (H1 : ∃ x s, st = .ref x :: s ∧ a < bh_mL m0 ∧ (bh_MP g m0 p l e R S0 m args below meth c Qf) (pc + len) (bh_sto lv a (.ref x)) s u h) : bh_MP g m0 p l e R S0 m args below meth c Qf pc lv st u h := by
  obtain ⟨hx, hb, hml, hown, hts, hm0, hE, hR, hB, hini⟩ := id cx
  obtain ⟨x, sk, rfl, hlt, H1⟩ := H1
  unfold bh_d4 at hok
  intro H locs ls hP hS hN hX hl
  split at hok
  · split at hok
    next ha =>
      simp only [bh_dc, Bool.and_eq_true, decide_eq_true_eq] at hok
      obtain ⟨rfl, hd⟩ := hok
      exact lv_astore_n hx hb hd rfl hl hlt rfl (fun ls' hl' => H1 H locs ls' hP hS hN hX (bh_sto_has rfl hl'))
    next => cases hok
  · simp only [bh_dc, Bool.and_eq_true, decide_eq_true_eq] at hok
    obtain ⟨rfl, hd⟩ := hok
    exact lv_astore hx hb hd hl hlt rfl (fun ls' hl' => H1 H locs ls' hP hS hN hX (bh_sto_has rfl hl'))
set_option maxHeartbeats 1000000 in
theorem bs_9 (cx : bh_Cx g m0 d p R S0 m args meth c) (hok : bh_d3 m0 pc len (.iinc a cn) = true) (H1 : ∃ x, lv[a]? = some (.int x) ∧ a < bh_mL m0 ∧ (bh_MP g m0 p l e R S0 m args below meth c Qf) (pc + len) (bh_sto lv a (.int (x + Int32.ofInt cn))) st u h) : bh_MP g m0 p l e R S0 m args below meth c Qf pc lv st u h := by
  obtain ⟨hx, hb, hml, hown, hts, hm0, hE, hR, hB, hini⟩ := id cx
  simp only [bh_d3, bh_dc, Bool.and_eq_true, decide_eq_true_eq] at hok
  obtain ⟨rfl, hd⟩ := hok
  obtain ⟨x, hxv, hlt, H1⟩ := H1
  intro H locs ls hP hS hN hX hl
  obtain ⟨k, hk⟩ := List.getElem?_of_mem (bh_pr_mem.mpr ⟨.int x, hxv, by (intro h; cases h), rfl⟩ : (a, Value.int x) ∈ bh_pr g lv)
  exact lv_iinc hx hb hd hl hk rfl hlt rfl (fun ls' hl' => H1 H locs ls' hP hS hN hX (bh_sto_has rfl hl'))
set_option maxHeartbeats 1000000 in
theorem bs_10 (cx : bh_Cx g m0 d p R S0 m args meth c) (hok : bh_d1 m0 pc len (bh_ibI a) = true) (H1 : ∃ x y s, st = .int y :: .int x :: s ∧ (bh_MP g m0 p l e R S0 m args below meth c Qf) (pc + len) lv (.int (bh_ib a x y) :: s) u h) : bh_MP g m0 p l e R S0 m args below meth c Qf pc lv st u h := by
  obtain ⟨hx, hb, hml, hown, hts, hm0, hE, hR, hB, hini⟩ := id cx
  simp only [bh_d1, bh_dc, Bool.and_eq_true, decide_eq_true_eq] at hok
  obtain ⟨rfl, hd⟩ := hok
  obtain ⟨x, y, sk, rfl, H1⟩ := H1
  intro H locs ls hP hS hN hX hl
  have H2 := H1 H locs ls hP hS hN hX hl
  match a, hd, H2 with
  | 0, hd, H2 => exact lv_iadd hx hb hd H2
  | 1, hd, H2 => exact lv_isub hx hb hd H2
  | 2, hd, H2 => exact lv_imul hx hb hd H2
  | 3, hd, H2 => exact lv_iand hx hb hd H2
  | 4, hd, H2 => exact lv_ior hx hb hd H2
  | 5, hd, H2 => exact lv_ixor hx hb hd H2
  | 6, hd, H2 => exact lv_ishl hx hb hd H2
  | 7, hd, H2 => exact lv_ishr hx hb hd H2
  | n + 8, hd, H2 => exact lv_iushr hx hb hd rfl H2
set_option maxHeartbeats 1000000 in
theorem bs_11 (cx : bh_Cx g m0 d p R S0 m args meth c) (hok : bh_d1 m0 pc len .idiv = true) (H1 : ∃ x y s, st = .int y :: .int x :: s ∧ ¬ y = 0 ∧ (bh_MP g m0 p l e R S0 m args below meth c Qf) (pc + len) lv (.int (x / y) :: s) u h) : bh_MP g m0 p l e R S0 m args below meth c Qf pc lv st u h := by
  obtain ⟨hx, hb, hml, hown, hts, hm0, hE, hR, hB, hini⟩ := id cx
  simp only [bh_d1, bh_dc, Bool.and_eq_true, decide_eq_true_eq] at hok
  obtain ⟨rfl, hd⟩ := hok
  obtain ⟨x, y, sk, rfl, hy, H1⟩ := H1
  intro H locs ls hP hS hN hX hl
  exact lv_idiv hx hb hd hy (H1 H locs ls hP hS hN hX hl)
set_option maxHeartbeats 1000000 in
theorem bs_12 (cx : bh_Cx g m0 d p R S0 m args meth c) (hok : bh_d1 m0 pc len .irem = true) (H1 : ∃ x y s, st = .int y :: .int x :: s ∧ ¬ y = 0 ∧ (bh_MP g m0 p l e R S0 m args below meth c Qf) (pc + len) lv (.int (x - x / y * y) :: s) u h) : bh_MP g m0 p l e R S0 m args below meth c Qf pc lv st u h := by
  obtain ⟨hx, hb, hml, hown, hts, hm0, hE, hR, hB, hini⟩ := id cx
  simp only [bh_d1, bh_dc, Bool.and_eq_true, decide_eq_true_eq] at hok
  obtain ⟨rfl, hd⟩ := hok
  obtain ⟨x, y, sk, rfl, hy, H1⟩ := H1
  intro H locs ls hP hS hN hX hl
  exact lv_irem hx hb hd hy (H1 H locs ls hP hS hN hX hl)
set_option maxHeartbeats 1000000 in
theorem bs_13 (cx : bh_Cx g m0 d p R S0 m args meth c) (hok : bh_d1 m0 pc len (bh_lbI a) = true) (H1 : ∃ x y s, st = .long y :: .long x :: s ∧ (bh_MP g m0 p l e R S0 m args below meth c Qf) (pc + len) lv (.long (bh_lb a x y) :: s) u h) : bh_MP g m0 p l e R S0 m args below meth c Qf pc lv st u h := by
  obtain ⟨hx, hb, hml, hown, hts, hm0, hE, hR, hB, hini⟩ := id cx
  simp only [bh_d1, bh_dc, Bool.and_eq_true, decide_eq_true_eq] at hok
  obtain ⟨rfl, hd⟩ := hok
  obtain ⟨x, y, sk, rfl, H1⟩ := H1
  intro H locs ls hP hS hN hX hl
  have H2 := H1 H locs ls hP hS hN hX hl
  match a, hd, H2 with
  | 0, hd, H2 => exact lv_ladd hx hb hd H2
  | 1, hd, H2 => exact lv_lmul hx hb hd H2
  | n + 2, hd, H2 => exact lv_lor hx hb hd H2
set_option maxHeartbeats 1000000 in
theorem bs_14 (cx : bh_Cx g m0 d p R S0 m args meth c) (hok : bh_d1 m0 pc len .lshl = true) (H1 : ∃ (x : Int64) (y : Int32) (s : List Value), st = .int y :: .long x :: s ∧ (bh_MP g m0 p l e R S0 m args below meth c Qf) (pc + len) lv (.long (x <<< (y.toInt64 &&& 63)) :: s) u h) : bh_MP g m0 p l e R S0 m args below meth c Qf pc lv st u h := by
  obtain ⟨hx, hb, hml, hown, hts, hm0, hE, hR, hB, hini⟩ := id cx
  simp only [bh_d1, bh_dc, Bool.and_eq_true, decide_eq_true_eq] at hok
  obtain ⟨rfl, hd⟩ := hok
  obtain ⟨x, y, sk, rfl, H1⟩ := H1
  intro H locs ls hP hS hN hX hl
  exact lv_lshl hx hb hd rfl (H1 H locs ls hP hS hN hX hl)
set_option maxHeartbeats 1000000 in
theorem bs_15 (cx : bh_Cx g m0 d p R S0 m args meth c) (hok : bh_d1 m0 pc len .i2l = true) (H1 : ∃ (x : Int32) (s : List Value), st = .int x :: s ∧ (bh_MP g m0 p l e R S0 m args below meth c Qf) (pc + len) lv (.long x.toInt64 :: s) u h) : bh_MP g m0 p l e R S0 m args below meth c Qf pc lv st u h := by
  obtain ⟨hx, hb, hml, hown, hts, hm0, hE, hR, hB, hini⟩ := id cx
  simp only [bh_d1, bh_dc, Bool.and_eq_true, decide_eq_true_eq] at hok
  obtain ⟨rfl, hd⟩ := hok
  obtain ⟨x, sk, rfl, H1⟩ := H1
  intro H locs ls hP hS hN hX hl
  exact lv_i2l hx hb hd rfl (H1 H locs ls hP hS hN hX hl)
set_option maxHeartbeats 1000000 in
theorem bs_16 (cx : bh_Cx g m0 d p R S0 m args meth c) (hok : bh_d1 m0 pc len .i2b = true) (H1 : ∃ (x : Int32) (s : List Value), st = .int x :: s ∧ (bh_MP g m0 p l e R S0 m args below meth c Qf) (pc + len) lv (.int x.toInt8.toInt32 :: s) u h) : bh_MP g m0 p l e R S0 m args below meth c Qf pc lv st u h := by
  obtain ⟨hx, hb, hml, hown, hts, hm0, hE, hR, hB, hini⟩ := id cx
  simp only [bh_d1, bh_dc, Bool.and_eq_true, decide_eq_true_eq] at hok
  obtain ⟨rfl, hd⟩ := hok
  obtain ⟨x, sk, rfl, H1⟩ := H1
  intro H locs ls hP hS hN hX hl
  exact lv_i2b hx hb hd rfl (H1 H locs ls hP hS hN hX hl)
set_option maxHeartbeats 1000000 in
theorem bs_17 (cx : bh_Cx g m0 d p R S0 m args meth c) (hok : bh_d1 m0 pc len .lcmp = true) (H1 : ∃ x y s, st = .long y :: .long x :: s ∧ (bh_MP g m0 p l e R S0 m args below meth c Qf) (pc + len) lv (.int (lg_cmp x y) :: s) u h) : bh_MP g m0 p l e R S0 m args below meth c Qf pc lv st u h := by
  obtain ⟨hx, hb, hml, hown, hts, hm0, hE, hR, hB, hini⟩ := id cx
  simp only [bh_d1, bh_dc, Bool.and_eq_true, decide_eq_true_eq] at hok
  obtain ⟨rfl, hd⟩ := hok
  obtain ⟨x, y, sk, rfl, H1⟩ := H1
  intro H locs ls hP hS hN hX hl
  exact W.lcmp hx hb hd (H1 H locs ls hP hS hN hX hl)
set_option maxHeartbeats 1000000 in
theorem bs_18 (cx : bh_Cx g m0 d p R S0 m args meth c) (hok : bh_d1 m0 pc len .dup = true) (H1 : ∃ v s, st = v :: s ∧ v.category = 1 ∧ (bh_MP g m0 p l e R S0 m args below meth c Qf) (pc + len) lv (v :: v :: s) u h) : bh_MP g m0 p l e R S0 m args below meth c Qf pc lv st u h := by
  obtain ⟨hx, hb, hml, hown, hts, hm0, hE, hR, hB, hini⟩ := id cx
  simp only [bh_d1, bh_dc, Bool.and_eq_true, decide_eq_true_eq] at hok
  obtain ⟨rfl, hd⟩ := hok
  obtain ⟨v, sk, rfl, hc, H1⟩ := H1
  intro H locs ls hP hS hN hX hl
  exact lv_dup hx hb hd ((bh_tr_cat g v).trans hc) (H1 H locs ls hP hS hN hX hl)
set_option maxHeartbeats 1000000 in
theorem bs_19 (cx : bh_Cx g m0 d p R S0 m args meth c) (hok : bh_d1 m0 pc len .pop = true) (H1 : ∃ v s, st = v :: s ∧ v.category = 1 ∧ (bh_MP g m0 p l e R S0 m args below meth c Qf) (pc + len) lv s u h) : bh_MP g m0 p l e R S0 m args below meth c Qf pc lv st u h := by
  obtain ⟨hx, hb, hml, hown, hts, hm0, hE, hR, hB, hini⟩ := id cx
  simp only [bh_d1, bh_dc, Bool.and_eq_true, decide_eq_true_eq] at hok
  obtain ⟨rfl, hd⟩ := hok
  obtain ⟨v, sk, rfl, hc, H1⟩ := H1
  intro H locs ls hP hS hN hX hl
  exact lv_pop hx hb hd ((bh_tr_cat g v).trans hc) (H1 H locs ls hP hS hN hX hl)
set_option maxHeartbeats 1000000 in
theorem bs_20 (cx : bh_Cx g m0 d p R S0 m args meth c) (hok : bh_d1 m0 pc len .dup2 = true) (H1 : ∃ v w s, st = v :: w :: s ∧ v.category = 1 ∧ w.category = 1 ∧ (bh_MP g m0 p l e R S0 m args below meth c Qf) (pc + len) lv (v :: w :: v :: w :: s) u h) : bh_MP g m0 p l e R S0 m args below meth c Qf pc lv st u h := by
  obtain ⟨hx, hb, hml, hown, hts, hm0, hE, hR, hB, hini⟩ := id cx
  simp only [bh_d1, bh_dc, Bool.and_eq_true, decide_eq_true_eq] at hok
  obtain ⟨rfl, hd⟩ := hok
  obtain ⟨v, w, sk, rfl, hc, hc2, H1⟩ := H1
  intro H locs ls hP hS hN hX hl
  exact lv_dup2_11 hx hb hd ((bh_tr_cat g v).trans hc) ((bh_tr_cat g w).trans hc2) (H1 H locs ls hP hS hN hX hl)
set_option maxHeartbeats 1000000 in
theorem bs_21 (cx : bh_Cx g m0 d p R S0 m args meth c) (hok : bh_d3 m0 pc len (.ifCond (bh_cc cn) ((a : Int) - pc)) = true) (H1 : ∃ x s, st = .int x :: s ∧ (bh_cmp cn x 0 → (bh_MP g m0 p l e R S0 m args below meth c Qf) a lv s u h) ∧ (¬ bh_cmp cn x 0 → (bh_MP g m0 p l e R S0 m args below meth c Qf) (pc + len) lv s u h)) : bh_MP g m0 p l e R S0 m args below meth c Qf pc lv st u h := by
  obtain ⟨hx, hb, hml, hown, hts, hm0, hE, hR, hB, hini⟩ := id cx
  simp only [bh_d3, bh_dc, Bool.and_eq_true, decide_eq_true_eq] at hok
  obtain ⟨rfl, hd⟩ := hok
  obtain ⟨x, sk, rfl, H1, H2⟩ := H1
  intro H locs ls hP hS hN hX hl
  have kt := fun z => H1 z H locs ls hP hS hN hX hl
  have kf := fun z => H2 z H locs ls hP hS hN hX hl
  have ht : (pc : Int) + ((a : Int) - pc) = (a : Int) := by omega
  by_cases h0 : cn = 0
  · subst h0
    exact lv_if_eq hx hb hd ht kt kf
  by_cases h1 : cn = 1
  · subst h1
    exact lv_if_ne hx hb hd ht kt (fun z => kf (fun q => q z))
  by_cases h2 : cn = 2
  · subst h2
    exact lv_if_lt hx hb hd ht kt kf
  by_cases h3 : cn = 3
  · subst h3
    exact lv_if_ge hx hb hd ht kt kf
  by_cases h4 : cn = 4
  · subst h4
    exact lv_if_gt hx hb hd ht kt kf
  have e1 : bh_cc cn = .le := by unfold bh_cc; split <;> first | contradiction | rfl
  have e2 : ∀ v w : Int32, bh_cmp cn v w = (v ≤ w) := fun v w => by unfold bh_cmp; split <;> first | contradiction | rfl
  rw [e1] at hd
  rw [e2] at kt kf
  exact lv_if_le hx hb hd ht kt kf
set_option maxHeartbeats 1000000 in
theorem bs_22 (cx : bh_Cx g m0 d p R S0 m args meth c) (hok : bh_d3 m0 pc len (.if_icmp (bh_cc cn) ((a : Int) - pc)) = true) (H1 : ∃ x y s, st = .int y :: .int x :: s ∧ (bh_cmp cn x y → (bh_MP g m0 p l e R S0 m args below meth c Qf) a lv s u h) ∧ (¬ bh_cmp cn x y → (bh_MP g m0 p l e R S0 m args below meth c Qf) (pc + len) lv s u h)) : bh_MP g m0 p l e R S0 m args below meth c Qf pc lv st u h := by
  obtain ⟨hx, hb, hml, hown, hts, hm0, hE, hR, hB, hini⟩ := id cx
  simp only [bh_d3, bh_dc, Bool.and_eq_true, decide_eq_true_eq] at hok
  obtain ⟨rfl, hd⟩ := hok
  obtain ⟨x, y, sk, rfl, H1, H2⟩ := H1
  intro H locs ls hP hS hN hX hl
  have kt := fun z => H1 z H locs ls hP hS hN hX hl
  have kf := fun z => H2 z H locs ls hP hS hN hX hl
  have ht : (pc : Int) + ((a : Int) - pc) = (a : Int) := by omega
  by_cases h0 : cn = 0
  · subst h0
    exact lv_icmp_eq hx hb hd ht kt kf
  by_cases h1 : cn = 1
  · subst h1
    exact lv_icmp_ne hx hb hd ht kt (fun z => kf (fun q => q z))
  by_cases h2 : cn = 2
  · subst h2
    exact lv_icmp_lt hx hb hd ht kt kf
  by_cases h3 : cn = 3
  · subst h3
    exact lv_icmp_ge hx hb hd ht kt kf
  by_cases h4 : cn = 4
  · subst h4
    exact lv_icmp_gt hx hb hd ht kt kf
  have e1 : bh_cc cn = .le := by unfold bh_cc; split <;> first | contradiction | rfl
  have e2 : ∀ v w : Int32, bh_cmp cn v w = (v ≤ w) := fun v w => by unfold bh_cmp; split <;> first | contradiction | rfl
  rw [e1] at hd
  rw [e2] at kt kf
  exact lv_icmp_le hx hb hd ht kt kf
set_option maxHeartbeats 1000000 in
theorem bs_23 (cx : bh_Cx g m0 d p R S0 m args meth c) (hok : bh_d3 m0 pc len (.goto ((a : Int) - pc)) = true) (H1 : (bh_MP g m0 p l e R S0 m args below meth c Qf) a lv st u h) : bh_MP g m0 p l e R S0 m args below meth c Qf pc lv st u h := by
  obtain ⟨hx, hb, hml, hown, hts, hm0, hE, hR, hB, hini⟩ := id cx
  simp only [bh_d3, bh_dc, Bool.and_eq_true, decide_eq_true_eq] at hok
  obtain ⟨rfl, hd⟩ := hok
  intro H locs ls hP hS hN hX hl
  exact lv_goto hx hb hd (by omega) (H1 H locs ls hP hS hN hX hl)
set_option maxHeartbeats 1000000 in
theorem bs_24 (cx : bh_Cx g m0 d p R S0 m args meth c) (hok : bh_dc m0 pc (.tableswitch ((a : Int) - pc) cn (cn + l9.length - 1) (l9.map (fun t : Nat => (t : Int) - pc)).toArray) len = true) (H1 : ∃ x s, st = .int x :: s ∧ ((¬ x.toInt < cn ∧ ¬ cn + l9.length - 1 < x.toInt) → ∃ t, l9[(x.toInt - cn).toNat]? = some t ∧ (bh_MP g m0 p l e R S0 m args below meth c Qf) t lv s u h) ∧ ((x.toInt < cn ∨ cn + l9.length - 1 < x.toInt) → (bh_MP g m0 p l e R S0 m args below meth c Qf) a lv s u h)) : bh_MP g m0 p l e R S0 m args below meth c Qf pc lv st u h := by
  obtain ⟨hx, hb, hml, hown, hts, hm0, hE, hR, hB, hini⟩ := id cx
  simp only [bh_dc, decide_eq_true_eq] at hok
  obtain ⟨x, sk, rfl, H1, H2⟩ := H1
  intro H locs ls hP hS hN hX hl
  by_cases hq : x.toInt < cn ∨ cn + l9.length - 1 < x.toInt
  · exact lv_tableOut hx hb hok hq (by omega) (H2 hq H locs ls hP hS hN hX hl)
  · have h1 : ¬ x.toInt < cn := fun z => hq (Or.inl z)
    have h2 : ¬ cn + l9.length - 1 < x.toInt := fun z => hq (Or.inr z)
    obtain ⟨t, ht, H3⟩ := H1 ⟨h1, h2⟩
    exact lv_tableIn (off := (t : Int) - pc) hx hb hok h1 h2 (by simp [ht]) (by omega) (H3 H locs ls hP hS hN hX hl)
set_option maxHeartbeats 1000000 in
theorem bs_25 (cx : bh_Cx g m0 d p R S0 m args meth c) (hok : (match bh_FL[a]? with
      | some q => bh_d3 m0 pc len (.getfield q.2.1) && decide (q.1 = bh_O m0)
      | none => false) = true) (H1 : ∃ k s, st = .ref k :: s ∧ k < h.1 ∧ ∃ q, bh_FL[a]? = some q ∧ bh_tg k = q.2.2.1 ∧ q.2.2.2 < bh_ln k ∧ ((bh_fr q.2.2.1 q.2.2.2 = true ∧ ∃ r, h.2.1 k q.2.2.2 = some r ∧ (bh_MP g m0 p l e R S0 m args below meth c Qf) (pc + len) lv (.ref r :: s) u h) ∨ (bh_fr q.2.2.1 q.2.2.2 = false ∧ (bh_MP g m0 p l e R S0 m args below meth c Qf) (pc + len) lv (.int (h.2.2.1 k q.2.2.2) :: s) u h))) : bh_MP g m0 p l e R S0 m args below meth c Qf pc lv st u h := by
  obtain ⟨hx, hb, hml, hown, hts, hm0, hE, hR, hB, hini⟩ := id cx
  obtain ⟨k, sk, rfl, hk, q, hq, htg, hjl, H1⟩ := H1
  rw [hq] at hok
  simp only [bh_d3, bh_dc, Bool.and_eq_true, decide_eq_true_eq] at hok
  obtain ⟨⟨rfl, hd⟩, ho⟩ := hok
  obtain ⟨t, htc, htk, htw⟩ := bh_fok_of hq
  obtain ⟨hu1, hu2, hu3, hu4⟩ := bh_uok_of htc
  intro H locs ls hP hS hN hX hl
  rw [← ho] at hown
  have hci : q.2.2.1 < 20 := Nat.lt_of_lt_of_le (bh_cls_of htc) (by decide)
  have hE0 := bh_E_obj (g := g) (h := h) htg hci
  have he := bh_ws_at g hk
  rw [hE0] at he
  have hX2 := hX.2.2
  show W p l e R S0 m args below meth c H locs u.1 u.2 Qf (F0 m pc ls (.ref (bh_ad g k) :: sk.map (bh_tr g)))
  rw [bh_ad_own hk hX]
  refine va_get (C := t.1) (T := t.2.1) (N := t.2.2) (v := bh_fv g h q.2.2.1 k q.2.2.2) hx hb hts hu1 hown hE.1 hP k he htc q.2.2.2 htk (hts _ htw) (fun _ z => z) (bh_fs_at hjl) hd ?_
  rcases H1 with ⟨hf, r, hr, H1⟩ | ⟨hf, H1⟩
  · have e1 : bh_fv g h q.2.2.1 k q.2.2.2 = .ref (bh_ad g r) := by unfold bh_fv; rw [if_pos hf, hr]; rfl
    rw [e1]
    exact H1 H locs ls hP hS hN hX hl
  · have e1 : bh_fv g h q.2.2.1 k q.2.2.2 = .int (h.2.2.1 k q.2.2.2) := by unfold bh_fv; rw [if_neg (by rw [hf]; decide)]
    rw [e1]
    exact H1 H locs ls hP hS hN hX hl
set_option maxHeartbeats 1000000 in
theorem bs_26 (cx : bh_Cx g m0 d p R S0 m args meth c) (hok : (match bh_FL[a]? with
      | some q => bh_d3 m0 pc len (.putfield q.2.1) && decide (q.1 = bh_O m0) && (match bh_cls[q.2.2.1]? with
        | some t => (t.2.1 q.2.2.2).2.2.2 == bh_fr q.2.2.1 q.2.2.2 && (!(bh_fr q.2.2.1 q.2.2.2) || (decide ((bh_Y m0).name = "<init>") && decide ((t.2.1 q.2.2.2).1 = bh_O m0)))
        | none => false)
      | none => false) = true) (H1 : ∃ q, bh_FL[a]? = some q ∧
        ((bh_fr q.2.2.1 q.2.2.2 = true ∧ ∃ r k s, st = .ref r :: .ref k :: s ∧ k < h.1 ∧ r < h.1 ∧ bh_tg k = q.2.2.1 ∧ q.2.2.2 < bh_ln k ∧ (bh_MP g m0 p l e R S0 m args below meth c Qf) (pc + len) lv s u (h.1, bh_up2 h.2.1 k q.2.2.2 (some r), h.2.2.1, h.2.2.2)) ∨
         (bh_fr q.2.2.1 q.2.2.2 = false ∧ ∃ x k s, st = .int x :: .ref k :: s ∧ k < h.1 ∧ bh_tg k = q.2.2.1 ∧ q.2.2.2 < bh_ln k ∧ (bh_MP g m0 p l e R S0 m args below meth c Qf) (pc + len) lv s u (h.1, h.2.1, bh_up2 h.2.2.1 k q.2.2.2 x, h.2.2.2)))) : bh_MP g m0 p l e R S0 m args below meth c Qf pc lv st u h := by
  obtain ⟨hx, hb, hml, hown, hts, hm0, hE, hR, hB, hini⟩ := id cx
  obtain ⟨q, hq, H1⟩ := H1
  rw [hq] at hok
  obtain ⟨t, htc, htk, htw⟩ := bh_fok_of hq
  obtain ⟨hu1, hu2, hu3, hu4⟩ := bh_uok_of htc
  dsimp only at hok
  rw [htc] at hok
  simp only [bh_d3, bh_dc, Bool.and_eq_true, decide_eq_true_eq] at hok
  obtain ⟨⟨⟨rfl, hd⟩, ho⟩, hfin, hin⟩ := hok
  intro H locs ls hP hS hN hX hl
  have hown2 := hown
  rw [← ho] at hown2
  have hX2 := hX.2.2
  have hci : q.2.2.1 < 20 := Nat.lt_of_lt_of_le (bh_cls_of htc) (by decide)
  rcases H1 with ⟨hf, r, k, sk, rfl, hk, hr, htg, hjl, H1⟩ | ⟨hf, x, k, sk, rfl, hk, htg, hjl, H1⟩
  · have hE0 := bh_E_obj (g := g) (h := h) htg hci
    have he := bh_ws_at g hk
    rw [hE0] at he
    rw [hf] at hfin hin
    simp only [Bool.not_true, Bool.false_or, Bool.and_eq_true, decide_eq_true_eq] at hin
    obtain ⟨hn1, hn2⟩ := (hu3 _ htk).1 hf
    show W p l e R S0 m args below meth c H locs u.1 u.2 Qf (F0 m pc ls (.ref (bh_ad g r) :: .ref (bh_ad g k) :: sk.map (bh_tr g)))
    rw [bh_ad_own hk hX]
    have hnar : narrow (bh_ty q.2.2.1 q.2.2.2) (.ref (bh_ad g r)) = .ref (bh_ad g r) := by cases bh_ty q.2.2.1 q.2.2.2 <;> rfl
    have hfit : fits (bh_ty q.2.2.1 q.2.2.2) (.ref (bh_ad g r)) = true := by
      revert hn2
      cases bh_ty q.2.2.1 q.2.2.2 <;> intro hn2 <;> first | rfl | cases hn2
    refine va_putF (C := t.1) (T := t.2.1) (N := t.2.2) hx hb hts hu1 (bh_ty q.2.2.1) hu2 hu4 hown2 hE.1 hP (bh_ws_D g h) hS k he htc q.2.2.2 htk (hts _ htw) (fun _ z => z) (by simpa using hfin) (hini hin.1) (by rw [hin.2, ho]) (hu2 _ htk) hnar hfit (by simpa using hjl) hd (fun H2 locs2 hP2 hD2 hS2 => ?_)
    have e1 : (bh_ws g h).set k (bh_gB g + k, .inr (q.2.2.1, ((List.range (bh_ln k)).map (bh_fv g h q.2.2.1 k)).set q.2.2.2 (.ref (bh_ad g r)))) = bh_ws g (h.1, bh_up2 h.2.1 k q.2.2.2 (some r), h.2.2.1, h.2.2.2) := by
      refine bh_ws_set (by rfl) hk ?_ (fun j hj => bh_E_congr (bh_up2_ne _ _ _ hj) rfl rfl)
      rw [bh_E_obj htg hci]
      congr 2
      refine (bh_fs_set ?_ (fun i hi => ?_)).symm
      · unfold bh_fv
        rw [if_pos hf]
        dsimp only
        rw [bh_up2_self]
        rfl
      · unfold bh_fv
        dsimp only
        rw [bh_up2_k]
        dsimp only
        rw [if_neg hi]
    rw [e1] at hP2
    exact H1 H2 locs2 ls hP2 hS2 hN hX hl
  · have hE0 := bh_E_obj (g := g) (h := h) htg hci
    have he := bh_ws_at g hk
    rw [hE0] at he
    have hfin2 : (t.2.1 q.2.2.2).2.2.2 = false := by rw [hf] at hfin; simpa using hfin
    have hty := (hu3 _ htk).2 hf
    show W p l e R S0 m args below meth c H locs u.1 u.2 Qf (F0 m pc ls (.int x :: .ref (bh_ad g k) :: sk.map (bh_tr g)))
    rw [bh_ad_own hk hX]
    refine va_put (C := t.1) (T := t.2.1) (N := t.2.2) (ty := .int) hx hb hts hu1 (bh_ty q.2.2.1) hu2 hu4 hown2 hE.1 hP (bh_ws_D g h) hS k he htc q.2.2.2 htk (hts _ htw) (fun _ z => z) hfin2 (by rw [hu2 _ htk, hty]) rfl rfl (by simpa using hjl) hd (fun H2 locs2 hP2 hD2 hS2 => ?_)
    have e1 : (bh_ws g h).set k (bh_gB g + k, .inr (q.2.2.1, ((List.range (bh_ln k)).map (bh_fv g h q.2.2.1 k)).set q.2.2.2 (.int x))) = bh_ws g (h.1, h.2.1, bh_up2 h.2.2.1 k q.2.2.2 x, h.2.2.2) := by
      refine bh_ws_set (by rfl) hk ?_ (fun j hj => bh_E_congr rfl (bh_up2_ne _ _ _ hj) rfl)
      rw [bh_E_obj htg hci]
      congr 2
      refine (bh_fs_set ?_ (fun i hi => ?_)).symm
      · unfold bh_fv
        rw [if_neg (by rw [hf]; decide)]
        dsimp only
        rw [bh_up2_self]
      · unfold bh_fv
        dsimp only
        rw [bh_up2_k]
        dsimp only
        rw [if_neg hi]
    rw [e1] at hP2
    have hk2 := bh_ne_own hk hX
    exact H1 H2 locs2 ls hP2 hS2 hN ⟨(bh_up2_ne _ _ _ hk2.1).trans hX.1, by show bh_up2 h.2.2.1 k q.2.2.2 x 1001 0 = _; rw [bh_up2_ne _ _ _ hk2.2]; exact hX.2.1, hX.2.2⟩ hl
set_option maxHeartbeats 1000000 in
theorem bs_27 (cx : bh_Cx g m0 d p R S0 m args meth c) (hok : bh_d1 m0 pc len .iaload = true) (H1 : ∃ i k s, st = .int i :: .ref k :: s ∧ ((k < h.1 ∧ bh_tg k = 20 ∧ vp_in i (bh_ln k) ∧ (bh_MP g m0 p l e R S0 m args below meth c Qf) (pc + len) lv (.int (h.2.2.1 k i.toNatClampNeg) :: s) u h) ∨ (k = 1000 ∧ vp_in i (h.2.2.1 1001 0).toNatClampNeg ∧ (bh_MP g m0 p l e R S0 m args below meth c Qf) (pc + len) lv (.int (h.2.2.1 1000 i.toNatClampNeg) :: s) u h))) : bh_MP g m0 p l e R S0 m args below meth c Qf pc lv st u h := by
  obtain ⟨hx, hb, hml, hown, hts, hm0, hE, hR, hB, hini⟩ := id cx
  simp only [bh_d1, bh_dc, Bool.and_eq_true, decide_eq_true_eq] at hok
  obtain ⟨rfl, hd⟩ := hok
  obtain ⟨i, k, sk, rfl, H1⟩ := H1
  intro H locs ls hP hS hN hX hl
  have hX2 := hX.2.2
  show W p l e R S0 m args below meth c H locs u.1 u.2 Qf (F0 m pc ls (.int i :: .ref (bh_ad g k) :: sk.map (bh_tr g)))
  rcases H1 with ⟨hk, htg, hin, H1⟩ | ⟨rfl, hin, H1⟩
  · have he := bh_ws_at g hk
    rw [bh_E_int htg (Or.inl rfl)] at he
    rw [bh_ad_own hk hX]
    exact va_iald hx hb hE.1 hP k 0 he rfl hin hd (H1 H locs ls hP hS hN hX hl)
  · have hb2 := hE.2.2.2.2.2.1
    rw [show bh_ad g 1000 = bh_gX g 1000 from rfl]
    have h7 := hE.2.2.2.2.2.2.1
    rw [hX.2.1, nI_clamp (by omega)] at hin
    refine va_sld hx hb hE.2.2.2.2.1 (Nat.lt_of_lt_of_le hb2 hB) (show ¬ bh_gB g ≤ bh_gX g 1000 by omega) hS hin hd ?_
    have H2 := H1 H locs ls hP hS hN hX hl
    rw [hX.1] at H2
    exact H2
set_option maxHeartbeats 1000000 in
theorem bs_28 (cx : bh_Cx g m0 d p R S0 m args meth c) (hok : bh_d1 m0 pc len .iastore = true) (H1 : ∃ x i k s, st = .int x :: .int i :: .ref k :: s ∧ k < h.1 ∧ bh_tg k = 20 ∧ vp_in i (bh_ln k) ∧ (bh_MP g m0 p l e R S0 m args below meth c Qf) (pc + len) lv s u (h.1, h.2.1, bh_up2 h.2.2.1 k i.toNatClampNeg x, h.2.2.2)) : bh_MP g m0 p l e R S0 m args below meth c Qf pc lv st u h := by
  obtain ⟨hx, hb, hml, hown, hts, hm0, hE, hR, hB, hini⟩ := id cx
  simp only [bh_d1, bh_dc, Bool.and_eq_true, decide_eq_true_eq] at hok
  obtain ⟨rfl, hd⟩ := hok
  obtain ⟨x, i, k, sk, rfl, hk, htg, hin, H1⟩ := H1
  intro H locs ls hP hS hN hX hl
  have hX2 := hX.2.2
  show W p l e R S0 m args below meth c H locs u.1 u.2 Qf (F0 m pc ls (.int x :: .int i :: .ref (bh_ad g k) :: sk.map (bh_tr g)))
  have he := bh_ws_at g hk
  rw [bh_E_int htg (Or.inl rfl)] at he
  rw [bh_ad_own hk hX]
  refine va_iast hx hb hE.1 hP (bh_ws_D g h) hS k 0 he rfl hin hd (fun H2 locs2 hP2 hD2 hS2 => ?_)
  rw [bh_ws_set (h' := (h.1, h.2.1, bh_up2 h.2.2.1 k i.toNatClampNeg x, h.2.2.2)) (by rfl) hk (by rw [bh_E_int htg (Or.inl rfl)]; dsimp only; rw [bh_up2_k]; rfl) (fun j hj => bh_E_congr rfl (bh_up2_ne _ _ _ hj) rfl)] at hP2
  have hk2 := bh_ne_own hk hX
  exact H1 H2 locs2 ls hP2 hS2 hN ⟨(bh_up2_ne _ _ _ hk2.1).trans hX.1, by show bh_up2 h.2.2.1 k _ x 1001 0 = _; rw [bh_up2_ne _ _ _ hk2.2]; exact hX.2.1, hX.2.2⟩ hl
set_option maxHeartbeats 1000000 in
theorem bs_29 (cx : bh_Cx g m0 d p R S0 m args meth c) (hok : bh_d1 m0 pc len .baload = true) (H1 : ∃ i k s, st = .int i :: .ref k :: s ∧ k < h.1 ∧ (bh_tg k = 22 ∨ bh_tg k = 23) ∧ vp_in i (bh_ln k) ∧ (bh_MP g m0 p l e R S0 m args below meth c Qf) (pc + len) lv (.int (h.2.2.1 k i.toNatClampNeg) :: s) u h) : bh_MP g m0 p l e R S0 m args below meth c Qf pc lv st u h := by
  obtain ⟨hx, hb, hml, hown, hts, hm0, hE, hR, hB, hini⟩ := id cx
  simp only [bh_d1, bh_dc, Bool.and_eq_true, decide_eq_true_eq] at hok
  obtain ⟨rfl, hd⟩ := hok
  obtain ⟨i, k, sk, rfl, hk, htg, hin, H1⟩ := H1
  intro H locs ls hP hS hN hX hl
  have hX2 := hX.2.2
  show W p l e R S0 m args below meth c H locs u.1 u.2 Qf (F0 m pc ls (.int i :: .ref (bh_ad g k) :: sk.map (bh_tr g)))
  have he := bh_ws_at g hk
  rw [bh_ad_own hk hX]
  rcases htg with htg | htg
  · rw [bh_E_int htg (Or.inr (Or.inl rfl))] at he
    exact va_bald hx hb hE.1 hP k 2 he rfl hin hd (H1 H locs ls hP hS hN hX hl)
  · rw [bh_E_int htg (Or.inr (Or.inr rfl))] at he
    exact va_zald hx hb hE.1 hP k 3 he rfl hin hd (H1 H locs ls hP hS hN hX hl)
set_option maxHeartbeats 1000000 in
theorem bs_30 (cx : bh_Cx g m0 d p R S0 m args meth c) (hok : bh_d1 m0 pc len .bastore = true) (H1 : ∃ x i k s, st = .int x :: .int i :: .ref k :: s ∧ k < h.1 ∧ vp_in i (bh_ln k) ∧ ((bh_tg k = 22 ∧ (bh_MP g m0 p l e R S0 m args below meth c Qf) (pc + len) lv s u (h.1, h.2.1, bh_up2 h.2.2.1 k i.toNatClampNeg (vp_nar .byte x), h.2.2.2)) ∨ (bh_tg k = 23 ∧ (bh_MP g m0 p l e R S0 m args below meth c Qf) (pc + len) lv s u (h.1, h.2.1, bh_up2 h.2.2.1 k i.toNatClampNeg (vp_nar .boolean x), h.2.2.2)))) : bh_MP g m0 p l e R S0 m args below meth c Qf pc lv st u h := by
  obtain ⟨hx, hb, hml, hown, hts, hm0, hE, hR, hB, hini⟩ := id cx
  simp only [bh_d1, bh_dc, Bool.and_eq_true, decide_eq_true_eq] at hok
  obtain ⟨rfl, hd⟩ := hok
  obtain ⟨x, i, k, sk, rfl, hk, hin, H1⟩ := H1
  intro H locs ls hP hS hN hX hl
  have hX2 := hX.2.2
  show W p l e R S0 m args below meth c H locs u.1 u.2 Qf (F0 m pc ls (.int x :: .int i :: .ref (bh_ad g k) :: sk.map (bh_tr g)))
  have he := bh_ws_at g hk
  have hk2 := bh_ne_own hk hX
  rw [bh_ad_own hk hX]
  rcases H1 with ⟨htg, H1⟩ | ⟨htg, H1⟩
  · rw [bh_E_int htg (Or.inr (Or.inl rfl))] at he
    refine va_bast hx hb hE.1 hP (bh_ws_D g h) hS k 2 he rfl hin hd (fun H2 locs2 hP2 hD2 hS2 => ?_)
    rw [bh_ws_set (h' := (h.1, h.2.1, bh_up2 h.2.2.1 k i.toNatClampNeg (vp_nar .byte x), h.2.2.2)) (by rfl) hk (by rw [bh_E_int htg (Or.inr (Or.inl rfl))]; dsimp only; rw [bh_up2_k]; rfl) (fun j hj => bh_E_congr rfl (bh_up2_ne _ _ _ hj) rfl)] at hP2
    exact H1 H2 locs2 ls hP2 hS2 hN ⟨(bh_up2_ne _ _ _ hk2.1).trans hX.1, by show bh_up2 h.2.2.1 k _ _ 1001 0 = _; rw [bh_up2_ne _ _ _ hk2.2]; exact hX.2.1, hX.2.2⟩ hl
  · rw [bh_E_int htg (Or.inr (Or.inr rfl))] at he
    refine va_zast hx hb hE.1 hP (bh_ws_D g h) hS k 3 he rfl hin hd (fun H2 locs2 hP2 hD2 hS2 => ?_)
    rw [bh_ws_set (h' := (h.1, h.2.1, bh_up2 h.2.2.1 k i.toNatClampNeg (vp_nar .boolean x), h.2.2.2)) (by rfl) hk (by rw [bh_E_int htg (Or.inr (Or.inr rfl))]; dsimp only; rw [bh_up2_k]; rfl) (fun j hj => bh_E_congr rfl (bh_up2_ne _ _ _ hj) rfl)] at hP2
    exact H1 H2 locs2 ls hP2 hS2 hN ⟨(bh_up2_ne _ _ _ hk2.1).trans hX.1, by show bh_up2 h.2.2.1 k _ _ 1001 0 = _; rw [bh_up2_ne _ _ _ hk2.2]; exact hX.2.1, hX.2.2⟩ hl
set_option maxHeartbeats 1000000 in
theorem bs_31 (cx : bh_Cx g m0 d p R S0 m args meth c) (hok : bh_d1 m0 pc len .laload = true) (H1 : ∃ i k s, st = .int i :: .ref k :: s ∧ k < h.1 ∧ bh_tg k = 21 ∧ vp_in i (bh_ln k) ∧ (bh_MP g m0 p l e R S0 m args below meth c Qf) (pc + len) lv (.long (h.2.2.2 k i.toNatClampNeg) :: s) u h) : bh_MP g m0 p l e R S0 m args below meth c Qf pc lv st u h := by
  obtain ⟨hx, hb, hml, hown, hts, hm0, hE, hR, hB, hini⟩ := id cx
  simp only [bh_d1, bh_dc, Bool.and_eq_true, decide_eq_true_eq] at hok
  obtain ⟨rfl, hd⟩ := hok
  obtain ⟨i, k, sk, rfl, hk, htg, hin, H1⟩ := H1
  intro H locs ls hP hS hN hX hl
  have hX2 := hX.2.2
  show W p l e R S0 m args below meth c H locs u.1 u.2 Qf (F0 m pc ls (.int i :: .ref (bh_ad g k) :: sk.map (bh_tr g)))
  have he := bh_ws_at g hk
  rw [bh_E_long htg] at he
  rw [bh_ad_own hk hX]
  exact va_lald hx hb hE.1 hP k 1 he rfl hin hd (H1 H locs ls hP hS hN hX hl)
set_option maxHeartbeats 1000000 in
theorem bs_32 (cx : bh_Cx g m0 d p R S0 m args meth c) (hok : bh_d1 m0 pc len .lastore = true) (H1 : ∃ x i k s, st = .long x :: .int i :: .ref k :: s ∧ k < h.1 ∧ bh_tg k = 21 ∧ vp_in i (bh_ln k) ∧ (bh_MP g m0 p l e R S0 m args below meth c Qf) (pc + len) lv s u (h.1, h.2.1, h.2.2.1, bh_up2 h.2.2.2 k i.toNatClampNeg x)) : bh_MP g m0 p l e R S0 m args below meth c Qf pc lv st u h := by
  obtain ⟨hx, hb, hml, hown, hts, hm0, hE, hR, hB, hini⟩ := id cx
  simp only [bh_d1, bh_dc, Bool.and_eq_true, decide_eq_true_eq] at hok
  obtain ⟨rfl, hd⟩ := hok
  obtain ⟨x, i, k, sk, rfl, hk, htg, hin, H1⟩ := H1
  intro H locs ls hP hS hN hX hl
  have hX2 := hX.2.2
  show W p l e R S0 m args below meth c H locs u.1 u.2 Qf (F0 m pc ls (.long x :: .int i :: .ref (bh_ad g k) :: sk.map (bh_tr g)))
  have he := bh_ws_at g hk
  rw [bh_E_long htg] at he
  rw [bh_ad_own hk hX]
  refine va_last hx hb hE.1 hP (bh_ws_D g h) hS k 1 he rfl hin hd (fun H2 locs2 hP2 hD2 hS2 => ?_)
  rw [bh_ws_set (h' := (h.1, h.2.1, h.2.2.1, bh_up2 h.2.2.2 k i.toNatClampNeg x)) (by rfl) hk (by rw [bh_E_long htg]; dsimp only; rw [bh_up2_k]; rfl) (fun j hj => bh_E_congr rfl rfl (bh_up2_ne _ _ _ hj))] at hP2
  exact H1 H2 locs2 ls hP2 hS2 hN hX hl
set_option maxHeartbeats 1000000 in
theorem bs_33 (cx : bh_Cx g m0 d p R S0 m args meth c) (hok : bh_d1 m0 pc len .aaload = true) (H1 : ∃ i k s r, st = .int i :: .ref k :: s ∧ k < h.1 ∧ bh_tg k = 24 ∧ vp_in i (bh_ln k) ∧ h.2.1 k i.toNatClampNeg = some r ∧ (bh_MP g m0 p l e R S0 m args below meth c Qf) (pc + len) lv (.ref r :: s) u h) : bh_MP g m0 p l e R S0 m args below meth c Qf pc lv st u h := by
  obtain ⟨hx, hb, hml, hown, hts, hm0, hE, hR, hB, hini⟩ := id cx
  simp only [bh_d1, bh_dc, Bool.and_eq_true, decide_eq_true_eq] at hok
  obtain ⟨rfl, hd⟩ := hok
  obtain ⟨i, k, sk, r, rfl, hk, htg, hin, hr, H1⟩ := H1
  intro H locs ls hP hS hN hX hl
  have hX2 := hX.2.2
  show W p l e R S0 m args below meth c H locs u.1 u.2 Qf (F0 m pc ls (.int i :: .ref (bh_ad g k) :: sk.map (bh_tr g)))
  have he := bh_ws_at g hk
  rw [bh_E_ref htg] at he
  rw [bh_ad_own hk hX]
  refine va_aldq hx hb hE.1 hP k 4 he rfl hin hd ?_
  rw [hr]
  exact H1 H locs ls hP hS hN hX hl
set_option maxHeartbeats 1000000 in
theorem bs_34 (cx : bh_Cx g m0 d p R S0 m args meth c) (hok : bh_d1 m0 pc len .aastore = true) (H1 : ∃ r i k s, st = .ref r :: .int i :: .ref k :: s ∧ k < h.1 ∧ r < h.1 ∧ bh_tg k = 24 ∧ bh_tg r = 7 ∧ vp_in i (bh_ln k) ∧ (bh_MP g m0 p l e R S0 m args below meth c Qf) (pc + len) lv s u (h.1, bh_up2 h.2.1 k i.toNatClampNeg (some r), h.2.2.1, h.2.2.2)) : bh_MP g m0 p l e R S0 m args below meth c Qf pc lv st u h := by
  obtain ⟨hx, hb, hml, hown, hts, hm0, hE, hR, hB, hini⟩ := id cx
  simp only [bh_d1, bh_dc, Bool.and_eq_true, decide_eq_true_eq] at hok
  obtain ⟨rfl, hd⟩ := hok
  obtain ⟨r, i, k, sk, rfl, hk, hr, htg, htr, hin, H1⟩ := H1
  intro H locs ls hP hS hN hX hl
  have hX2 := hX.2.2
  show W p l e R S0 m args below meth c H locs u.1 u.2 Qf (F0 m pc ls (.ref (bh_ad g r) :: .int i :: .ref (bh_ad g k) :: sk.map (bh_tr g)))
  have he := bh_ws_at g hk
  rw [bh_E_ref htg] at he
  have he2 := bh_ws_at g hr
  rw [bh_E_obj htr (by decide)] at he2
  have ear : bh_ad g r = bh_gB g + r := bh_ad_own hr hX
  rw [bh_ad_own hk hX]
  rw [ear]
  refine va_astq (r := (RX7, TX7, 18)) hx hb hE.1 hP (bh_ws_D g h) hS k 4 r 7 he rfl he2 rfl hin hd (fun H2 locs2 hP2 hD2 hS2 => ?_)
  rw [bh_ws_set (h' := (h.1, bh_up2 h.2.1 k i.toNatClampNeg (some r), h.2.2.1, h.2.2.2)) (by rfl) hk (by
    rw [bh_E_ref htg]
    dsimp only
    rw [bh_up2_k]
    congr 7
    funext j
    unfold va_up
    by_cases hj : j = i.toNatClampNeg
    · rw [if_pos hj]; dsimp only; rw [if_pos hj, ← ear]; rfl
    · rw [if_neg hj]; dsimp only; rw [if_neg hj]) (fun j hj => bh_E_congr (bh_up2_ne _ _ _ hj) rfl rfl)] at hP2
  exact H1 H2 locs2 ls hP2 hS2 hN hX hl
set_option maxHeartbeats 1000000 in
theorem bs_35 (cx : bh_Cx g m0 d p R S0 m args meth c) (hok : bh_d1 m0 pc len .arraylength = true) (H1 : ∃ k s, st = .ref k :: s ∧ ((k < h.1 ∧ 20 ≤ bh_tg k ∧ bh_tg k ≤ 24 ∧ (bh_MP g m0 p l e R S0 m args below meth c Qf) (pc + len) lv (.int (nI (bh_ln k)) :: s) u h) ∨ (k = 1000 ∧ (bh_MP g m0 p l e R S0 m args below meth c Qf) (pc + len) lv (.int (h.2.2.1 1001 0) :: s) u h))) : bh_MP g m0 p l e R S0 m args below meth c Qf pc lv st u h := by
  obtain ⟨hx, hb, hml, hown, hts, hm0, hE, hR, hB, hini⟩ := id cx
  simp only [bh_d1, bh_dc, Bool.and_eq_true, decide_eq_true_eq] at hok
  obtain ⟨rfl, hd⟩ := hok
  obtain ⟨k, sk, rfl, H1⟩ := H1
  intro H locs ls hP hS hN hX hl
  have hX2 := hX.2.2
  show W p l e R S0 m args below meth c H locs u.1 u.2 Qf (F0 m pc ls (.ref (bh_ad g k) :: sk.map (bh_tr g)))
  rcases H1 with ⟨hk, ht1, ht2, H1⟩ | ⟨rfl, H1⟩
  · have he := bh_ws_at g hk
    have e1 : bh_E g h k = .inl (bh_gA g (bh_tg k), bh_ar g h k) := by unfold bh_E; rw [if_neg (by omega)]
    rw [e1] at he
    rw [bh_ad_own hk hX]
    have hz : bh_tg k = 20 ∨ bh_tg k = 21 ∨ bh_tg k = 22 ∨ bh_tg k = 23 ∨ bh_tg k = 24 := by omega
    have H2 := H1 H locs ls hP hS hN hX hl
    rcases hz with z | z | z | z | z <;> rw [z] at he
    · exact va_alen hx hb hE.1 hP k 0 he rfl rfl hd H2
    · exact va_alen hx hb hE.1 hP k 1 he rfl rfl hd H2
    · exact va_alen hx hb hE.1 hP k 2 he rfl rfl hd H2
    · exact va_alen hx hb hE.1 hP k 3 he rfl rfl hd H2
    · exact va_alen hx hb hE.1 hP k 4 he rfl rfl hd H2
  · have hb2 := hE.2.2.2.2.2.1
    have H2 := H1 H locs ls hP hS hN hX hl
    rw [hX.2.1] at H2
    exact va_slen hx hb hE.2.2.2.2.1 (Nat.lt_of_lt_of_le hb2 hB) (show ¬ bh_gB g ≤ bh_gX g 1000 by omega) hS hd H2
end bh_sound
end
section
theorem bh_catmap (g : bh_G) (l : List Value) : ((l.map (bh_tr g)).map fun v => v.category).sum = bh_catsum l := by
  unfold bh_catsum
  rw [List.map_map]
  congr 1
  exact List.map_congr_left fun v _ => bh_tr_cat g v
theorem bh_pln {k : Nat} {t : vw_C} (h : bh_cls[bh_tg k]? = some t) : t.2.2 = bh_ln k := by
  by_cases hk : k < 228
  · have h1 := List.all_eq_true.mp bh_pok_all k (List.mem_range.mpr (by rw [bh_plan_len]; exact hk))
    unfold bh_pok at h1
    rw [h] at h1
    simp only [Bool.and_eq_true] at h1
    exact of_decide_eq_true h1.1
  · have e : bh_tg k = 99 := by
      unfold bh_tg
      rw [List.getD_eq_getElem?_getD, List.getElem?_eq_none (by rw [bh_plan_len]; omega)]
      rfl
    rw [e] at h
    cases h
set_option maxRecDepth 100000 in
theorem bh_arwI : Jvm.Cond.arrayClass (newarray.typeOf (bh_nat 20)) ∈ bh_WS := bh_WS_of (i := 226) (by decide +kernel) (by decide +kernel)
set_option maxRecDepth 100000 in
theorem bh_arwJ : Jvm.Cond.arrayClass (newarray.typeOf (bh_nat 21)) ∈ bh_WS := bh_WS_of (i := 415) (by decide +kernel) (by decide +kernel)
set_option maxRecDepth 100000 in
theorem bh_arwB : Jvm.Cond.arrayClass (newarray.typeOf (bh_nat 22)) ∈ bh_WS := bh_WS_of (i := 595) (by decide +kernel) (by decide +kernel)
set_option maxRecDepth 100000 in
theorem bh_arwZ : Jvm.Cond.arrayClass (newarray.typeOf (bh_nat 23)) ∈ bh_WS := bh_WS_of (i := 1164) (by decide +kernel) (by decide +kernel)
set_option maxRecDepth 100000 in
theorem bh_objI : Jvm.Cond.instanceMethod Lib.objectInit ∈ bh_WS := bh_WS_of (i := 127) (by decide +kernel) (by decide +kernel)
set_option maxRecDepth 100000 in
theorem bh_objC : Jvm.Cond.code Lib.objectInit ⟨#[0xb1]⟩ 1 none ∈ bh_WS := bh_WS_of (i := 128) (by decide +kernel) (by decide +kernel)
set_option maxRecDepth 100000 in
theorem bh_maxS : Jvm.Cond.static Lib.Math.max.name ∈ bh_WS := bh_WS_of (i := 1018) (by decide +kernel) (by decide +kernel)
set_option maxRecDepth 100000 in
theorem bh_minS : Jvm.Cond.static Lib.Math.min.name ∈ bh_WS := bh_WS_of (i := 525) (by decide +kernel) (by decide +kernel)
set_option maxRecDepth 100000 in
theorem bh_mathI : Jvm.Cond.initialized "java/lang/Math" ∈ bh_WS := bh_WS_of (i := 117) (by decide +kernel) (by decide +kernel)
set_option maxRecDepth 100000 in
theorem bh_maxC : Jvm.Cond.code Lib.Math.max.name Lib.Math.max.code 2 (some .int) ∈ bh_WS := bh_WS_of (i := 1019) (by decide +kernel) (by decide +kernel)
set_option maxRecDepth 100000 in
theorem bh_minC : Jvm.Cond.code Lib.Math.min.name Lib.Math.min.code 2 (some .int) ∈ bh_WS := bh_WS_of (i := 526) (by decide +kernel) (by decide +kernel)
set_option maxRecDepth 100000 in
theorem bh_acN : Jvm.Cond.native arraycopyName ∈ bh_WS := bh_WS_of (i := 594) (by decide +kernel) (by decide +kernel)
set_option maxRecDepth 100000 in
theorem bh_acS : Jvm.Cond.static arraycopyName ∈ bh_WS := bh_WS_of (i := 593) (by decide +kernel) (by decide +kernel)
set_option maxRecDepth 100000 in
theorem bh_acI : Jvm.Cond.initialized "java/lang/System" ∈ bh_WS := bh_WS_of (i := 119) (by decide +kernel) (by decide +kernel)
theorem bh_acW {n r d : Nat} (h : n ≤ 8) (h2 : 64 * d ≤ r) (h3 : 1 ≤ d) : n + (nativeFrameWords "java/lang/System" "arraycopy" 5 + 11) ≤ r := by
  have e : nativeFrameWords "java/lang/System" "arraycopy" 5 = 7 := by decide +kernel
  rw [e]
  omega
/-! ===== making, calling, the library ===== -/
section bh_sound2
variable {g : bh_G} {m0 d : Nat} {p : Program} {l : Launch} {e : Env} {R : Room} {S0 : State} {m : MethodId} {args : Array Value} {below : List Frame} {meth : Method} {c : Code} {Qf : State → Prop} {pc len a : Nat} {cn : Int} {l9 : List Nat} {lv st : List Value} {u : Nat × Nat} {h : bh_H}
set_option maxHeartbeats 1000000 in
theorem bs_36 (cx : bh_Cx g m0 d p R S0 m args meth c) (hok : (match bh_cls[a]? with
      | some t => bh_d3 m0 pc len (.new cn.toNat) && bh_at (l9.getD 0 0) (.classLink (bh_O m0) cn.toNat t.1) && bh_at (l9.getD 1 0) (.instantiable t.1 t.2.2) && bh_at (l9.getD 2 0) (.initialized t.1)
      | none => false) = true) (H1 : h.1 < 1000 ∧ bh_tg h.1 = a ∧ a < 20 ∧ u.1 + 1 ≤ bh_mc m0 ∧ u.2 + bh_ln h.1 ≤ bh_ms m0 ∧
        (bh_MP g m0 p l e R S0 m args below meth c Qf) (pc + len) lv (.ref h.1 :: st) (u.1 + 1, u.2 + bh_ln h.1) (h.1 + 1, bh_upr h.2.1 h.1 (fun _ => none), bh_upr h.2.2.1 h.1 (fun _ => 0), h.2.2.2)) : bh_MP g m0 p l e R S0 m args below meth c Qf pc lv st u h := by
  obtain ⟨hx, hb, hml, hown, hts, hm0, hE, hR, hB, hini⟩ := id cx
  obtain ⟨h1, htg, hci, hc1, hc2, H1⟩ := H1
  cases htc : bh_cls[a]? with
  | none => rw [htc] at hok; cases hok
  | some t =>
    rw [htc] at hok
    dsimp only at hok
    simp only [bh_d3, bh_dc, Bool.and_eq_true, decide_eq_true_eq] at hok
    obtain ⟨⟨⟨⟨rfl, hd⟩, hw1⟩, hw2⟩, hw3⟩ := hok
    obtain ⟨hu1, hu2, hu3, hu4⟩ := bh_uok_of htc
    have hln : t.2.2 = bh_ln h.1 := bh_pln (by rw [htg]; exact htc)
    intro H locs ls hP hS hN hX hl
    refine bh_size hP hS hB hN (fun hsz => ?_)
    have hKn := hE.1.1 a _ htc
    refine W.newcK hx hb hown (hts _ (bh_at_WS hw1)) (hts _ (bh_at_WS hw2)) (hts _ (bh_at_WS hw3)) rfl hd (by rw [hR.2.2.1]; exact hc1) (by rw [hR.2.2.2, hln]; exact hc2) hKn.2.1 rfl fun H2 kC hkC e1 z1 o1 => ?_
    have hk : ∀ (k : Nat) (x : Nat × va_E), (bh_ws g h)[k]? = some x → H2[x.1]? = H[x.1]? := fun k x hx => o1 x.1 ((hP k x hx).lt)
    have hS2 : va_S (bh_rg g) S0.heap H2 locs := ⟨Nat.le_trans hS.1 (by omega), fun x h1 h2 => (o1 x (Nat.lt_of_lt_of_le h1 hS.1)).trans (hS.2.1 x h1 h2), hS.2.2⟩
    have hP2 : va_P (bh_gD g) bh_cls (bh_ws g (h.1 + 1, bh_upr h.2.1 h.1 (fun _ => none), bh_upr h.2.2.1 h.1 (fun _ => 0), h.2.2.2)) H2 := by
      rw [← bh_ws_push (g := g) (h := h) (h' := (h.1 + 1, bh_upr h.2.1 h.1 (fun _ => none), bh_upr h.2.2.1 h.1 (fun _ => 0), h.2.2.2)) rfl (bh_E_obj htg hci) (fun j hj => bh_E_congr (bh_upr_ne _ _ (by omega)) (bh_upr_ne _ _ (by omega)) rfl)]
      refine (hP.kept hk).app (fun k x hx => ?_)
      have hz : k < 1 := (List.getElem?_eq_some_iff.mp hx).1
      rw [show k = 0 by omega] at hx
      cases hx
      refine ⟨_, htc, ?_⟩
      rw [← hsz]
      refine (u_born (bh_ty a) hts hu1 hKn hkC e1 hu2).to (fun j hj => ?_)
      unfold vp_V
      rw [List.getD_eq_getElem?_getD, bh_fs_at (by rw [← hln]; exact hj)]
      show defaultValue (bh_ty a j) = bh_fv g _ a h.1 j
      unfold bh_fv
      cases hf : bh_fr a j with
      | true => rw [((hu3 j hj).1 hf).2]; dsimp only; rw [if_pos rfl, bh_upr_self]; rfl
      | false => rw [(hu3 j hj).2 hf]; dsimp only; rw [if_neg (by decide), bh_upr_self]; rfl
    have had : Value.ref H.size = bh_tr g (.ref h.1) := by
      show _ = Value.ref (bh_ad g h.1)
      unfold bh_ad
      rw [if_pos h1, hsz]
    rw [had, hln]
    refine H1 H2 locs ls hP2 hS2 (by dsimp only; omega) ⟨(bh_upr_ne _ _ (by omega)).trans hX.1, by show bh_upr h.2.2.1 h.1 _ 1001 0 = _; rw [bh_upr_ne _ _ (by omega)]; exact hX.2.1, by dsimp only; omega⟩ hl
set_option maxHeartbeats 1000000 in
theorem bs_37 (cx : bh_Cx g m0 d p R S0 m args meth c) (hok : (decide (20 ≤ a ∧ a ≤ 23) && decide (len = 2) && bh_dc m0 pc (.newarray (bh_nat a)) 2) = true) (H1 : ∃ n s, st = .int n :: s ∧ h.1 < 1000 ∧ bh_tg h.1 = a ∧ ¬ n < 0 ∧ n.toNatClampNeg = bh_ln h.1 ∧ bh_ln h.1 < 10000 ∧ u.1 + 1 ≤ bh_mc m0 ∧ u.2 + bh_ln h.1 ≤ bh_ms m0 ∧
        (bh_MP g m0 p l e R S0 m args below meth c Qf) (pc + len) lv (.ref h.1 :: s) (u.1 + 1, u.2 + bh_ln h.1) (h.1 + 1, h.2.1, bh_upr h.2.2.1 h.1 (fun _ => 0), bh_upr h.2.2.2 h.1 (fun _ => 0))) : bh_MP g m0 p l e R S0 m args below meth c Qf pc lv st u h := by
  obtain ⟨hx, hb, hml, hown, hts, hm0, hE, hR, hB, hini⟩ := id cx
  obtain ⟨n, sk, rfl, h1, htg, hn, hnl, hlb, hc1, hc2, H1⟩ := H1
  simp only [bh_dc, Bool.and_eq_true, decide_eq_true_eq] at hok
  obtain ⟨⟨har, rfl⟩, hd⟩ := hok
  intro H locs ls hP hS hN hX hl
  refine bh_size hP hS hB hN (fun hsz => ?_)
  have hac : (Jvm.Cond.arrayClass (newarray.typeOf (bh_nat a))).before args S0 = true := by
    have hz : a = 20 ∨ a = 21 ∨ a = 22 ∨ a = 23 := by omega
    rcases hz with rfl | rfl | rfl | rfl
    · exact hts _ bh_arwI
    · exact hts _ bh_arwJ
    · exact hts _ bh_arwB
    · exact hts _ bh_arwZ
  have hcb : bh_ln h.1 * componentBytes (newarray.typeOf (bh_nat a)) ≤ 536870912 := by
    have hz : a = 20 ∨ a = 21 ∨ a = 22 ∨ a = 23 := by omega
    have hc8 : componentBytes (newarray.typeOf (bh_nat a)) ≤ 8 := by rcases hz with rfl | rfl | rfl | rfl <;> decide
    exact Nat.le_trans (Nat.mul_le_mul (Nat.le_of_lt hlb) hc8) (by decide)
  refine va_newaK (g := F0 m pc ls (.int n :: sk.map (bh_tr g))) hx hb hac rfl hd rfl hn hnl hcb (by rw [hR.2.2.1]; exact hc1) (by rw [hR.2.2.2]; exact hc2) rfl fun H2 cA e1 z1 o1 hAr hNm => ?_
  have hk : ∀ (k : Nat) (x : Nat × va_E), (bh_ws g h)[k]? = some x → H2[x.1]? = H[x.1]? := fun k x hx => o1 x.1 ((hP k x hx).lt)
  have hS2 : va_S (bh_rg g) S0.heap H2 locs := ⟨Nat.le_trans hS.1 (by omega), fun x h1 h2 => (o1 x (Nat.lt_of_lt_of_le h1 hS.1)).trans (hS.2.1 x h1 h2), hS.2.2⟩
  have hcA : cA = bh_gA g a := by
    have hz : a = 20 ∨ a = 21 ∨ a = 22 ∨ a = 23 := by omega
    rcases hz with rfl | rfl | rfl | rfl
    · exact Option.some.inj ((show S0.vm.findClass ("[" ++ FieldType.int.toString) = some cA from hNm).symm.trans (hE.1.2 0 (bh_gA g 20, .int) rfl).2)
    · exact Option.some.inj ((show S0.vm.findClass ("[" ++ FieldType.long.toString) = some cA from hNm).symm.trans (hE.1.2 1 (bh_gA g 21, .long) rfl).2)
    · exact Option.some.inj ((show S0.vm.findClass ("[" ++ FieldType.byte.toString) = some cA from hNm).symm.trans (hE.1.2 2 (bh_gA g 22, .byte) rfl).2)
    · exact Option.some.inj ((show S0.vm.findClass ("[" ++ FieldType.boolean.toString) = some cA from hNm).symm.trans (hE.1.2 3 (bh_gA g 23, .boolean) rfl).2)
  have hP2 : va_P (bh_gD g) bh_cls (bh_ws g (h.1 + 1, h.2.1, bh_upr h.2.2.1 h.1 (fun _ => 0), bh_upr h.2.2.2 h.1 (fun _ => 0))) H2 := by
    rw [← bh_ws_push (g := g) (h := h) (h' := (h.1 + 1, h.2.1, bh_upr h.2.2.1 h.1 (fun _ => 0), bh_upr h.2.2.2 h.1 (fun _ => 0))) rfl rfl (fun j hj => bh_E_congr rfl (bh_upr_ne _ _ (by omega)) (bh_upr_ne _ _ (by omega)))]
    refine (hP.kept hk).app (fun k x hx => ?_)
    have hz : k < 1 := (List.getElem?_eq_some_iff.mp hx).1
    rw [show k = 0 by omega] at hx
    cases hx
    have hz : a = 20 ∨ a = 21 ∨ a = 22 ∨ a = 23 := by omega
    rcases hz with rfl | rfl | rfl | rfl
    · rw [bh_E_int htg (Or.inl rfl)]
      show H2[bh_gB g + h.1]? = some (vp_cell _ _)
      rw [← hsz, e1, hcA]
      dsimp only
      rw [bh_upr_self]
      rfl
    · rw [bh_E_long htg]
      show H2[bh_gB g + h.1]? = some (vp_cell _ _)
      rw [← hsz, e1, hcA]
      dsimp only
      rw [bh_upr_self]
      rfl
    · rw [bh_E_int htg (Or.inr (Or.inl rfl))]
      show H2[bh_gB g + h.1]? = some (vp_cell _ _)
      rw [← hsz, e1, hcA]
      dsimp only
      rw [bh_upr_self]
      rfl
    · rw [bh_E_int htg (Or.inr (Or.inr rfl))]
      show H2[bh_gB g + h.1]? = some (vp_cell _ _)
      rw [← hsz, e1, hcA]
      dsimp only
      rw [bh_upr_self]
      rfl
  have had : Value.ref H.size = bh_tr g (.ref h.1) := by
    show _ = Value.ref (bh_ad g h.1)
    unfold bh_ad
    rw [if_pos h1, hsz]
  rw [had]
  refine H1 H2 locs ls hP2 hS2 (by dsimp only; omega) ⟨(bh_upr_ne _ _ (by omega)).trans hX.1, by show bh_upr h.2.2.1 h.1 _ 1001 0 = _; rw [bh_upr_ne _ _ (by omega)]; exact hX.2.1, by dsimp only; omega⟩ hl
set_option maxHeartbeats 1000000 in
theorem bs_38 (cx : bh_Cx g m0 d p R S0 m args meth c) (hok : (bh_d3 m0 pc len (.anewarray cn.toNat) && bh_at (l9.getD 0 0) (.classLink (bh_O m0) cn.toNat "BorrowedHands$Town")) = true) (H1 : ∃ n s, st = .int n :: s ∧ h.1 < 1000 ∧ bh_tg h.1 = 24 ∧ ¬ n < 0 ∧ n.toNatClampNeg = bh_ln h.1 ∧ bh_ln h.1 < 10000 ∧ u.1 + 1 ≤ bh_mc m0 ∧ u.2 + bh_ln h.1 ≤ bh_ms m0 ∧
        (bh_MP g m0 p l e R S0 m args below meth c Qf) (pc + len) lv (.ref h.1 :: s) (u.1 + 1, u.2 + bh_ln h.1) (h.1 + 1, bh_upr h.2.1 h.1 (fun _ => none), h.2.2.1, h.2.2.2)) : bh_MP g m0 p l e R S0 m args below meth c Qf pc lv st u h := by
  obtain ⟨hx, hb, hml, hown, hts, hm0, hE, hR, hB, hini⟩ := id cx
  obtain ⟨n, sk, rfl, h1, htg, hn, hnl, hlb, hc1, hc2, H1⟩ := H1
  simp only [bh_d3, bh_dc, Bool.and_eq_true, decide_eq_true_eq] at hok
  obtain ⟨⟨rfl, hd⟩, hw⟩ := hok
  intro H locs ls hP hS hN hX hl
  refine bh_size hP hS hB hN (fun hsz => ?_)
  refine W.anew (g := F0 m pc ls (.int n :: sk.map (bh_tr g))) hx hb hown (hts _ (bh_at_WS hw)) (va_AO.use hE.2.2.1) rfl hd rfl hn (by omega) (by rw [hR.2.2.1]; exact hc1) (by rw [hR.2.2.2, hnl]; exact hc2) fun cA kA comp f1 f2 f3 f4 => ?_
  generalize hH2 : H.push ({ cls := cA, slots := Array.replicate n.toNatClampNeg .null, vm := .none } : Cell) = H2
  have z1 : H2.size = H.size + 1 := by rw [← hH2, Array.size_push]
  have e1 : H2[H.size]? = some (arrV cA n.toNatClampNeg (fun _ => .null)) := by rw [← hH2, Array.getElem?_push_size, ← arrV_new]
  have o1 : ∀ q : Nat, q < H.size → H2[q]? = H[q]? := fun q hq => by rw [← hH2, Array.getElem?_push, if_neg (Nat.ne_of_lt hq)]
  have hk : ∀ (k : Nat) (x : Nat × va_E), (bh_ws g h)[k]? = some x → H2[x.1]? = H[x.1]? := fun k x hx => o1 x.1 ((hP k x hx).lt)
  have hS2 : va_S (bh_rg g) S0.heap H2 locs := ⟨Nat.le_trans hS.1 (by omega), fun x h1 h2 => (o1 x (Nat.lt_of_lt_of_le h1 hS.1)).trans (hS.2.1 x h1 h2), hS.2.2⟩
  have hcA : cA = bh_gA g 24 := by
    obtain ⟨_, _, _, _, _, hz⟩ := (hE.1.2 4 (bh_gA g 24, .object "BorrowedHands$Town") rfl).2
    exact Option.some.inj (f1.symm.trans hz)
  have hP2 : va_P (bh_gD g) bh_cls (bh_ws g (h.1 + 1, bh_upr h.2.1 h.1 (fun _ => none), h.2.2.1, h.2.2.2)) H2 := by
    rw [← bh_ws_push (g := g) (h := h) (h' := (h.1 + 1, bh_upr h.2.1 h.1 (fun _ => none), h.2.2.1, h.2.2.2)) rfl (bh_E_ref htg) (fun j hj => bh_E_congr (bh_upr_ne _ _ (by omega)) rfl rfl)]
    refine (hP.kept hk).app (fun k x hx => ?_)
    have hz : k < 1 := (List.getElem?_eq_some_iff.mp hx).1
    rw [show k = 0 by omega] at hx
    cases hx
    show H2[bh_gB g + h.1]? = some (vp_cell _ _)
    rw [← hsz, e1, hcA, hnl]
    dsimp only
    rw [bh_upr_self]
    rfl
  have had : Value.ref H.size = bh_tr g (.ref h.1) := by
    show _ = Value.ref (bh_ad g h.1)
    unfold bh_ad
    rw [if_pos h1, hsz]
  rw [had, hnl]
  refine H1 H2 locs ls hP2 hS2 (by dsimp only; omega) ⟨hX.1, hX.2.1, by dsimp only; omega⟩ hl
set_option maxHeartbeats 1000000 in
theorem bs_39 (cx : bh_Cx g m0 d p R S0 m args meth c) (hd1 : 1 ≤ d) (hok : (bh_d3 m0 pc len (.invokespecial cn.toNat) && bh_at (l9.getD 0 0) (.methodLink (bh_O m0) cn.toNat Lib.objectInit)) = true) (H1 : ∃ k s, st = .ref k :: s ∧ bh_catsum s ≤ 8 ∧ (bh_MP g m0 p l e R S0 m args below meth c Qf) (pc + len) lv s u h) : bh_MP g m0 p l e R S0 m args below meth c Qf pc lv st u h := by
  obtain ⟨hx, hb, hml, hown, hts, hm0, hE, hR, hB, hini⟩ := id cx
  obtain ⟨k, sk, rfl, hcs, H1⟩ := H1
  simp only [bh_d3, bh_dc, Bool.and_eq_true, decide_eq_true_eq] at hok
  obtain ⟨⟨rfl, hd⟩, hw⟩ := hok
  intro H locs ls hP hS hN hX hl
  refine W.objInit (g := F0 m pc ls (.ref (bh_ad g k) :: sk.map (bh_tr g))) hx hb hown (hts _ (bh_at_WS hw)) (hts _ bh_objI) (hts _ bh_objC) rfl (by rw [hml]; exact hl.1) rfl hd (by omega) (by
    show 2 * 0 + ((sk.map (bh_tr g)).map fun v => v.category).sum + 12 ≤ _
    rw [bh_catmap]
    omega) (H1 H locs ls hP hS hN hX hl)
set_option maxHeartbeats 1000000 in
theorem bs_49 (cx : bh_Cx g m0 d p R S0 m args meth c) (hd1 : 1 ≤ d) (hok : (bh_d3 m0 pc len (.invokestatic cn.toNat) && bh_at (l9.getD 0 0) (.methodLink (bh_O m0) cn.toNat Lib.Math.max.name)) = true) (H1 : ∃ x y s, st = .int y :: .int x :: s ∧ bh_catsum s ≤ 8 ∧ (u.1 ≤ bh_mc m0 ∧ u.2 ≤ bh_ms m0) ∧ (bh_MP g m0 p l e R S0 m args below meth c Qf) (pc + len) lv (.int (if x < y then y else x) :: s) u h) : bh_MP g m0 p l e R S0 m args below meth c Qf pc lv st u h := by
  obtain ⟨hx, hb, hml, hown, hts, hm0, hE, hR, hB, hini⟩ := id cx
  obtain ⟨x, y, sk, rfl, hcs, hcu, H1⟩ := H1
  simp only [bh_d3, bh_dc, Bool.and_eq_true, decide_eq_true_eq] at hok
  obtain ⟨⟨rfl, hd⟩, hw⟩ := hok
  intro H locs ls hP hS hN hX hl
  exact va_mmax hx hb (by rw [hml]; exact hl.1.symm) hown (hts _ (bh_at_WS hw)) (hts _ bh_maxS) (hts _ bh_mathI) (hts _ bh_maxC) (by omega) (by rw [bh_catmap]; omega) (by rw [hR.2.2.1]; exact hcu.1) (by rw [hR.2.2.2]; exact hcu.2) hd (H1 H locs ls hP hS hN hX hl)
set_option maxHeartbeats 1000000 in
theorem bs_50 (cx : bh_Cx g m0 d p R S0 m args meth c) (hd1 : 1 ≤ d) (hok : (bh_d3 m0 pc len (.invokestatic cn.toNat) && bh_at (l9.getD 0 0) (.methodLink (bh_O m0) cn.toNat Lib.Math.min.name)) = true) (H1 : ∃ x y s, st = .int y :: .int x :: s ∧ bh_catsum s ≤ 8 ∧ (u.1 ≤ bh_mc m0 ∧ u.2 ≤ bh_ms m0) ∧ (bh_MP g m0 p l e R S0 m args below meth c Qf) (pc + len) lv (.int (if y < x then y else x) :: s) u h) : bh_MP g m0 p l e R S0 m args below meth c Qf pc lv st u h := by
  obtain ⟨hx, hb, hml, hown, hts, hm0, hE, hR, hB, hini⟩ := id cx
  obtain ⟨x, y, sk, rfl, hcs, hcu, H1⟩ := H1
  simp only [bh_d3, bh_dc, Bool.and_eq_true, decide_eq_true_eq] at hok
  obtain ⟨⟨rfl, hd⟩, hw⟩ := hok
  intro H locs ls hP hS hN hX hl
  exact va_mmin hx hb (by rw [hml]; exact hl.1.symm) hown (hts _ (bh_at_WS hw)) (hts _ bh_minS) (hts _ bh_mathI) (hts _ bh_minC) (by omega) (by rw [bh_catmap]; omega) (by rw [hR.2.2.1]; exact hcu.1) (by rw [hR.2.2.2]; exact hcu.2) hd (H1 H locs ls hP hS hN hX hl)
set_option maxHeartbeats 1000000 in
theorem bs_48 (cx : bh_Cx g m0 d p R S0 m args meth c) (hd1 : 1 ≤ d) (hok : (bh_d3 m0 pc len (.invokestatic cn.toNat) && bh_at (l9.getD 0 0) (.methodLink (bh_O m0) cn.toNat arraycopyName)) = true) (H1 : ∃ n k s, st = .int n :: .int 0 :: .ref k :: .int 0 :: s ∧ ∃ k0 s0, s = .ref k0 :: s0 ∧ bh_catsum s0 ≤ 8 ∧ k < h.1 ∧ k0 < h.1 ∧ bh_tg k = 20 ∧ bh_tg k0 = 20 ∧ ¬ n < 0 ∧ n.toNatClampNeg ≤ bh_ln k ∧ n.toNatClampNeg ≤ bh_ln k0 ∧ k ≠ k0 ∧
        (bh_MP g m0 p l e R S0 m args below meth c Qf) (pc + len) lv s0 u (h.1, h.2.1, bh_upr h.2.2.1 k (va_cpy (h.2.2.1 k0) (h.2.2.1 k) 0 0 n.toNatClampNeg), h.2.2.2)) : bh_MP g m0 p l e R S0 m args below meth c Qf pc lv st u h := by
  obtain ⟨hx, hb, hml, hown, hts, hm0, hE, hR, hB, hini⟩ := id cx
  obtain ⟨n, k, sk, rfl, k0, s0, rfl, hcs, hk, hk0, htg, htg0, hn, hn1, hn2, hne, H1⟩ := H1
  simp only [bh_d3, bh_dc, Bool.and_eq_true, decide_eq_true_eq] at hok
  obtain ⟨⟨rfl, hd⟩, hw⟩ := hok
  intro H locs ls hP hS hN hX hl
  show W p l e R S0 m args below meth c H locs u.1 u.2 Qf (F0 m pc ls (.int n :: .int 0 :: .ref (bh_ad g k) :: .int 0 :: .ref (bh_ad g k0) :: s0.map (bh_tr g)))
  have he := bh_ws_at g hk
  rw [bh_E_int htg (Or.inl rfl)] at he
  have he0 := bh_ws_at g hk0
  rw [bh_E_int htg0 (Or.inl rfl)] at he0
  rw [bh_ad_own hk hX, bh_ad_own hk0 hX]
  refine va_copyi hx hb (by rw [hml]; exact hl.1.symm) hown (hts _ (bh_at_WS hw)) (hts _ bh_acN) (hts _ bh_acS) (hts _ bh_acI) hE.1 hP (bh_ws_D g h) hS k0 k 0 0 (ty := .int) he0 he rfl rfl rfl (sp := 0) (dp := 0) (by decide) (by decide) hn (by simpa using hn2) (by simpa using hn1) (fun i _ => rfl) (by omega) (by rw [bh_catmap]; exact bh_acW hcs hR.2.1 hd1) hd (fun H2 locs2 hP2 hD2 hS2 => ?_)
  rw [bh_ws_set (h' := (h.1, h.2.1, bh_upr h.2.2.1 k (va_cpy (h.2.2.1 k0) (h.2.2.1 k) 0 0 n.toNatClampNeg), h.2.2.2)) (by rfl) hk (by rw [bh_E_int htg (Or.inl rfl)]; dsimp only; rw [bh_upr_self]; rfl) (fun j hj => bh_E_congr rfl (bh_upr_ne _ _ hj) rfl)] at hP2
  have hk2 := bh_ne_own hk hX
  exact H1 H2 locs2 ls hP2 hS2 hN ⟨(bh_upr_ne _ _ hk2.1).trans hX.1, by show bh_upr h.2.2.1 k _ 1001 0 = _; rw [bh_upr_ne _ _ hk2.2]; exact hX.2.1, hX.2.2⟩ hl
end bh_sound2
end
section
/-! ===== calls ===== -/
theorem bh_ML_law : bh_ML.all (fun q => decide (q.2.2.1 ≠ m_L_law)) = true := by decide +kernel
theorem bh_mok_of {i : Nat} {q : String × Nat × Nat × Nat} (h : bh_ML[i]? = some q) : q.2.2.1 < 261 ∧ q.2.2.1 ≠ m_L_law ∧ Jvm.Cond.initialized (bh_Y q.2.2.1).cls ∈ bh_WS ∧ ((bh_Y q.2.2.1).cls ≠ "java/lang/invoke/MethodHandle" ∧ (bh_Y q.2.2.1).cls ≠ "java/lang/invoke/VarHandle") ∧
    ((q.2.2.2 = 0 ∧ Jvm.Cond.methodLink q.1 q.2.1 (bh_Y q.2.2.1) ∈ bh_WS ∧ Jvm.Cond.instanceMethod (bh_Y q.2.2.1) ∈ bh_WS ∧ Jvm.Cond.selects (bh_Y q.2.2.1).cls (bh_Y q.2.2.1) (bh_Y q.2.2.1) ∈ bh_WS ∧ (parseMethodDescriptor (bh_Y q.2.2.1).desc).map (fun d => d.parameters.length + 1) = some (bh_na q.2.2.1) ∧ (bh_cls[bh_ci q.2.2.1]?).map (fun t => t.1) = some (bh_Y q.2.2.1).cls) ∨
     (q.2.2.2 = 1 ∧ Jvm.Cond.methodLink q.1 q.2.1 (bh_Y q.2.2.1) ∈ bh_WS ∧ Jvm.Cond.static (bh_Y q.2.2.1) ∈ bh_WS ∧ (parseMethodDescriptor (bh_Y q.2.2.1).desc).map (fun d => d.parameters.length) = some (bh_na q.2.2.1)) ∨
     (q.2.2.2 = 2 ∧ Jvm.Cond.methodLink q.1 q.2.1 (bh_Y q.2.2.1) ∈ bh_WS ∧ Jvm.Cond.instanceMethod (bh_Y q.2.2.1) ∈ bh_WS ∧ (bh_Y q.2.2.1).name = "<init>" ∧ bh_rt q.2.2.1 = none ∧ (parseMethodDescriptor (bh_Y q.2.2.1).desc).map (fun d => d.parameters.length + 1) = some (bh_na q.2.2.1)) ∨
     (q.2.2.2 = 3 ∧ Jvm.Cond.static (bh_Y q.2.2.1) ∈ bh_WS ∧ (parseMethodDescriptor (bh_Y q.2.2.1).desc).map (fun d => d.parameters.length) = some (bh_na q.2.2.1)) ∨
     (q.2.2.2 = 4 ∧ Jvm.Cond.instanceMethod (bh_Y q.2.2.1) ∈ bh_WS ∧ (bh_Y q.2.2.1).name = "<init>" ∧ bh_rt q.2.2.1 = none ∧ (parseMethodDescriptor (bh_Y q.2.2.1).desc).map (fun d => d.parameters.length + 1) = some (bh_na q.2.2.1))) := by
  have hlen : bh_ML.length = 291 := by decide +kernel
  have hi : i < 291 := by
    have := (List.getElem?_eq_some_iff.mp h).1
    rw [hlen] at this
    exact this
  have h1 := mok_all hi
  unfold bh_mok at h1
  rw [h] at h1
  have hlaw : q.2.2.1 ≠ m_L_law := of_decide_eq_true (List.all_eq_true.mp bh_ML_law q (List.mem_of_getElem? h))
  cases hp : bh_MLp[i]? with
  | none => rw [hp] at h1; cases h1
  | some w =>
    rw [hp] at h1
    dsimp only at h1
    simp only [Bool.and_eq_true] at h1
    obtain ⟨⟨⟨h2, h3⟩, h4⟩, h5⟩ := h1
    unfold bh_mh at h4
    simp only [Bool.and_eq_true, decide_eq_true_eq] at h4
    refine ⟨of_decide_eq_true h2, hlaw, bh_at_WS h3, h4, ?_⟩
    split at h5
    next e =>
      simp only [Bool.and_eq_true, decide_eq_true_eq] at h5
      obtain ⟨⟨⟨⟨a1, a2⟩, a3⟩, a4⟩, a5⟩ := h5
      exact Or.inl ⟨e, bh_at_WS a1, bh_at_WS a2, bh_at_WS a3, a4, a5⟩
    next e =>
      simp only [Bool.and_eq_true, decide_eq_true_eq] at h5
      obtain ⟨⟨a1, a2⟩, a3⟩ := h5
      exact Or.inr (Or.inl ⟨e, bh_at_WS a1, bh_at_WS a2, a3⟩)
    next e =>
      simp only [Bool.and_eq_true, decide_eq_true_eq] at h5
      obtain ⟨⟨⟨⟨a1, a2⟩, a3⟩, a4⟩, a5⟩ := h5
      exact Or.inr (Or.inr (Or.inl ⟨e, bh_at_WS a1, bh_at_WS a2, a3, a4, a5⟩))
    next e =>
      simp only [Bool.and_eq_true, decide_eq_true_eq] at h5
      obtain ⟨⟨a1, a2⟩, a3⟩ := h5
      exact Or.inr (Or.inr (Or.inr (Or.inl ⟨e, bh_at_WS a2, a3⟩)))
    next e =>
      simp only [Bool.and_eq_true, decide_eq_true_eq] at h5
      obtain ⟨⟨⟨⟨a1, a2⟩, a3⟩, a4⟩, a5⟩ := h5
      exact Or.inr (Or.inr (Or.inr (Or.inr ⟨e, bh_at_WS a2, a3, a4, a5⟩)))
    next => cases h5
theorem bh_par {y : MethodName} {n : Nat} (h : (parseMethodDescriptor y.desc).map (fun d => d.parameters.length + 1) = some (n + 1)) : (parseMethodDescriptor y.desc).map (fun d => d.parameters.length) = some n := by
  cases hp : parseMethodDescriptor y.desc with
  | none => rw [hp] at h; cases h
  | some sg =>
    rw [hp] at h
    have h2 : sg.parameters.length + 1 = n + 1 := Option.some.inj h
    show some sg.parameters.length = some n
    rw [Nat.succ.inj h2]
theorem bh_mL40 {m : Nat} (hm : m < 261) : bh_mL m ≤ 40 := by
  have h1 := cok_all hm
  unfold bh_cok at h1
  simp only [Bool.and_eq_true, decide_eq_true_eq] at h1
  exact h1.1.1.2
theorem bh_plain {m : Nat} (hm : m < 261) : plainName (bh_Y m).cls = true := by
  have h1 := cok_all hm
  unfold bh_cok at h1
  simp only [Bool.and_eq_true, decide_eq_true_eq] at h1
  exact h1.1.1.1
theorem bh_rmap (g : bh_G) (r : Option Value) (s : List Value) : (r.map (bh_tr g)).toList ++ s.map (bh_tr g) = (r.toList ++ s).map (bh_tr g) := by cases r <;> rfl
section bh_sound3
variable {g : bh_G} {m0 d : Nat} {p : Program} {l : Launch} {e : Env} {R : Room} {S0 : State} {m : MethodId} {args : Array Value} {below : List Frame} {meth : Method} {c : Code} {Qf : State → Prop} {pc len a : Nat} {cn : Int} {l9 : List Nat} {lv st : List Value} {u : Nat × Nat} {h : bh_H} {call : Nat → List Value → bh_H → bh_Q → Prop}
set_option maxHeartbeats 1000000 in
theorem bs_40 (cx : bh_Cx g m0 d p R S0 m args meth c) {d0 : Nat} (hd0 : d0 + 9 ≤ d) (hcall : ∀ m1 As h Q, m1 < 261 → m1 ≠ m_L_law → call m1 As h Q → bh_Mt g l d0 m1 As h Q) (hok : (match bh_ML[a]? with
      | some q => decide (q.1 = bh_O m0) && bh_d3 m0 pc len (match q.2.2.2 with
        | 0 => .invokevirtual q.2.1
        | 1 => .invokestatic q.2.1
        | 2 => .invokespecial q.2.1
        | 3 => .invokestatic q.2.1
        | _ => .invokespecial q.2.1)
      | none => false) = true) (H1 : ∃ q As s, bh_ML[a]? = some q ∧ st = As.reverse ++ s ∧ As.length = bh_na q.2.2.1 ∧ bh_catsum s ≤ 8 ∧ u.1 + bh_mc q.2.2.1 ≤ bh_mc m0 ∧ u.2 + bh_ms q.2.2.1 ≤ bh_ms m0 ∧
        (q.2.2.2 = 0 → ∃ k Bs, As = .ref k :: Bs ∧ k < h.1 ∧ bh_tg k = bh_ci q.2.2.1) ∧ (q.2.2.2 = 2 ∨ q.2.2.2 = 4 → ∃ k Bs, As = .ref k :: Bs) ∧
        call q.2.2.1 As h (fun r h' => h'.1 = h.1 + bh_mc q.2.2.1 ∧ (bh_MP g m0 p l e R S0 m args below meth c Qf) (pc + len) lv (r.toList ++ s) (u.1 + bh_mc q.2.2.1, u.2 + bh_ms q.2.2.1) h')) : bh_MP g m0 p l e R S0 m args below meth c Qf pc lv st u h := by
  obtain ⟨hx, hb, hml, hown, hts, hm0, hE, hR, hB, hini⟩ := id cx
  obtain ⟨q, As, sk, hq, rfl, hna, hcs, hc1, hc2, hk0, hk2, H1⟩ := H1
  rw [hq] at hok
  dsimp only at hok
  simp only [bh_d3, bh_dc, Bool.and_eq_true, decide_eq_true_eq] at hok
  obtain ⟨ho, rfl, hd⟩ := hok
  obtain ⟨hm1, hm2, hw1, hw2, hw3⟩ := bh_mok_of hq
  have hM := hcall _ _ _ _ hm1 hm2 H1
  unfold bh_Mt at hM
  have h40 := bh_mL40 hm1
  intro H locs ls hP hS hN hX hl
  refine bh_size hP hS hB hN (fun hsz => ?_)
  have hown2 := hown
  rw [← ho] at hown2
  have hG := bh_good _ hm1 hm2
  have hRR : (bh_rm d0 q.2.2.1).frames + 1 ≤ R.frames ∧ 8 + (bh_mL q.2.2.1 + 11) + (bh_rm d0 q.2.2.1).locals ≤ R.locals := by
    show d0 + 8 + 1 ≤ R.frames ∧ 8 + (bh_mL q.2.2.1 + 11) + 64 * (d0 + 8) ≤ R.locals
    omega
  have hf : u.1 + bh_mc q.2.2.1 ≤ R.cells ∧ u.2 + bh_ms q.2.2.1 ≤ R.slots := by
    rw [hR.2.2.1, hR.2.2.2]
    exact ⟨hc1, hc2⟩
  have hPc : ∀ U : State, U.heap = H → S0.WarmedH U.vm → bh_Pc g As h (As.map (bh_tr g)).toArray U := by
    intro U hU hW
    refine ⟨rfl, by rw [hU, hsz], by rw [hU]; exact hP, ?_, hX⟩
    rw [hU]
    exact bh_Ext_warm hW (bh_Ext_kept (fun z hz => hS.2.1 z (Nat.lt_of_lt_of_le hz hB) (show ¬ bh_gB g ≤ z by omega)) hE)
  have hW8 : 2 * (F0 m pc ls ((As.reverse ++ sk).map (bh_tr g))).monitorRoom + ((sk.map (bh_tr g)).map fun v => v.category).sum ≤ 8 := by
    rw [bh_catmap]
    show 2 * 0 + _ ≤ 8
    omega
  have hback : ∀ (r : Option Value) (h' : bh_H) (H2 : Heap) (locs2 : List Loc), (h'.1 = h.1 + bh_mc q.2.2.1 ∧ bh_MP g m0 p l e R S0 m args below meth c Qf (pc + 3) lv (r.toList ++ sk) (u.1 + bh_mc q.2.2.1, u.2 + bh_ms q.2.2.1) h') → va_P (bh_gD g) bh_cls (bh_ws g h') H2 → bh_scr g h' → va_S (bh_rg g) S0.heap H2 locs2 → W p l e R S0 m args below meth c H2 locs2 (u.1 + bh_mc q.2.2.1) (u.2 + bh_ms q.2.2.1) Qf (F0 m (pc + 3) ls ((r.map (bh_tr g)).toList ++ sk.map (bh_tr g))) := by
    intro r h' H2 locs2 hq2 hP2 hX2 hS2
    rw [bh_rmap]
    exact hq2.2 H2 locs2 ls hP2 hS2 (by rw [hq2.1]; dsimp only; omega) hX2 hl
  rcases hw3 with ⟨hk, w1, w2, w3, w4, w5⟩ | ⟨hk, w1, w2, w4⟩ | ⟨hk, w1, w2, w3, w5, w4⟩ | ⟨hk, w2, w4⟩ | ⟨hk, w2, w3, w5, w4⟩
  · obtain ⟨k, Bs, rfl, hkN, htg⟩ := hk0 hk
    rw [hk] at hd
    have hn2 : (parseMethodDescriptor (bh_Y q.2.2.1).desc).map (fun d => d.parameters.length) = some Bs.length := by
      rw [← hna] at w4
      exact bh_par w4
    cases hcc : bh_cls[bh_ci q.2.2.1]? with
    | none => rw [hcc] at w5; cases w5
    | some t =>
      rw [hcc] at w5
      have htn : t.1 = (bh_Y q.2.2.1).cls := Option.some.inj w5
      have hci : bh_ci q.2.2.1 < 20 := Nat.lt_of_lt_of_le (bh_cls_of hcc) (by decide)
      have he := bh_ws_at g hkN
      rw [bh_E_obj htg hci] at he
      have hrec := va_recv hE.1 hP hcc he
      rw [htn] at hrec
      have had : bh_ad g k = bh_gB g + k := bh_ad_own hkN hX
      refine bh_callW (va_runV (As := Bs.map (bh_tr g)) (b := bh_gB g + k) (rest := sk.map (bh_tr g)) (Ts := bh_WS) (n := Bs.length) ⟨hx, hb, hml, hown2, hts⟩ hM ⟨callB_of (bytes := bh_B q.2.2.1) (maxL := bh_mL q.2.2.1) (ret := bh_rt q.2.2.1) _ hts hG rfl rfl rfl (hts _ hw1) (hts _ w1) ⟨hw2.1, hw2.2, hn2⟩ hRR, hts _ w2, hts _ w3⟩ ⟨bh_Pc_blind _ _ _, hrec, ?_⟩ rfl (by simp) hl.1 ?_ hW8 hd hf) hS hback
      · intro U hU hW
        have := hPc U hU hW
        rw [← had]
        exact this
      · rw [← had]
        simp [bh_tr]
  · rw [hk] at hd
    refine bh_callW (va_runS (As := As.map (bh_tr g)) (rest := sk.map (bh_tr g)) (Ts := bh_WS) (n := As.length) ⟨hx, hb, hml, hown2, hts⟩ hM ⟨callB_of (bytes := bh_B q.2.2.1) (maxL := bh_mL q.2.2.1) (ret := bh_rt q.2.2.1) _ hts hG rfl rfl rfl (hts _ hw1) (hts _ w1) ⟨hw2.1, hw2.2, by rw [hna]; exact w4⟩ hRR, hts _ w2⟩ ⟨bh_Pc_blind _ _ _, hPc⟩ rfl (by simp) hl.1 (by simp) hW8 hd hf) hS hback
  · obtain ⟨k, Bs, rfl⟩ := hk2 (Or.inl hk)
    rw [hk] at hd
    have hn2 : (parseMethodDescriptor (bh_Y q.2.2.1).desc).map (fun d => d.parameters.length) = some Bs.length := by
      rw [← hna] at w4
      exact bh_par w4
    have hG' := hG
    unfold bh_wsm at hG'
    rw [w5] at hG'
    have hM' := hM
    unfold bh_wsm at hM'
    rw [w5] at hM'
    refine bh_callW (va_runI (As := Bs.map (bh_tr g)) (b := bh_ad g k) (rest := sk.map (bh_tr g)) (Ts := bh_WS) (n := Bs.length) ⟨hx, hb, hml, hown2, hts⟩ hM' ⟨callB_of (bytes := bh_B q.2.2.1) (maxL := bh_mL q.2.2.1) (ret := none) _ hts hG' rfl rfl rfl (hts _ hw1) (hts _ w1) ⟨hw2.1, hw2.2, hn2⟩ hRR, w3, hts _ w2⟩ ⟨bh_Pc_blind _ _ _, hPc⟩ rfl (by simp) hl.1 (by simp [bh_tr]) hW8 hd hf) hS hback
  · rw [hk] at hd
    have hnw := hE.2.1 q (List.mem_of_getElem? hq) (Or.inl hk)
    refine bh_callW (va_runSN (As := As.map (bh_tr g)) (rest := sk.map (bh_tr g)) (Ts := bh_WS) (n := As.length) ⟨hx, hb, hml, hown2, hts⟩ hM ⟨va_cnB (bytes := bh_B q.2.2.1) (maxL := bh_mL q.2.2.1) (ret := bh_rt q.2.2.1) _ hts hG rfl rfl rfl hnw (hts _ hw1) ⟨hw2.1, hw2.2, by rw [hna]; exact w4⟩ hRR, hts _ w2, trivial⟩ ⟨bh_Pc_blind _ _ _, hPc⟩ rfl (by simp) hl.1 (by simp) hW8 hd hf) hS hback
  · obtain ⟨k, Bs, rfl⟩ := hk2 (Or.inr hk)
    rw [hk] at hd
    have hnw := hE.2.1 q (List.mem_of_getElem? hq) (Or.inr hk)
    have hn2 : (parseMethodDescriptor (bh_Y q.2.2.1).desc).map (fun d => d.parameters.length) = some Bs.length := by
      rw [← hna] at w4
      exact bh_par w4
    have hG' := hG
    unfold bh_wsm at hG'
    rw [w5] at hG'
    have hM' := hM
    unfold bh_wsm at hM'
    rw [w5] at hM'
    refine bh_callW (va_runIN (As := Bs.map (bh_tr g)) (b := bh_ad g k) (rest := sk.map (bh_tr g)) (Ts := bh_WS) (n := Bs.length) ⟨hx, hb, hml, hown2, hts⟩ hM' ⟨va_cnB (bytes := bh_B q.2.2.1) (maxL := bh_mL q.2.2.1) (ret := none) _ hts hG' rfl rfl rfl hnw (hts _ hw1) ⟨hw2.1, hw2.2, hn2⟩ hRR, w3, hts _ w2⟩ ⟨bh_Pc_blind _ _ _, hPc⟩ rfl (by simp) hl.1 (by simp [bh_tr]) hW8 hd hf) hS hback
set_option maxHeartbeats 1000000 in
theorem bs_45 (cx : bh_Cx g m0 d p R S0 m args meth c) (hok : (decide (len = 2) && bh_dc m0 pc (.ldc cn.toNat) 2 && (match bh_ST[a]? with
      | some q => decide (q.1 = bh_O m0 ∧ q.2.1 = cn.toNat)
      | none => false)) = true) (H1 : (bh_MP g m0 p l e R S0 m args below meth c Qf) (pc + len) lv (.ref (1100 + a) :: st) u h) : bh_MP g m0 p l e R S0 m args below meth c Qf pc lv st u h := by
  obtain ⟨hx, hb, hml, hown, hts, hm0, hE, hR, hB, hini⟩ := id cx
  simp only [bh_dc, Bool.and_eq_true, decide_eq_true_eq] at hok
  obtain ⟨⟨rfl, hd⟩, hw⟩ := hok
  cases hq : bh_ST[a]? with
  | none => rw [hq] at hw; cases hw
  | some q =>
    rw [hq] at hw
    dsimp only at hw
    obtain ⟨e1, e2⟩ := of_decide_eq_true hw
    intro H locs ls hP hS hN hX hl
    have hR2 := hE.2.2.2.1 a q hq
    rw [e1, e2] at hR2
    refine va_ldcS hx hb hown hR2 hd ?_
    have had : Value.ref (bh_gX g (1100 + a)) = bh_tr g (.ref (1100 + a)) := by
      show _ = Value.ref (bh_ad g (1100 + a))
      unfold bh_ad
      rw [if_neg (by omega)]
    rw [had]
    exact H1 H locs ls hP hS hN hX hl
set_option maxHeartbeats 1000000 in
theorem bs_46 (cx : bh_Cx g m0 d p R S0 m args meth c) (hd1 : 3 ≤ d) (hok : (bh_d3 m0 pc len (.invokevirtual cn.toNat) && bh_at (l9.getD 0 0) (.methodLink (bh_O m0) cn.toNat yJ0_length_8abf5)) = true) (H1 : ∃ j s, st = .ref (1100 + j) :: s ∧ j < bh_ST.length ∧ bh_catsum s ≤ 8 ∧ (u.1 ≤ bh_mc m0 ∧ u.2 ≤ bh_ms m0) ∧ (bh_MP g m0 p l e R S0 m args below meth c Qf) (pc + len) lv (.int (nI (bh_sl j)) :: s) u h) : bh_MP g m0 p l e R S0 m args below meth c Qf pc lv st u h := by
  obtain ⟨hx, hb, hml, hown, hts, hm0, hE, hR, hB, hini⟩ := id cx
  sorry
set_option maxHeartbeats 1000000 in
theorem bs_47 (cx : bh_Cx g m0 d p R S0 m args meth c) (hd1 : 6 ≤ d) (hok : (bh_d3 m0 pc len (.invokevirtual cn.toNat) && bh_at (l9.getD 0 0) (.methodLink (bh_O m0) cn.toNat yJ0_charAt_5068e)) = true) (H1 : ∃ i j s, st = .int i :: .ref (1100 + j) :: s ∧ j < bh_ST.length ∧ bh_catsum s ≤ 8 ∧ (u.1 ≤ bh_mc m0 ∧ u.2 ≤ bh_ms m0) ∧ vp_in i (bh_sl j) ∧ (bh_MP g m0 p l e R S0 m args below meth c Qf) (pc + len) lv (.int (bh_sc j i.toNatClampNeg) :: s) u h) : bh_MP g m0 p l e R S0 m args below meth c Qf pc lv st u h := by
  obtain ⟨hx, hb, hml, hown, hts, hm0, hE, hR, hB, hini⟩ := id cx
  sorry
end bh_sound3
end
section
/-! ===== soundness: what is so of the picture is so of the machine ===== -/
section bh_sound4
variable {g : bh_G} {m0 d : Nat} {p : Program} {l : Launch} {e : Env} {R : Room} {S0 : State} {m : MethodId} {args : Array Value} {below : List Frame} {meth : Method} {c : Code} {Qf : State → Prop} {call : Nat → List Value → bh_H → bh_Q → Prop} {Q : bh_Q}
set_option maxHeartbeats 4000000 in
theorem bh_sound1 {d0 : Nat} (cx : bh_Cx g m0 (d0 + 9) p R S0 m args meth c) (hcall : ∀ m1 As h Q, m1 < 261 → m1 ≠ m_L_law → call m1 As h Q → bh_Mt g l d0 m1 As h Q)
    (hret : ∀ (r : Option Value) (v : List Value) (pc : Nat) (u : Nat × Nat) (h : bh_H) (H : Heap) (locs : List Loc) (ls : Array Slot), ((∃ x, r = some (.int x) ∧ decode (bh_B m0) pc = .ok (.ireturn, 1) ∧ (bh_rt m0 = some .int ∨ (bh_rt m0 = some .boolean ∧ (x = 0 ∨ x = 1)))) ∨ (∃ x, r = some (.long x) ∧ decode (bh_B m0) pc = .ok (.lreturn, 1) ∧ bh_rt m0 = some .long) ∨ (∃ x, r = some (.ref x) ∧ decode (bh_B m0) pc = .ok (.areturn, 1) ∧ bh_rt m0 = some (.object "java/lang/String")) ∨ (r = none ∧ decode (bh_B m0) pc = .ok (.return_, 1) ∧ bh_rt m0 = none)) →
      (u.1 ≤ bh_mc m0 ∧ u.2 ≤ bh_ms m0) → Q r h → va_P (bh_gD g) bh_cls (bh_ws g h) H → va_S (bh_rg g) S0.heap H locs → bh_scr g h → W p l e R S0 m args below meth c H locs u.1 u.2 Qf (F0 m pc ls (r.map (bh_tr g)).toList)) :
    ∀ pc lv st u h, bh_st m0 call (bh_MP g m0 p l e R S0 m args below meth c Qf) Q pc lv st u h → bh_MP g m0 p l e R S0 m args below meth c Qf pc lv st u h := by
  intro pc lv st u h H1
  have hok := bh_ok_of cx.2.2.2.2.2.1 pc
  unfold bh_st at H1
  unfold bh_ok at hok
  generalize bh_cod m0 pc = q at H1 hok
  obtain ⟨op, len, a, cn, l9⟩ := q
  dsimp only at H1 hok
  split at H1
  · match a, hok with
    | 0, hok => exact bs_1_0 cx hok H1
    | 1, hok => exact bs_1_1 cx hok H1
    | 2, hok => exact bs_1_2 cx hok H1
    | 3, hok => exact bs_1_3 cx hok H1
    | n + 4, hok => exact bs_1_4 cx hok H1
  · match a, hok with
    | 0, hok =>
      have hok : (if cn = 0 then bh_d1 m0 pc len (.lconst 0) else decide (cn = 1) && bh_d1 m0 pc len (.lconst 1)) = true := hok
      split at hok
      next e => subst e; exact bs_2_0 cx hok H1
      next e =>
        simp only [Bool.and_eq_true, decide_eq_true_eq] at hok
        obtain ⟨e1, hok⟩ := hok
        subst e1
        exact bs_2_1 cx hok H1
    | n + 1, hok => exact bs_2_2 cx hok H1
  · exact bs_3 cx hok H1
  · exact bs_4 cx hok H1
  · exact bs_5 cx hok H1
  · exact bs_6 cx hok H1
  · exact bs_7 cx hok H1
  · exact bs_8 cx hok H1
  · exact bs_9 cx hok H1
  · exact bs_10 cx hok H1
  · exact bs_11 cx hok H1
  · exact bs_12 cx hok H1
  · exact bs_13 cx hok H1
  · exact bs_14 cx hok H1
  · exact bs_15 cx hok H1
  · exact bs_16 cx hok H1
  · exact bs_17 cx hok H1
  · exact bs_18 cx hok H1
  · exact bs_19 cx hok H1
  · exact bs_20 cx hok H1
  · exact bs_21 cx hok H1
  · exact bs_22 cx hok H1
  · exact bs_23 cx hok H1
  · exact bs_24 cx hok H1
  · exact bs_25 cx hok H1
  · exact bs_26 cx hok H1
  · exact bs_27 cx hok H1
  · exact bs_28 cx hok H1
  · exact bs_29 cx hok H1
  · exact bs_30 cx hok H1
  · exact bs_31 cx hok H1
  · exact bs_32 cx hok H1
  · exact bs_33 cx hok H1
  · exact bs_34 cx hok H1
  · exact bs_35 cx hok H1
  · exact bs_36 cx hok H1
  · exact bs_37 cx hok H1
  · exact bs_38 cx hok H1
  · exact bs_39 cx (by omega) hok H1
  · exact bs_40 cx (Nat.le_refl _) hcall hok H1
  · obtain ⟨x, rfl, hu, hrt, hq⟩ := H1
    simp only [bh_d1, bh_dc, Bool.and_eq_true, decide_eq_true_eq] at hok
    intro H locs ls hP hS hN hX hl
    exact hret (some (.int x)) [] pc u h H locs ls (Or.inl ⟨x, rfl, hok.2, hrt⟩) hu hq hP hS hX
  · obtain ⟨x, rfl, hu, hrt, hq⟩ := H1
    simp only [bh_d1, bh_dc, Bool.and_eq_true, decide_eq_true_eq] at hok
    intro H locs ls hP hS hN hX hl
    exact hret (some (.long x)) [] pc u h H locs ls (Or.inr (Or.inl ⟨x, rfl, hok.2, hrt⟩)) hu hq hP hS hX
  · obtain ⟨x, rfl, hu, hrt, hq⟩ := H1
    simp only [bh_d1, bh_dc, Bool.and_eq_true, decide_eq_true_eq] at hok
    intro H locs ls hP hS hN hX hl
    exact hret (some (.ref x)) [] pc u h H locs ls (Or.inr (Or.inr (Or.inl ⟨x, rfl, hok.2, hrt⟩))) hu hq hP hS hX
  · obtain ⟨rfl, hu, hrt, hq⟩ := H1
    simp only [bh_d1, bh_dc, Bool.and_eq_true, decide_eq_true_eq] at hok
    intro H locs ls hP hS hN hX hl
    exact hret none [] pc u h H locs ls (Or.inr (Or.inr (Or.inr ⟨rfl, hok.2, hrt⟩))) hu hq hP hS hX
  · exact bs_45 cx hok H1
  · exact bs_46 cx (by omega) hok H1
  · exact bs_47 cx (by omega) hok H1
  · exact bs_48 cx (by omega) hok H1
  · exact bs_49 cx (by omega) hok H1
  · exact bs_50 cx (by omega) hok H1
  · exact H1.elim
end bh_sound4
theorem bh_sl_len (g : bh_G) : ∀ As : List Value, (lg_sl (As.map (bh_tr g))).length = (bh_lay As).length := by
  intro As
  induction As with
  | nil => rfl
  | cons a l ih =>
    cases a <;> simp [lg_sl, bh_lay, bh_tr, Value.category] at ih ⊢ <;> omega
theorem bh_entry {g : bh_G} {m : Nat} {As : List Value} {ls : Array Slot} (h : lv_has ls (bh_mL m) (lv_args 0 (As.map (bh_tr g)))) : lv_has ls (bh_mL m) (bh_pr g (bh_ent m As)) := by
  refine ⟨h.1, h.2.1, fun q hq => h.2.2 q ?_⟩
  obtain ⟨v, hv, hn, he⟩ := bh_pr_mem.mp hq
  obtain ⟨i, w⟩ := q
  dsimp only at hv he
  subst he
  unfold bh_ent at hv
  by_cases hi : i < (bh_lay As).length
  · rw [List.getElem?_append_left hi] at hv
    have := bh_lay_at g As i v 0 hv hn
    rw [Nat.zero_add] at this
    exact this
  · rw [List.getElem?_append_right (by omega)] at hv
    have := List.mem_of_getElem? hv
    rw [List.mem_replicate] at this
    exact absurd this.2 hn
set_option maxHeartbeats 4000000 in
/-- a contract of the picture is a contract of the machine -/
theorem bh_sound (g : bh_G) (l : Launch) : ∀ (d m : Nat) (As : List Value) (h : bh_H) (Q : bh_Q), m < 261 → m ≠ m_L_law → bh_wc d m As h Q → bh_Mt g l d m As h Q := by
  intro d
  induction d with
  | zero => intro m As h Q _ _ H; exact H.elim
  | succ d ih =>
    intro m As h Q hm hL HH
    obtain ⟨hlen, HH⟩ := HH
    unfold bh_Mt
    refine Met.ofW (cc := bh_B m) (maxL := bh_mL m) (ret := bh_rt m) (bh_plain hm) rfl ?_
    intro p e s mm args below meth c s₁ B hml hv
    obtain ⟨rfl, hsz, hP, hE, hX⟩ := hv
    have hr := B.returns
    have hts : ∀ w ∈ bh_wsm m, w.before _ s = true := atoms_spec (ws := bh_wsm m) B.pre
    have hown : s.vm.findClass (bh_O m) = some mm.cls := findClass_of_methodNamed B.named
    have hlocks := B.notSynchronized
    have hname : meth.name = (bh_Y m).name := (name_of_methodNamed B.named B.method).1
    have hb := B.bytes
    have hx := B.exec
    have hl := lv_entry (As.map (bh_tr g)) (n := bh_mL m) (by rw [bh_sl_len]; exact hlen)
    rw [lg_entry_eq]
    generalize (lg_sl (As.map (bh_tr g)) ++ List.replicate (bh_mL m - (lg_sl (As.map (bh_tr g))).length) Slot.unset).toArray = ls at hl ⊢
    have cx : bh_Cx g m (d + 9) p (headSpec (bh_wsm m) (bh_rm (d + 1) m)).room s mm (As.map (bh_tr g)).toArray meth c :=
      ⟨hx, hb, hml, hown, fun w hw => hts w (List.mem_cons_of_mem _ hw), hm, hE, ⟨Nat.le_refl _, Nat.le_refl _, rfl, rfl⟩, by omega, fun e => hname.trans e⟩
    refine HH (bh_MP g m p l e (headSpec (bh_wsm m) (bh_rm (d + 1) m)).room s mm (As.map (bh_tr g)).toArray below meth c (MQ below (bh_Qc g Q) (As.map (bh_tr g)).toArray s (bh_mc m) (bh_ms m) (bh_rg g))) (bh_sound1 cx ih ?_) s.heap [] ls hP va_S.rf hsz hX (bh_entry hl)
    intro r v pc u h' H locs ls' hrr hu hq hP' hS' hX'
    refine W.widen hu.1 hu.2 ?_
    have hqq : ∀ t : State, t.heap = H → s.WarmedH t.vm → bh_Qc g Q (As.map (bh_tr g)).toArray s (.returned (r.map (bh_tr g))) t := fun t ht hW => ⟨⟨r, h', rfl, hq, by rw [ht]; exact hP', hX'⟩, hS'.F ht⟩
    rcases hrr with ⟨x, rfl, hd, hrt⟩ | ⟨x, rfl, hd, hrt⟩ | ⟨x, rfl, hd, hrt⟩ | ⟨rfl, hd, hrt⟩
    · rcases hrt with hrt | ⟨hrt, hx01⟩
      · exact W.iret (v := x) hx hb (hr.trans hrt) hqq hS'.2.2 hd
      · exact W.zret (v := x) (ty := .boolean) hx hb (hr.trans hrt) (by rcases hx01 with rfl | rfl <;> rfl) hqq hS'.2.2 hd
    · exact W.lret (v := x) hx hb (hr.trans hrt) hqq hS'.2.2 hd
    · exact W.aret (v := .ref (bh_ad g x)) hx hb (hr.trans hrt) (Or.inl ⟨_, rfl⟩) (Or.inr ⟨_, rfl⟩) hqq hS'.2.2 hd
    · exact W.vret hx hb (hr.trans hrt) hqq hS'.2.2 hd
end
section
/-! ===== rules of the picture: heaps of the one shape ===== -/
def bh_rfT : List (List (Option Nat)) := [[some 1, some 14, some 27, some 29, some 30, some 31, some 33, some 37, some 38, some 41, some 44, some 47, some 48, none, none, none], [none, none, none, none, none, none, some 2, some 3, some 4, some 5, some 6, some 7, some 8, some 9, some 10, some 11, some 12, some 13], [], [], [], [], [], [], [], [], [], [], [], [], [none, none, none, none, none, none, some 15, some 16, some 17, some 18, some 19, some 20, some 21, some 22, some 23, some 24, some 25, some 26], [], [], [], [], [], [], [], [], [], [], [], [], [some 28], [], [some 49, some 62, some 75, some 88, some 101, some 114, some 127, some 140, some 153, some 166], [some 179, some 192], [some 32], [], [some 34, some 35, some 36], [], [], [], [], [some 39, some 40], [], [], [some 42, some 43], [], [], [some 45, some 46], [], [], [], [], [none, none, none, none, none, none, some 50, some 51, some 52, some 53, some 54, some 55, some 56, some 57, some 58, some 59, some 60, some 61], [], [], [], [], [], [], [], [], [], [], [], [], [none, none, none, none, none, none, some 63, some 64, some 65, some 66, some 67, some 68, some 69, some 70, some 71, some 72, some 73, some 74], [], [], [], [], [], [], [], [], [], [], [], [], [none, none, none, none, none, none, some 76, some 77, some 78, some 79, some 80, some 81, some 82, some 83, some 84, some 85, some 86, some 87], [], [], [], [], [], [], [], [], [], [], [], [], [none, none, none, none, none, none, some 89, some 90, some 91, some 92, some 93, some 94, some 95, some 96, some 97, some 98, some 99, some 100], [], [], [], [], [], [], [], [], [], [], [], [], [none, none, none, none, none, none, some 102, some 103, some 104, some 105, some 106, some 107, some 108, some 109, some 110, some 111, some 112, some 113], [], [], [], [], [], [], [], [], [], [], [], [], [none, none, none, none, none, none, some 115, some 116, some 117, some 118, some 119, some 120, some 121, some 122, some 123, some 124, some 125, some 126], [], [], [], [], [], [], [], [], [], [], [], [], [none, none, none, none, none, none, some 128, some 129, some 130, some 131, some 132, some 133, some 134, some 135, some 136, some 137, some 138, some 139], [], [], [], [], [], [], [], [], [], [], [], [], [none, none, none, none, none, none, some 141, some 142, some 143, some 144, some 145, some 146, some 147, some 148, some 149, some 150, some 151, some 152], [], [], [], [], [], [], [], [], [], [], [], [], [none, none, none, none, none, none, some 154, some 155, some 156, some 157, some 158, some 159, some 160, some 161, some 162, some 163, some 164, some 165], [], [], [], [], [], [], [], [], [], [], [], [], [none, none, none, none, none, none, some 167, some 168, some 169, some 170, some 171, some 172, some 173, some 174, some 175, some 176, some 177, some 178], [], [], [], [], [], [], [], [], [], [], [], [], [none, none, none, none, none, none, some 180, some 181, some 182, some 183, some 184, some 185, some 186, some 187, some 188, some 189, some 190, some 191], [], [], [], [], [], [], [], [], [], [], [], [], [none, none, none, none, none, none, some 193, some 194, some 195, some 196, some 197, some 198, some 199, some 200, some 201, some 202, some 203, some 204], [], [], [], [], [], [], [], [], [], [], [], [], [some 206, some 207, some 208, some 209, some 210, none, some 211, none, none, none, none, some 212, none, some 213, some 214, some 215, some 216, some 217, some 218, some 219, some 220, some 221, some 222, some 223, some 224, none, none, none, none, none, some 225, some 226, some 227]]
def bh_R0 (k j : Nat) : Option Nat := (bh_rfT.getD k []).getD j none
abbrev hp (D : Nat → Nat → Int32) (L : Nat → Nat → Int64) : bh_H := (228, bh_R0, D, L)
/-- a method at a place, on such a heap -/
abbrev bw (m d : Nat) (Q : bh_Q) (pc : Nat) (lv st : List Value) (D : Nat → Nat → Int32) (L : Nat → Nat → Int64) : Prop := bh_wf m (bh_wc d) Q pc lv st (0, 0) (hp D L)
section bh_rules
variable {m d : Nat} {Q : bh_Q} {pc pc' len a : Nat} {c : Int} {l : List Nat} {lv lv' st : List Value} {D : Nat → Nat → Int32} {L : Nat → Nat → Int64}
theorem x_int (hc : bh_cod m pc = (1, len, a, c, l)) (hp0 : pc + len = pc') {v : Int32} (hv : Int32.ofInt c = v) (k : bw m d Q pc' lv (.int v :: st) D L) : bw m d Q pc lv (st) D L := by
  subst hp0
  apply bh_go
  unfold bh_st
  rw [hc]
  subst hv
  exact k
theorem x_long (hc : bh_cod m pc = (2, len, a, c, l)) (hp0 : pc + len = pc') {v : Int64} (hv : Int64.ofInt c = v) (k : bw m d Q pc' lv (.long v :: st) D L) : bw m d Q pc lv (st) D L := by
  subst hp0
  apply bh_go
  unfold bh_st
  rw [hc]
  subst hv
  exact k
theorem x_iload (hc : bh_cod m pc = (3, len, a, c, l)) (hp0 : pc + len = pc') {x : Int32} (hx : lv[a]? = some (.int x)) (k : bw m d Q pc' lv (.int x :: st) D L) : bw m d Q pc lv (st) D L := by
  subst hp0
  apply bh_go
  unfold bh_st
  rw [hc]
  exact ⟨x, hx, k⟩
theorem x_lload (hc : bh_cod m pc = (4, len, a, c, l)) (hp0 : pc + len = pc') {x : Int64} (hx : lv[a]? = some (.long x)) (k : bw m d Q pc' lv (.long x :: st) D L) : bw m d Q pc lv (st) D L := by
  subst hp0
  apply bh_go
  unfold bh_st
  rw [hc]
  exact ⟨x, hx, k⟩
theorem x_aload (hc : bh_cod m pc = (5, len, a, c, l)) (hp0 : pc + len = pc') {x : Nat} (hx : lv[a]? = some (.ref x)) (k : bw m d Q pc' lv (.ref x :: st) D L) : bw m d Q pc lv (st) D L := by
  subst hp0
  apply bh_go
  unfold bh_st
  rw [hc]
  exact ⟨x, hx, k⟩
theorem x_istore (hc : bh_cod m pc = (6, len, a, c, l)) (hp0 : pc + len = pc') {x : Int32} (ha : a < bh_mL m) (hx : bh_sto lv a (.int x) = lv') (k : bw m d Q pc' lv' (st) D L) : bw m d Q pc lv (.int x :: st) D L := by
  subst hp0
  apply bh_go
  unfold bh_st
  rw [hc]
  subst hx
  exact ⟨x, st, rfl, ha, k⟩
theorem x_lstore (hc : bh_cod m pc = (7, len, a, c, l)) (hp0 : pc + len = pc') {x : Int64} (ha : a + 1 < bh_mL m) (hx : bh_stoL lv a (.long x) = lv') (k : bw m d Q pc' lv' (st) D L) : bw m d Q pc lv (.long x :: st) D L := by
  subst hp0
  apply bh_go
  unfold bh_st
  rw [hc]
  subst hx
  exact ⟨x, st, rfl, ha, k⟩
theorem x_astore (hc : bh_cod m pc = (8, len, a, c, l)) (hp0 : pc + len = pc') {x : Nat} (ha : a < bh_mL m) (hx : bh_sto lv a (.ref x) = lv') (k : bw m d Q pc' lv' (st) D L) : bw m d Q pc lv (.ref x :: st) D L := by
  subst hp0
  apply bh_go
  unfold bh_st
  rw [hc]
  subst hx
  exact ⟨x, st, rfl, ha, k⟩
theorem x_iinc (hc : bh_cod m pc = (9, len, a, c, l)) (hp0 : pc + len = pc') {x v w : Int32} (hx : lv[a]? = some (.int x)) (hw : Int32.ofInt c = w) (ha : a < bh_mL m) (hv : x + w = v) (hl : bh_sto lv a (.int v) = lv') (k : bw m d Q pc' lv' (st) D L) : bw m d Q pc lv (st) D L := by
  subst hp0
  apply bh_go
  unfold bh_st
  rw [hc]
  subst hw
  subst hv
  subst hl
  exact ⟨x, hx, ha, k⟩
theorem x_iadd {x y : Int32} (hc : bh_cod m pc = (10, len, 0, c, l)) (hp0 : pc + len = pc') (k : bw m d Q pc' lv (.int (x + y) :: st) D L) : bw m d Q pc lv (.int y :: .int x :: st) D L := by
  subst hp0
  apply bh_go
  unfold bh_st
  rw [hc]
  exact ⟨x, y, st, rfl, k⟩
theorem x_isub {x y : Int32} (hc : bh_cod m pc = (10, len, 1, c, l)) (hp0 : pc + len = pc') (k : bw m d Q pc' lv (.int (x - y) :: st) D L) : bw m d Q pc lv (.int y :: .int x :: st) D L := by
  subst hp0
  apply bh_go
  unfold bh_st
  rw [hc]
  exact ⟨x, y, st, rfl, k⟩
theorem x_imul {x y : Int32} (hc : bh_cod m pc = (10, len, 2, c, l)) (hp0 : pc + len = pc') (k : bw m d Q pc' lv (.int (x * y) :: st) D L) : bw m d Q pc lv (.int y :: .int x :: st) D L := by
  subst hp0
  apply bh_go
  unfold bh_st
  rw [hc]
  exact ⟨x, y, st, rfl, k⟩
theorem x_iand {x y : Int32} (hc : bh_cod m pc = (10, len, 3, c, l)) (hp0 : pc + len = pc') (k : bw m d Q pc' lv (.int (x &&& y) :: st) D L) : bw m d Q pc lv (.int y :: .int x :: st) D L := by
  subst hp0
  apply bh_go
  unfold bh_st
  rw [hc]
  exact ⟨x, y, st, rfl, k⟩
theorem x_ior {x y : Int32} (hc : bh_cod m pc = (10, len, 4, c, l)) (hp0 : pc + len = pc') (k : bw m d Q pc' lv (.int (x ||| y) :: st) D L) : bw m d Q pc lv (.int y :: .int x :: st) D L := by
  subst hp0
  apply bh_go
  unfold bh_st
  rw [hc]
  exact ⟨x, y, st, rfl, k⟩
theorem x_ixor {x y : Int32} (hc : bh_cod m pc = (10, len, 5, c, l)) (hp0 : pc + len = pc') (k : bw m d Q pc' lv (.int (x ^^^ y) :: st) D L) : bw m d Q pc lv (.int y :: .int x :: st) D L := by
  subst hp0
  apply bh_go
  unfold bh_st
  rw [hc]
  exact ⟨x, y, st, rfl, k⟩
theorem x_ishl {x y : Int32} (hc : bh_cod m pc = (10, len, 6, c, l)) (hp0 : pc + len = pc') (k : bw m d Q pc' lv (.int (x <<< (y &&& 31)) :: st) D L) : bw m d Q pc lv (.int y :: .int x :: st) D L := by
  subst hp0
  apply bh_go
  unfold bh_st
  rw [hc]
  exact ⟨x, y, st, rfl, k⟩
theorem x_ishr {x y : Int32} (hc : bh_cod m pc = (10, len, 7, c, l)) (hp0 : pc + len = pc') (k : bw m d Q pc' lv (.int (x >>> (y &&& 31)) :: st) D L) : bw m d Q pc lv (.int y :: .int x :: st) D L := by
  subst hp0
  apply bh_go
  unfold bh_st
  rw [hc]
  exact ⟨x, y, st, rfl, k⟩
theorem x_iushr {x y : Int32} (hc : bh_cod m pc = (10, len, 8, c, l)) (hp0 : pc + len = pc') (k : bw m d Q pc' lv (.int ((x.toUInt32 >>> (y.toUInt32 &&& Int32.toUInt32 31)).toInt32) :: st) D L) : bw m d Q pc lv (.int y :: .int x :: st) D L := by
  subst hp0
  apply bh_go
  unfold bh_st
  rw [hc]
  exact ⟨x, y, st, rfl, k⟩
theorem x_idiv (hc : bh_cod m pc = (11, len, a, c, l)) (hp0 : pc + len = pc') {x y : Int32} (hy : ¬ y = 0) (k : bw m d Q pc' lv (.int (x / y) :: st) D L) : bw m d Q pc lv (.int y :: .int x :: st) D L := by
  subst hp0
  apply bh_go
  unfold bh_st
  rw [hc]
  exact ⟨x, y, st, rfl, hy, k⟩
theorem x_irem (hc : bh_cod m pc = (12, len, a, c, l)) (hp0 : pc + len = pc') {x y : Int32} (hy : ¬ y = 0) (k : bw m d Q pc' lv (.int (x - x / y * y) :: st) D L) : bw m d Q pc lv (.int y :: .int x :: st) D L := by
  subst hp0
  apply bh_go
  unfold bh_st
  rw [hc]
  exact ⟨x, y, st, rfl, hy, k⟩
theorem x_ladd {x y : Int64} (hc : bh_cod m pc = (13, len, 0, c, l)) (hp0 : pc + len = pc') (k : bw m d Q pc' lv (.long (x + y) :: st) D L) : bw m d Q pc lv (.long y :: .long x :: st) D L := by
  subst hp0
  apply bh_go
  unfold bh_st
  rw [hc]
  exact ⟨x, y, st, rfl, k⟩
theorem x_lmul {x y : Int64} (hc : bh_cod m pc = (13, len, 1, c, l)) (hp0 : pc + len = pc') (k : bw m d Q pc' lv (.long (x * y) :: st) D L) : bw m d Q pc lv (.long y :: .long x :: st) D L := by
  subst hp0
  apply bh_go
  unfold bh_st
  rw [hc]
  exact ⟨x, y, st, rfl, k⟩
theorem x_lor {x y : Int64} (hc : bh_cod m pc = (13, len, 2, c, l)) (hp0 : pc + len = pc') (k : bw m d Q pc' lv (.long (x ||| y) :: st) D L) : bw m d Q pc lv (.long y :: .long x :: st) D L := by
  subst hp0
  apply bh_go
  unfold bh_st
  rw [hc]
  exact ⟨x, y, st, rfl, k⟩
theorem x_lshl (hc : bh_cod m pc = (14, len, a, c, l)) (hp0 : pc + len = pc') {x : Int64} {y : Int32} (k : bw m d Q pc' lv (.long (x <<< (y.toInt64 &&& 63)) :: st) D L) : bw m d Q pc lv (.int y :: .long x :: st) D L := by
  subst hp0
  apply bh_go
  unfold bh_st
  rw [hc]
  exact ⟨x, y, st, rfl, k⟩
theorem x_i2l (hc : bh_cod m pc = (15, len, a, c, l)) (hp0 : pc + len = pc') {x : Int32} (k : bw m d Q pc' lv (.long x.toInt64 :: st) D L) : bw m d Q pc lv (.int x :: st) D L := by
  subst hp0
  apply bh_go
  unfold bh_st
  rw [hc]
  exact ⟨x, st, rfl, k⟩
theorem x_i2b (hc : bh_cod m pc = (16, len, a, c, l)) (hp0 : pc + len = pc') {x : Int32} (k : bw m d Q pc' lv (.int x.toInt8.toInt32 :: st) D L) : bw m d Q pc lv (.int x :: st) D L := by
  subst hp0
  apply bh_go
  unfold bh_st
  rw [hc]
  exact ⟨x, st, rfl, k⟩
theorem x_lcmp (hc : bh_cod m pc = (17, len, a, c, l)) (hp0 : pc + len = pc') {x y : Int64} (k : bw m d Q pc' lv (.int (lg_cmp x y) :: st) D L) : bw m d Q pc lv (.long y :: .long x :: st) D L := by
  subst hp0
  apply bh_go
  unfold bh_st
  rw [hc]
  exact ⟨x, y, st, rfl, k⟩
theorem x_dup (hc : bh_cod m pc = (18, len, a, c, l)) (hp0 : pc + len = pc') {v : Value} (hv : v.category = 1) (k : bw m d Q pc' lv (v :: v :: st) D L) : bw m d Q pc lv (v :: st) D L := by
  subst hp0
  apply bh_go
  unfold bh_st
  rw [hc]
  exact ⟨v, st, rfl, hv, k⟩
theorem x_pop (hc : bh_cod m pc = (19, len, a, c, l)) (hp0 : pc + len = pc') {v : Value} (hv : v.category = 1) (k : bw m d Q pc' lv (st) D L) : bw m d Q pc lv (v :: st) D L := by
  subst hp0
  apply bh_go
  unfold bh_st
  rw [hc]
  exact ⟨v, st, rfl, hv, k⟩
theorem x_dup2 (hc : bh_cod m pc = (20, len, a, c, l)) (hp0 : pc + len = pc') {v w : Value} (hv : v.category = 1) (hw : w.category = 1) (k : bw m d Q pc' lv (v :: w :: v :: w :: st) D L) : bw m d Q pc lv (v :: w :: st) D L := by
  subst hp0
  apply bh_go
  unfold bh_st
  rw [hc]
  exact ⟨v, w, st, rfl, hv, hw, k⟩
theorem x_if_eq {x : Int32} (hc : bh_cod m pc = (21, len, a, 0, l)) (hp0 : pc + len = pc') (k1 : x = 0 → bw m d Q a lv st D L) (k2 : ¬ (x = 0) → bw m d Q pc' lv st D L) : bw m d Q pc lv (.int x :: st) D L := by
  subst hp0
  apply bh_go
  unfold bh_st
  rw [hc]
  exact ⟨x, st, rfl, k1, k2⟩
theorem x_ic_eq {x y : Int32} (hc : bh_cod m pc = (22, len, a, 0, l)) (hp0 : pc + len = pc') (k1 : x = y → bw m d Q a lv st D L) (k2 : ¬ (x = y) → bw m d Q pc' lv st D L) : bw m d Q pc lv (.int y :: .int x :: st) D L := by
  subst hp0
  apply bh_go
  unfold bh_st
  rw [hc]
  exact ⟨x, y, st, rfl, k1, k2⟩
theorem x_if_ne {x : Int32} (hc : bh_cod m pc = (21, len, a, 1, l)) (hp0 : pc + len = pc') (k1 : ¬ x = 0 → bw m d Q a lv st D L) (k2 : x = 0 → bw m d Q pc' lv st D L) : bw m d Q pc lv (.int x :: st) D L := by
  subst hp0
  apply bh_go
  unfold bh_st
  rw [hc]
  exact ⟨x, st, rfl, k1, fun h => k2 (Classical.not_not.mp h)⟩
theorem x_ic_ne {x y : Int32} (hc : bh_cod m pc = (22, len, a, 1, l)) (hp0 : pc + len = pc') (k1 : ¬ x = y → bw m d Q a lv st D L) (k2 : x = y → bw m d Q pc' lv st D L) : bw m d Q pc lv (.int y :: .int x :: st) D L := by
  subst hp0
  apply bh_go
  unfold bh_st
  rw [hc]
  exact ⟨x, y, st, rfl, k1, fun h => k2 (Classical.not_not.mp h)⟩
theorem x_if_lt {x : Int32} (hc : bh_cod m pc = (21, len, a, 2, l)) (hp0 : pc + len = pc') (k1 : x < 0 → bw m d Q a lv st D L) (k2 : ¬ (x < 0) → bw m d Q pc' lv st D L) : bw m d Q pc lv (.int x :: st) D L := by
  subst hp0
  apply bh_go
  unfold bh_st
  rw [hc]
  exact ⟨x, st, rfl, k1, k2⟩
theorem x_ic_lt {x y : Int32} (hc : bh_cod m pc = (22, len, a, 2, l)) (hp0 : pc + len = pc') (k1 : x < y → bw m d Q a lv st D L) (k2 : ¬ (x < y) → bw m d Q pc' lv st D L) : bw m d Q pc lv (.int y :: .int x :: st) D L := by
  subst hp0
  apply bh_go
  unfold bh_st
  rw [hc]
  exact ⟨x, y, st, rfl, k1, k2⟩
theorem x_if_ge {x : Int32} (hc : bh_cod m pc = (21, len, a, 3, l)) (hp0 : pc + len = pc') (k1 : 0 ≤ x → bw m d Q a lv st D L) (k2 : ¬ (0 ≤ x) → bw m d Q pc' lv st D L) : bw m d Q pc lv (.int x :: st) D L := by
  subst hp0
  apply bh_go
  unfold bh_st
  rw [hc]
  exact ⟨x, st, rfl, k1, k2⟩
theorem x_ic_ge {x y : Int32} (hc : bh_cod m pc = (22, len, a, 3, l)) (hp0 : pc + len = pc') (k1 : y ≤ x → bw m d Q a lv st D L) (k2 : ¬ (y ≤ x) → bw m d Q pc' lv st D L) : bw m d Q pc lv (.int y :: .int x :: st) D L := by
  subst hp0
  apply bh_go
  unfold bh_st
  rw [hc]
  exact ⟨x, y, st, rfl, k1, k2⟩
theorem x_if_gt {x : Int32} (hc : bh_cod m pc = (21, len, a, 4, l)) (hp0 : pc + len = pc') (k1 : 0 < x → bw m d Q a lv st D L) (k2 : ¬ (0 < x) → bw m d Q pc' lv st D L) : bw m d Q pc lv (.int x :: st) D L := by
  subst hp0
  apply bh_go
  unfold bh_st
  rw [hc]
  exact ⟨x, st, rfl, k1, k2⟩
theorem x_ic_gt {x y : Int32} (hc : bh_cod m pc = (22, len, a, 4, l)) (hp0 : pc + len = pc') (k1 : y < x → bw m d Q a lv st D L) (k2 : ¬ (y < x) → bw m d Q pc' lv st D L) : bw m d Q pc lv (.int y :: .int x :: st) D L := by
  subst hp0
  apply bh_go
  unfold bh_st
  rw [hc]
  exact ⟨x, y, st, rfl, k1, k2⟩
theorem x_if_le {x : Int32} (hc : bh_cod m pc = (21, len, a, 5, l)) (hp0 : pc + len = pc') (k1 : x ≤ 0 → bw m d Q a lv st D L) (k2 : ¬ (x ≤ 0) → bw m d Q pc' lv st D L) : bw m d Q pc lv (.int x :: st) D L := by
  subst hp0
  apply bh_go
  unfold bh_st
  rw [hc]
  exact ⟨x, st, rfl, k1, k2⟩
theorem x_ic_le {x y : Int32} (hc : bh_cod m pc = (22, len, a, 5, l)) (hp0 : pc + len = pc') (k1 : x ≤ y → bw m d Q a lv st D L) (k2 : ¬ (x ≤ y) → bw m d Q pc' lv st D L) : bw m d Q pc lv (.int y :: .int x :: st) D L := by
  subst hp0
  apply bh_go
  unfold bh_st
  rw [hc]
  exact ⟨x, y, st, rfl, k1, k2⟩
theorem x_goto (hc : bh_cod m pc = (23, len, a, c, l)) (k : bw m d Q a lv st D L) : bw m d Q pc lv st D L := by
  apply bh_go
  unfold bh_st
  rw [hc]
  exact k
/-- a switch at a number that is known -/
theorem x_tabN {n t : Nat} (hc : bh_cod m pc = (24, len, a, 0, l)) (hn : n < 2 ^ 31) (ht : l[n]? = some t) (k : bw m d Q t lv st D L) : bw m d Q pc lv (.int (nI n) :: st) D L := by
  have hl := (List.getElem?_eq_some_iff.mp ht).1
  apply bh_go
  unfold bh_st
  rw [hc]
  refine ⟨nI n, st, rfl, fun _ => ⟨t, ?_, k⟩, fun h => ?_⟩
  · rw [nI_toInt hn, Int.sub_zero, Int.toNat_natCast]
    exact ht
  · rw [nI_toInt hn] at h
    omega
theorem x_tabO {x : Int32} (hc : bh_cod m pc = (24, len, a, 0, l)) (hx : x < 0 ∨ nI l.length ≤ x) (hl : l.length < 2 ^ 31) (k : bw m d Q a lv st D L) : bw m d Q pc lv (.int x :: st) D L := by
  apply bh_go
  unfold bh_st
  rw [hc]
  have h1 : x.toInt < 0 ∨ (l.length : Int) ≤ x.toInt := by
    rcases hx with h | h
    · exact Or.inl (by simpa using Int32.lt_iff_toInt_lt.mp h)
    · have := Int32.le_iff_toInt_le.mp h
      rw [nI_toInt hl] at this
      exact Or.inr this
  refine ⟨x, st, rfl, fun h => ?_, fun _ => k⟩
  omega
/-- a switch from 1 on -/
theorem x_tab1N {n t : Nat} (hc : bh_cod m pc = (24, len, a, 1, l)) (hn : n + 1 < 2 ^ 31) (ht : l[n]? = some t) (k : bw m d Q t lv st D L) : bw m d Q pc lv (.int (nI (n + 1)) :: st) D L := by
  have hl := (List.getElem?_eq_some_iff.mp ht).1
  apply bh_go
  unfold bh_st
  rw [hc]
  refine ⟨nI (n + 1), st, rfl, fun _ => ⟨t, ?_, k⟩, fun h => ?_⟩
  · rw [nI_toInt hn, show ((n + 1 : Nat) : Int) - 1 = (n : Int) by omega, Int.toNat_natCast]
    exact ht
  · rw [nI_toInt hn] at h
    omega
theorem x_tab1O {x : Int32} (hc : bh_cod m pc = (24, len, a, 1, l)) (hx : x < 1 ∨ nI l.length < x) (hl : l.length < 2 ^ 31) (k : bw m d Q a lv st D L) : bw m d Q pc lv (.int x :: st) D L := by
  apply bh_go
  unfold bh_st
  rw [hc]
  have h1 : x.toInt < 1 ∨ (l.length : Int) < x.toInt := by
    rcases hx with h | h
    · exact Or.inl (by simpa using Int32.lt_iff_toInt_lt.mp h)
    · have := Int32.lt_iff_toInt_lt.mp h
      rw [nI_toInt hl] at this
      exact Or.inr this
  refine ⟨x, st, rfl, fun h => ?_, fun _ => k⟩
  omega
theorem x_getR {k0 r : Nat} {q : String × Nat × Nat × Nat} (hc : bh_cod m pc = (25, len, a, c, l)) (hp0 : pc + len = pc') (hq : bh_FL[a]? = some q) (hk : k0 < 228) (ht : bh_tg k0 = q.2.2.1) (hj : q.2.2.2 < bh_ln k0) (hf : bh_fr q.2.2.1 q.2.2.2 = true) (hr : bh_R0 k0 q.2.2.2 = some r) (k : bw m d Q pc' lv (.ref r :: st) D L) : bw m d Q pc lv (.ref k0 :: st) D L := by
  subst hp0
  apply bh_go
  unfold bh_st
  rw [hc]
  exact ⟨k0, st, rfl, hk, q, hq, ht, hj, Or.inl ⟨hf, r, hr, k⟩⟩
theorem x_getI {k0 j : Nat} {q : String × Nat × Nat × Nat} (hc : bh_cod m pc = (25, len, a, c, l)) (hp0 : pc + len = pc') (hq : bh_FL[a]? = some q) (hk : k0 < 228) (ht : bh_tg k0 = q.2.2.1) (hj : q.2.2.2 < bh_ln k0) (hf : bh_fr q.2.2.1 q.2.2.2 = false) (hjj : q.2.2.2 = j) (k : bw m d Q pc' lv (.int (D k0 j) :: st) D L) : bw m d Q pc lv (.ref k0 :: st) D L := by
  subst hp0
  subst hjj
  apply bh_go
  unfold bh_st
  rw [hc]
  exact ⟨k0, st, rfl, hk, q, hq, ht, hj, Or.inr ⟨hf, k⟩⟩
theorem x_putI {k0 j : Nat} {x : Int32} {q : String × Nat × Nat × Nat} (hc : bh_cod m pc = (26, len, a, c, l)) (hp0 : pc + len = pc') (hq : bh_FL[a]? = some q) (hk : k0 < 228) (ht : bh_tg k0 = q.2.2.1) (hj : q.2.2.2 < bh_ln k0) (hf : bh_fr q.2.2.1 q.2.2.2 = false) (hjj : q.2.2.2 = j) (k : bw m d Q pc' lv st (bh_up2 D k0 j x) L) : bw m d Q pc lv (.int x :: .ref k0 :: st) D L := by
  subst hp0
  subst hjj
  apply bh_go
  unfold bh_st
  rw [hc]
  exact ⟨q, hq, Or.inr ⟨hf, x, k0, st, rfl, hk, ht, hj, k⟩⟩
theorem x_iald {k0 n : Nat} (hc : bh_cod m pc = (27, len, a, c, l)) (hp0 : pc + len = pc') (hk : k0 < 228) (ht : bh_tg k0 = 20) (hl : bh_ln k0 ≤ 10000) (hn : n < bh_ln k0) (k : bw m d Q pc' lv (.int (D k0 n) :: st) D L) : bw m d Q pc lv (.int (nI n) :: .ref k0 :: st) D L := by
  subst hp0
  apply bh_go
  unfold bh_st
  rw [hc]
  refine ⟨nI n, k0, st, rfl, Or.inl ⟨hk, ht, vp_in_nI hn (by omega), ?_⟩⟩
  rw [nI_clamp (by omega)]
  exact k
theorem x_iast {k0 n : Nat} {x : Int32} (hc : bh_cod m pc = (28, len, a, c, l)) (hp0 : pc + len = pc') (hk : k0 < 228) (ht : bh_tg k0 = 20) (hl : bh_ln k0 ≤ 10000) (hn : n < bh_ln k0) (k : bw m d Q pc' lv st (bh_up2 D k0 n x) L) : bw m d Q pc lv (.int x :: .int (nI n) :: .ref k0 :: st) D L := by
  subst hp0
  apply bh_go
  unfold bh_st
  rw [hc]
  refine ⟨x, nI n, k0, st, rfl, hk, ht, vp_in_nI hn (by omega), ?_⟩
  rw [nI_clamp (by omega)]
  exact k
theorem x_bald {k0 n : Nat} (hc : bh_cod m pc = (29, len, a, c, l)) (hp0 : pc + len = pc') (hk : k0 < 228) (ht : bh_tg k0 = 22 ∨ bh_tg k0 = 23) (hl : bh_ln k0 ≤ 10000) (hn : n < bh_ln k0) (k : bw m d Q pc' lv (.int (D k0 n) :: st) D L) : bw m d Q pc lv (.int (nI n) :: .ref k0 :: st) D L := by
  subst hp0
  apply bh_go
  unfold bh_st
  rw [hc]
  refine ⟨nI n, k0, st, rfl, hk, ht, vp_in_nI hn (by omega), ?_⟩
  rw [nI_clamp (by omega)]
  exact k
theorem x_bast {k0 n : Nat} {x : Int32} (hc : bh_cod m pc = (30, len, a, c, l)) (hp0 : pc + len = pc') (hk : k0 < 228) (ht : bh_tg k0 = 22) (hl : bh_ln k0 ≤ 10000) (hn : n < bh_ln k0) (k : bw m d Q pc' lv st (bh_up2 D k0 n (vp_nar .byte x)) L) : bw m d Q pc lv (.int x :: .int (nI n) :: .ref k0 :: st) D L := by
  subst hp0
  apply bh_go
  unfold bh_st
  rw [hc]
  refine ⟨x, nI n, k0, st, rfl, hk, vp_in_nI hn (by omega), Or.inl ⟨ht, ?_⟩⟩
  rw [nI_clamp (by omega)]
  exact k
theorem x_zast {k0 n : Nat} {x : Int32} (hc : bh_cod m pc = (30, len, a, c, l)) (hp0 : pc + len = pc') (hk : k0 < 228) (ht : bh_tg k0 = 23) (hl : bh_ln k0 ≤ 10000) (hn : n < bh_ln k0) (k : bw m d Q pc' lv st (bh_up2 D k0 n (vp_nar .boolean x)) L) : bw m d Q pc lv (.int x :: .int (nI n) :: .ref k0 :: st) D L := by
  subst hp0
  apply bh_go
  unfold bh_st
  rw [hc]
  refine ⟨x, nI n, k0, st, rfl, hk, vp_in_nI hn (by omega), Or.inr ⟨ht, ?_⟩⟩
  rw [nI_clamp (by omega)]
  exact k
theorem x_lald {k0 n : Nat} (hc : bh_cod m pc = (31, len, a, c, l)) (hp0 : pc + len = pc') (hk : k0 < 228) (ht : bh_tg k0 = 21) (hl : bh_ln k0 ≤ 10000) (hn : n < bh_ln k0) (k : bw m d Q pc' lv (.long (L k0 n) :: st) D L) : bw m d Q pc lv (.int (nI n) :: .ref k0 :: st) D L := by
  subst hp0
  apply bh_go
  unfold bh_st
  rw [hc]
  refine ⟨nI n, k0, st, rfl, hk, ht, vp_in_nI hn (by omega), ?_⟩
  rw [nI_clamp (by omega)]
  exact k
theorem x_last {k0 n : Nat} {x : Int64} (hc : bh_cod m pc = (32, len, a, c, l)) (hp0 : pc + len = pc') (hk : k0 < 228) (ht : bh_tg k0 = 21) (hl : bh_ln k0 ≤ 10000) (hn : n < bh_ln k0) (k : bw m d Q pc' lv st D (bh_up2 L k0 n x)) : bw m d Q pc lv (.long x :: .int (nI n) :: .ref k0 :: st) D L := by
  subst hp0
  apply bh_go
  unfold bh_st
  rw [hc]
  refine ⟨x, nI n, k0, st, rfl, hk, ht, vp_in_nI hn (by omega), ?_⟩
  rw [nI_clamp (by omega)]
  exact k
theorem x_aald {k0 n r : Nat} (hc : bh_cod m pc = (33, len, a, c, l)) (hp0 : pc + len = pc') (hk : k0 < 228) (ht : bh_tg k0 = 24) (hl : bh_ln k0 ≤ 10000) (hn : n < bh_ln k0) (hr : bh_R0 k0 n = some r) (k : bw m d Q pc' lv (.ref r :: st) D L) : bw m d Q pc lv (.int (nI n) :: .ref k0 :: st) D L := by
  subst hp0
  apply bh_go
  unfold bh_st
  rw [hc]
  refine ⟨nI n, k0, st, r, rfl, hk, ht, vp_in_nI hn (by omega), ?_, k⟩
  rw [nI_clamp (by omega)]
  exact hr
theorem x_alen {k0 n : Nat} (hc : bh_cod m pc = (35, len, a, c, l)) (hp0 : pc + len = pc') (hk : k0 < 228) (ht : 20 ≤ bh_tg k0 ∧ bh_tg k0 ≤ 24) (hn : bh_ln k0 = n) (k : bw m d Q pc' lv (.int (nI n) :: st) D L) : bw m d Q pc lv (.ref k0 :: st) D L := by
  subst hp0
  subst hn
  apply bh_go
  unfold bh_st
  rw [hc]
  exact ⟨k0, st, rfl, Or.inl ⟨hk, ht.1, ht.2, k⟩⟩
/-- a call of an ordinary method: at most d1 deep -/
theorem x_callV {k0 d1 m1 : Nat} {q : String × Nat × Nat × Nat} {Bs rest : List Value} (hc : bh_cod m pc = (40, len, a, c, l)) (hp0 : pc + len = pc') (hq : bh_ML[a]? = some q) (hm : q.2.2.1 = m1) (hkd : q.2.2.2 = 0) (hst : st = Bs.reverse ++ .ref k0 :: rest) (hn : Bs.length + 1 = bh_na m1) (hcat : bh_catsum rest ≤ 8) (hz : bh_mc m1 = 0 ∧ bh_ms m1 = 0) (hk : k0 < 228) (ht : bh_tg k0 = bh_ci m1) (hd : d1 ≤ d)
    (k : bh_wc d1 m1 (.ref k0 :: Bs) (hp D L) (fun r h' => h'.1 = 228 ∧ bh_wf m (bh_wc d) Q pc' lv (r.toList ++ rest) (0, 0) h')) : bw m d Q pc lv st D L := by
  subst hp0
  subst hm
  subst hst
  apply bh_go
  unfold bh_st
  rw [hc]
  refine ⟨q, .ref k0 :: Bs, rest, hq, by simp, hn, hcat, by rw [hz.1]; exact Nat.zero_le _, by rw [hz.2]; exact Nat.zero_le _, fun _ => ⟨k0, Bs, rfl, hk, ht⟩, fun h => by omega, ?_⟩
  refine bh_wc_le hd (bh_wc_mono ?_ k)
  rintro r h' ⟨h1, h2⟩
  rw [hz.1, hz.2]
  exact ⟨h1, h2⟩
theorem x_callS {d1 m1 : Nat} {q : String × Nat × Nat × Nat} {As rest : List Value} (hc : bh_cod m pc = (40, len, a, c, l)) (hp0 : pc + len = pc') (hq : bh_ML[a]? = some q) (hm : q.2.2.1 = m1) (hkd : q.2.2.2 = 1 ∨ q.2.2.2 = 3) (hst : st = As.reverse ++ rest) (hn : As.length = bh_na m1) (hcat : bh_catsum rest ≤ 8) (hz : bh_mc m1 = 0 ∧ bh_ms m1 = 0) (hd : d1 ≤ d)
    (k : bh_wc d1 m1 As (hp D L) (fun r h' => h'.1 = 228 ∧ bh_wf m (bh_wc d) Q pc' lv (r.toList ++ rest) (0, 0) h')) : bw m d Q pc lv st D L := by
  subst hp0
  subst hm
  subst hst
  apply bh_go
  unfold bh_st
  rw [hc]
  refine ⟨q, As, rest, hq, rfl, hn, hcat, by rw [hz.1]; exact Nat.zero_le _, by rw [hz.2]; exact Nat.zero_le _, fun h => by omega, fun h => by omega, ?_⟩
  refine bh_wc_le hd (bh_wc_mono ?_ k)
  rintro r h' ⟨h1, h2⟩
  rw [hz.1, hz.2]
  exact ⟨h1, h2⟩
theorem x_iret {x : Int32} (hc : bh_cod m pc = (41, len, a, c, l)) (hr : bh_rt m = some .int) (k : Q (some (.int x)) (hp D L)) : bw m d Q pc lv [.int x] D L := by
  apply bh_go
  unfold bh_st
  rw [hc]
  exact ⟨x, rfl, ⟨Nat.zero_le _, Nat.zero_le _⟩, Or.inl hr, k⟩
theorem x_zret {x : Int32} (hc : bh_cod m pc = (41, len, a, c, l)) (hr : bh_rt m = some .boolean) (hx : x = 0 ∨ x = 1) (k : Q (some (.int x)) (hp D L)) : bw m d Q pc lv [.int x] D L := by
  apply bh_go
  unfold bh_st
  rw [hc]
  exact ⟨x, rfl, ⟨Nat.zero_le _, Nat.zero_le _⟩, Or.inr ⟨hr, hx⟩, k⟩
theorem x_lret {x : Int64} (hc : bh_cod m pc = (42, len, a, c, l)) (hr : bh_rt m = some .long) (k : Q (some (.long x)) (hp D L)) : bw m d Q pc lv [.long x] D L := by
  apply bh_go
  unfold bh_st
  rw [hc]
  exact ⟨x, rfl, ⟨Nat.zero_le _, Nat.zero_le _⟩, hr, k⟩
theorem x_aret {x : Nat} (hc : bh_cod m pc = (43, len, a, c, l)) (hr : bh_rt m = some (.object "java/lang/String")) (k : Q (some (.ref x)) (hp D L)) : bw m d Q pc lv [.ref x] D L := by
  apply bh_go
  unfold bh_st
  rw [hc]
  exact ⟨x, rfl, ⟨Nat.zero_le _, Nat.zero_le _⟩, hr, k⟩
theorem x_vret (hc : bh_cod m pc = (44, len, a, c, l)) (hr : bh_rt m = none) (k : Q none (hp D L)) : bw m d Q pc lv [] D L := by
  apply bh_go
  unfold bh_st
  rw [hc]
  exact ⟨rfl, ⟨Nat.zero_le _, Nat.zero_le _⟩, hr, k⟩
theorem x_ldcS (hc : bh_cod m pc = (45, len, a, c, l)) (hp0 : pc + len = pc') (k : bw m d Q pc' lv (.ref (1100 + a) :: st) D L) : bw m d Q pc lv st D L := by
  subst hp0
  apply bh_go
  unfold bh_st
  rw [hc]
  exact k
theorem x_slen {j : Nat} (hc : bh_cod m pc = (46, len, a, c, l)) (hp0 : pc + len = pc') (hj : j < bh_ST.length) (hcat : bh_catsum st ≤ 8) (k : bw m d Q pc' lv (.int (nI (bh_sl j)) :: st) D L) : bw m d Q pc lv (.ref (1100 + j) :: st) D L := by
  subst hp0
  apply bh_go
  unfold bh_st
  rw [hc]
  exact ⟨j, st, rfl, hj, hcat, ⟨Nat.zero_le _, Nat.zero_le _⟩, k⟩
theorem x_char {j n : Nat} (hc : bh_cod m pc = (47, len, a, c, l)) (hp0 : pc + len = pc') (hj : j < bh_ST.length) (hcat : bh_catsum st ≤ 8) (hn : n < bh_sl j) (hs : bh_sl j < 100) (k : bw m d Q pc' lv (.int (bh_sc j n) :: st) D L) : bw m d Q pc lv (.int (nI n) :: .ref (1100 + j) :: st) D L := by
  subst hp0
  apply bh_go
  unfold bh_st
  rw [hc]
  refine ⟨nI n, j, st, rfl, hj, hcat, ⟨Nat.zero_le _, Nat.zero_le _⟩, vp_in_nI hn (by omega), ?_⟩
  rw [nI_clamp (by omega)]
  exact k
theorem x_copy {k0 k1 n : Nat} (hc : bh_cod m pc = (48, len, a, c, l)) (hp0 : pc + len = pc') (hcat : bh_catsum st ≤ 8) (hk : k1 < 228) (hk0 : k0 < 228) (ht : bh_tg k1 = 20) (ht0 : bh_tg k0 = 20) (hl : bh_ln k1 ≤ 10000) (hn : n ≤ bh_ln k1) (hn0 : n ≤ bh_ln k0) (hne : k1 ≠ k0) (k : bw m d Q pc' lv st (bh_upr D k1 (va_cpy (D k0) (D k1) 0 0 n)) L) : bw m d Q pc lv (.int (nI n) :: .int 0 :: .ref k1 :: .int 0 :: .ref k0 :: st) D L := by
  subst hp0
  apply bh_go
  unfold bh_st
  rw [hc]
  refine ⟨nI n, k1, _, rfl, k0, st, rfl, hcat, hk, hk0, ht, ht0, nI_pos (by omega), by rw [nI_clamp (by omega)]; exact hn, by rw [nI_clamp (by omega)]; exact hn0, hne, ?_⟩
  rw [nI_clamp (by omega)]
  exact k
theorem x_max {x y v : Int32} (hc : bh_cod m pc = (49, len, a, c, l)) (hp0 : pc + len = pc') (hcat : bh_catsum st ≤ 8) (hv : (if x < y then y else x) = v) (k : bw m d Q pc' lv (.int v :: st) D L) : bw m d Q pc lv (.int y :: .int x :: st) D L := by
  subst hp0
  subst hv
  apply bh_go
  unfold bh_st
  rw [hc]
  exact ⟨x, y, st, rfl, hcat, ⟨Nat.zero_le _, Nat.zero_le _⟩, k⟩
theorem x_min {x y v : Int32} (hc : bh_cod m pc = (50, len, a, c, l)) (hp0 : pc + len = pc') (hcat : bh_catsum st ≤ 8) (hv : (if y < x then y else x) = v) (k : bw m d Q pc' lv (.int v :: st) D L) : bw m d Q pc lv (.int y :: .int x :: st) D L := by
  subst hp0
  subst hv
  apply bh_go
  unfold bh_st
  rw [hc]
  exact ⟨x, y, st, rfl, hcat, ⟨Nat.zero_le _, Nat.zero_le _⟩, k⟩
/-- a contract begins -/
theorem x_start {m1 : Nat} {As lv0 : List Value} (h1 : (bh_lay As).length ≤ bh_mL m1) (h2 : bh_ent m1 As = lv0) (k : bw m1 d Q 0 lv0 [] D L) : bh_wc (d + 1) m1 As (hp D L) Q := ⟨h1, by rw [h2]; exact k⟩
end bh_rules
end
section
/-! ===== rules where the numbers are natural ones ===== -/
theorem lt_of {x : Int32} {n : Nat} (hn : n < 2 ^ 31) (h1 : ¬ x < 0) (h2 : ¬ nI n ≤ x) : ∃ j : Nat, j < n ∧ x = nI j := by
  rcases pk_ix x hn with h | h | h
  · exact absurd h h1
  · exact absurd h h2
  · exact h
theorem nI_and (a b : Nat) : nI a &&& nI b = nI (a &&& b) := by
  apply Int32.toBitVec_inj.mp
  show BitVec.ofNat 32 a &&& BitVec.ofNat 32 b = BitVec.ofNat 32 (a &&& b)
  apply BitVec.eq_of_getLsbD_eq
  intro i hi
  simp [hi, Nat.testBit_and]
theorem nI_or (a b : Nat) : nI a ||| nI b = nI (a ||| b) := by
  apply Int32.toBitVec_inj.mp
  show BitVec.ofNat 32 a ||| BitVec.ofNat 32 b = BitVec.ofNat 32 (a ||| b)
  apply BitVec.eq_of_getLsbD_eq
  intro i hi
  simp [hi, Nat.testBit_or]
theorem nI_xor (a b : Nat) : nI a ^^^ nI b = nI (a ^^^ b) := by
  apply Int32.toBitVec_inj.mp
  show BitVec.ofNat 32 a ^^^ BitVec.ofNat 32 b = BitVec.ofNat 32 (a ^^^ b)
  apply BitVec.eq_of_getLsbD_eq
  intro i hi
  simp [hi, Nat.testBit_xor]
theorem nI_sl : ∀ s, s < 32 → ((nI s &&& 31).toBitVec.smod 32).toNat = s := by decide +kernel
theorem nI_su : ∀ s, s < 32 → (((nI s).toUInt32 &&& Int32.toUInt32 31).toBitVec % 32).toNat = s := by decide +kernel
theorem nI_shl (a : Nat) {s : Nat} (hs : s < 32) : nI a <<< (nI s &&& 31) = nI (a <<< s) := by
  apply Int32.toBitVec_inj.mp
  apply BitVec.eq_of_toNat_eq
  rw [pk_shl (nI a) (nI s &&& 31) s (nI_sl s hs)]
  show (BitVec.ofNat 32 a).toNat * 2 ^ s % 2 ^ 32 = (BitVec.ofNat 32 (a <<< s)).toNat
  rw [BitVec.toNat_ofNat, BitVec.toNat_ofNat, Nat.shiftLeft_eq, Nat.mod_mul_mod]
theorem nI_shr {a : Nat} (ha : a < 2 ^ 31) {s : Nat} (hs : s < 32) : nI a >>> (nI s &&& 31) = nI (a >>> s) := by
  rw [pk_shrN ha (nI s &&& 31) s (nI_sl s hs), Nat.shiftRight_eq_div_pow]
theorem nI_ushr {a : Nat} (ha : a < 2 ^ 32) {s : Nat} (hs : s < 32) : ((nI a).toUInt32 >>> ((nI s).toUInt32 &&& Int32.toUInt32 31)).toInt32 = nI (a >>> s) := by
  rw [pk_ushrN ha (nI s) s (nI_su s hs), Nat.shiftRight_eq_div_pow]
theorem nI_m1 {n : Nat} (h : n < 2 ^ 31) : ¬ nI n = -1 := by
  intro e
  have := congrArg Int32.toInt e
  rw [nI_toInt h] at this
  have h1 : (-1 : Int32).toInt = -1 := by decide
  omega
theorem nI_m2 {n : Nat} (h : n < 2 ^ 31) : ¬ nI n = -2 := by
  intro e
  have := congrArg Int32.toInt e
  rw [nI_toInt h] at this
  have h1 : (-2 : Int32).toInt = -2 := by decide
  omega
theorem nI_inj {a b : Nat} (ha : a < 2 ^ 31) (hb : b < 2 ^ 31) (h : nI a = nI b) : a = b := (nI_eq ha hb).mp h
section bh_nat
variable {m d : Nat} {Q : bh_Q} {pc pc' len a : Nat} {c : Int} {l : List Nat} {lv lv' st : List Value} {D : Nat → Nat → Int32} {L : Nat → Nat → Int64} {x y : Nat}
theorem x_top {p q : Int32} (h : p = q) (k : bw m d Q pc lv (.int q :: st) D L) : bw m d Q pc lv (.int p :: st) D L := by
  subst h
  exact k
theorem x_topl {p q : Int64} (h : p = q) (k : bw m d Q pc lv (.long q :: st) D L) : bw m d Q pc lv (.long p :: st) D L := by
  subst h
  exact k
theorem y_iadd (hc : bh_cod m pc = (10, len, 0, c, l)) (hp0 : pc + len = pc') (k : bw m d Q pc' lv (.int (nI (x + y)) :: st) D L) : bw m d Q pc lv (.int (nI y) :: .int (nI x) :: st) D L := x_iadd hc hp0 (x_top (nI_add x y) k)
theorem y_isub (hc : bh_cod m pc = (10, len, 1, c, l)) (hp0 : pc + len = pc') (h : y ≤ x) (k : bw m d Q pc' lv (.int (nI (x - y)) :: st) D L) : bw m d Q pc lv (.int (nI y) :: .int (nI x) :: st) D L := x_isub hc hp0 (x_top (pk_sub h) k)
theorem y_imul (hc : bh_cod m pc = (10, len, 2, c, l)) (hp0 : pc + len = pc') (k : bw m d Q pc' lv (.int (nI (x * y)) :: st) D L) : bw m d Q pc lv (.int (nI y) :: .int (nI x) :: st) D L := x_imul hc hp0 (x_top (pk_mul x y) k)
theorem y_iand (hc : bh_cod m pc = (10, len, 3, c, l)) (hp0 : pc + len = pc') (k : bw m d Q pc' lv (.int (nI (x &&& y)) :: st) D L) : bw m d Q pc lv (.int (nI y) :: .int (nI x) :: st) D L := x_iand hc hp0 (x_top (nI_and x y) k)
theorem y_ior (hc : bh_cod m pc = (10, len, 4, c, l)) (hp0 : pc + len = pc') (k : bw m d Q pc' lv (.int (nI (x ||| y)) :: st) D L) : bw m d Q pc lv (.int (nI y) :: .int (nI x) :: st) D L := x_ior hc hp0 (x_top (nI_or x y) k)
theorem y_ixor (hc : bh_cod m pc = (10, len, 5, c, l)) (hp0 : pc + len = pc') (k : bw m d Q pc' lv (.int (nI (x ^^^ y)) :: st) D L) : bw m d Q pc lv (.int (nI y) :: .int (nI x) :: st) D L := x_ixor hc hp0 (x_top (nI_xor x y) k)
theorem y_ishl (hc : bh_cod m pc = (10, len, 6, c, l)) (hp0 : pc + len = pc') (h : y < 32) (k : bw m d Q pc' lv (.int (nI (x <<< y)) :: st) D L) : bw m d Q pc lv (.int (nI y) :: .int (nI x) :: st) D L := x_ishl hc hp0 (x_top (nI_shl x h) k)
theorem y_ishr (hc : bh_cod m pc = (10, len, 7, c, l)) (hp0 : pc + len = pc') (hx : x < 2 ^ 31) (h : y < 32) (k : bw m d Q pc' lv (.int (nI (x >>> y)) :: st) D L) : bw m d Q pc lv (.int (nI y) :: .int (nI x) :: st) D L := x_ishr hc hp0 (x_top (nI_shr hx h) k)
theorem y_iushr (hc : bh_cod m pc = (10, len, 8, c, l)) (hp0 : pc + len = pc') (hx : x < 2 ^ 32) (h : y < 32) (k : bw m d Q pc' lv (.int (nI (x >>> y)) :: st) D L) : bw m d Q pc lv (.int (nI y) :: .int (nI x) :: st) D L := x_iushr hc hp0 (x_top (nI_ushr hx h) k)
theorem y_idiv (hc : bh_cod m pc = (11, len, a, c, l)) (hp0 : pc + len = pc') (hx : x < 2 ^ 31) (h0 : 0 < y) (hy : y < 2 ^ 31) (k : bw m d Q pc' lv (.int (nI (x / y)) :: st) D L) : bw m d Q pc lv (.int (nI y) :: .int (nI x) :: st) D L := x_idiv hc hp0 (nI_ne0 h0 hy) (x_top (pk_div hx h0 hy) k)
theorem y_irem (hc : bh_cod m pc = (12, len, a, c, l)) (hp0 : pc + len = pc') (hx : x < 2 ^ 31) (h0 : 0 < y) (hy : y < 2 ^ 31) (k : bw m d Q pc' lv (.int (nI (x % y)) :: st) D L) : bw m d Q pc lv (.int (nI y) :: .int (nI x) :: st) D L := x_irem hc hp0 (nI_ne0 h0 hy) (x_top (pk_rem hx h0 hy) k)
theorem y_if_eq (hc : bh_cod m pc = (21, len, a, 0, l)) (hp0 : pc + len = pc') (hx : x < 2 ^ 31) (k1 : x = 0 → bw m d Q a lv st D L) (k2 : ¬ x = 0 → bw m d Q pc' lv st D L) : bw m d Q pc lv (.int (nI x) :: st) D L := x_if_eq hc hp0 (fun h => k1 (nI_inj hx (by decide) h)) (fun h => k2 (fun e => h (by rw [e]; rfl)))
theorem y_if_ne (hc : bh_cod m pc = (21, len, a, 1, l)) (hp0 : pc + len = pc') (hx : x < 2 ^ 31) (k1 : ¬ x = 0 → bw m d Q a lv st D L) (k2 : x = 0 → bw m d Q pc' lv st D L) : bw m d Q pc lv (.int (nI x) :: st) D L := x_if_ne hc hp0 (fun h => k1 (fun e => h (by rw [e]; rfl))) (fun h => k2 (nI_inj hx (by decide) h))
theorem y_if_lt (hc : bh_cod m pc = (21, len, a, 2, l)) (hp0 : pc + len = pc') (hx : x < 2 ^ 31) (k2 : bw m d Q pc' lv st D L) : bw m d Q pc lv (.int (nI x) :: st) D L := x_if_lt hc hp0 (fun h => absurd h (nI_pos hx)) (fun _ => k2)
theorem y_if_ge (hc : bh_cod m pc = (21, len, a, 3, l)) (hp0 : pc + len = pc') (hx : x < 2 ^ 31) (k1 : bw m d Q a lv st D L) : bw m d Q pc lv (.int (nI x) :: st) D L := x_if_ge hc hp0 (fun _ => k1) (fun h => absurd (nI_pos' hx) h)
theorem y_if_gt (hc : bh_cod m pc = (21, len, a, 4, l)) (hp0 : pc + len = pc') (hx : x < 2 ^ 31) (k1 : 0 < x → bw m d Q a lv st D L) (k2 : x = 0 → bw m d Q pc' lv st D L) : bw m d Q pc lv (.int (nI x) :: st) D L := x_if_gt hc hp0 (fun h => k1 ((nI_ltI (a := 0) (by decide) hx).mp h)) (fun h => k2 (by
  rcases Nat.eq_zero_or_pos x with e | e
  · exact e
  · exact absurd ((nI_ltI (a := 0) (by decide) hx).mpr e) h))
theorem y_if_le (hc : bh_cod m pc = (21, len, a, 5, l)) (hp0 : pc + len = pc') (hx : x < 2 ^ 31) (k1 : x = 0 → bw m d Q a lv st D L) (k2 : 0 < x → bw m d Q pc' lv st D L) : bw m d Q pc lv (.int (nI x) :: st) D L := x_if_le hc hp0 (fun h => k1 (Nat.le_zero.mp ((nI_leI (b := 0) hx (by decide)).mp h))) (fun h => k2 (by
  rcases Nat.eq_zero_or_pos x with e | e
  · exact absurd (by rw [e]; exact (nI_leI (a := 0) (b := 0) (by decide) (by decide)).mpr (Nat.le_refl 0)) h
  · exact e))
theorem y_ic_eq (hc : bh_cod m pc = (22, len, a, 0, l)) (hp0 : pc + len = pc') (hx : x < 2 ^ 31) (hy : y < 2 ^ 31) (k1 : x = y → bw m d Q a lv st D L) (k2 : ¬ x = y → bw m d Q pc' lv st D L) : bw m d Q pc lv (.int (nI y) :: .int (nI x) :: st) D L := x_ic_eq hc hp0 (fun h => k1 (nI_inj hx hy h)) (fun h => k2 (fun e => h (by rw [e])))
theorem y_ic_ne (hc : bh_cod m pc = (22, len, a, 1, l)) (hp0 : pc + len = pc') (hx : x < 2 ^ 31) (hy : y < 2 ^ 31) (k1 : ¬ x = y → bw m d Q a lv st D L) (k2 : x = y → bw m d Q pc' lv st D L) : bw m d Q pc lv (.int (nI y) :: .int (nI x) :: st) D L := x_ic_ne hc hp0 (fun h => k1 (fun e => h (by rw [e]))) (fun h => k2 (nI_inj hx hy h))
theorem y_ic_lt (hc : bh_cod m pc = (22, len, a, 2, l)) (hp0 : pc + len = pc') (hx : x < 2 ^ 31) (hy : y < 2 ^ 31) (k1 : x < y → bw m d Q a lv st D L) (k2 : y ≤ x → bw m d Q pc' lv st D L) : bw m d Q pc lv (.int (nI y) :: .int (nI x) :: st) D L := x_ic_lt hc hp0 (fun h => k1 ((nI_ltI hx hy).mp h)) (fun h => k2 (Nat.le_of_not_lt (fun e => h ((nI_ltI hx hy).mpr e))))
theorem y_ic_ge (hc : bh_cod m pc = (22, len, a, 3, l)) (hp0 : pc + len = pc') (hx : x < 2 ^ 31) (hy : y < 2 ^ 31) (k1 : y ≤ x → bw m d Q a lv st D L) (k2 : x < y → bw m d Q pc' lv st D L) : bw m d Q pc lv (.int (nI y) :: .int (nI x) :: st) D L := x_ic_ge hc hp0 (fun h => k1 ((nI_leI hy hx).mp h)) (fun h => k2 (Nat.lt_of_not_le (fun e => h ((nI_leI hy hx).mpr e))))
theorem y_ic_gt (hc : bh_cod m pc = (22, len, a, 4, l)) (hp0 : pc + len = pc') (hx : x < 2 ^ 31) (hy : y < 2 ^ 31) (k1 : y < x → bw m d Q a lv st D L) (k2 : x ≤ y → bw m d Q pc' lv st D L) : bw m d Q pc lv (.int (nI y) :: .int (nI x) :: st) D L := x_ic_gt hc hp0 (fun h => k1 ((nI_ltI hy hx).mp h)) (fun h => k2 (Nat.le_of_not_lt (fun e => h ((nI_ltI hy hx).mpr e))))
theorem y_ic_le (hc : bh_cod m pc = (22, len, a, 5, l)) (hp0 : pc + len = pc') (hx : x < 2 ^ 31) (hy : y < 2 ^ 31) (k1 : x ≤ y → bw m d Q a lv st D L) (k2 : y < x → bw m d Q pc' lv st D L) : bw m d Q pc lv (.int (nI y) :: .int (nI x) :: st) D L := x_ic_le hc hp0 (fun h => k1 ((nI_leI hx hy).mp h)) (fun h => k2 (Nat.lt_of_not_le (fun e => h ((nI_leI hx hy).mpr e))))
theorem y_inc (hc : bh_cod m pc = (9, len, a, 1, l)) (hp0 : pc + len = pc') (hx : lv[a]? = some (.int (nI x))) (ha : a < bh_mL m) (hl : bh_sto lv a (.int (nI (x + 1))) = lv') (k : bw m d Q pc' lv' st D L) : bw m d Q pc lv st D L := x_iinc hc hp0 hx rfl ha (nI_1 x) hl k
theorem y_dec (hc : bh_cod m pc = (9, len, a, -1, l)) (hp0 : pc + len = pc') (hx : lv[a]? = some (.int (nI (x + 1)))) (ha : a < bh_mL m) (hl : bh_sto lv a (.int (nI x)) = lv') (k : bw m d Q pc' lv' st D L) : bw m d Q pc lv st D L := x_iinc hc hp0 hx rfl ha (pk_m1 x) hl k
end bh_nat
end
section
/-! ===== what a town is, in numbers =====
A town is T : its rows. T 0: writers, books, seen, days, moods, dead; T 1 purse, 2 kind, 3 first, 4 second, 5 under, 6 fame, 7 coins, 8 stocked, 9 lengths, 10 pages, 11 stock, 12 seen. -/
abbrev TW : Type := Nat → Nat → Int32
def nw (T : TW) : Nat := (T 0 0).toNatClampNeg
def nb (T : TW) : Nat := (T 0 1).toNatClampNeg
def ns (T : TW) : Nat := (T 0 2).toNatClampNeg
def mo (T : TW) : Nat := (T 0 4).toNatClampNeg
def de (T : TW) : Nat := (T 0 5).toNatClampNeg
def pu (T : TW) (w : Nat) : Nat := (T 1 w).toNatClampNeg
def kd (T : TW) (w : Nat) : Nat := (T 2 w).toNatClampNeg
def fa (T : TW) (w : Nat) : Nat := (T 3 w).toNatClampNeg
def fb (T : TW) (w : Nat) : Nat := (T 4 w).toNatClampNeg
def un (T : TW) (w : Nat) : Nat := (T 5 w).toNatClampNeg
def sk (T : TW) (w : Nat) : Nat := (T 8 w).toNatClampNeg
def lng (T : TW) (b : Nat) : Nat := (T 9 b).toNatClampNeg
def pg (T : TW) (b p : Nat) : Nat := (T 10 (b * 8 + p)).toNatClampNeg
def stk (T : TW) (w b p : Nat) : Nat := (T 11 ((w * 4 + b) * 8 + p)).toNatClampNeg
def sn (T : TW) (i : Nat) : Nat := (T 12 i).toNatClampNeg
/-- a number that stands for itself -/
def is (x : Int32) (n : Nat) : Prop := x = nI x.toNatClampNeg ∧ x.toNatClampNeg < n
theorem is.eq {x : Int32} {n : Nat} (h : is x n) : x = nI x.toNatClampNeg := h.1
theorem is_nI {a n : Nat} (h : a < n) (hn : n < 2 ^ 31) : is (nI a) n := by
  unfold is
  rw [nI_clamp (by omega)]
  exact ⟨rfl, h⟩
/-- a habit that can be; numbers that it does not need are 0 -/
def hok (k a b : Nat) : Prop := k < 7 ∧ a < 16 ∧ b < 16 ∧ (k = 0 → a = 0) ∧ (k < 5 → b = 0) ∧ (k = 4 → a ≠ 0) ∧ (5 ≤ k → a ≠ b)
def wfN (T : TW) : Prop := is (T 0 0) 13 ∧ is (T 0 1) 5 ∧ is (T 0 2) 17 ∧ is (T 0 4) (2 ^ nw T) ∧ is (T 0 5) (2 ^ nw T)
def wfW (T : TW) : Prop := ∀ w, w < nw T → is (T 1 w) 100 ∧ is (T 2 w) 7 ∧ is (T 3 w) 16 ∧ is (T 4 w) 16 ∧ hok (kd T w) (fa T w) (fb T w) ∧ is (T 8 w) (2 ^ nb T) ∧ (T 5 w = -1 ∨ (is (T 5 w) (nw T) ∧ pu T (un T w) < pu T w))
def wfB (T : TW) : Prop := ∀ b, b < nb T → is (T 9 b) 9 ∧ 0 < lng T b ∧ ∀ p, p < lng T b → is (T 10 (b * 8 + p)) 65536
def wfS (T : TW) : Prop := ∀ w b p, w < nw T → b < nb T → p < lng T b → (sk T w).testBit b = true → is (T 11 ((w * 4 + b) * 8 + p)) 65536
def wfV (T : TW) : Prop := ∀ i, i < ns T → is (T 12 i) 65536
def WF (T : TW) : Prop := wfN T ∧ wfW T ∧ wfB T ∧ wfS T ∧ wfV T
section bh_wfs
variable {T : TW} {w b p i : Nat}
theorem WF.enw (h : WF T) : T 0 0 = nI (nw T) := h.1.1.1
theorem WF.nwl (h : WF T) : nw T ≤ 12 := Nat.le_of_lt_succ h.1.1.2
theorem WF.enb (h : WF T) : T 0 1 = nI (nb T) := h.1.2.1.1
theorem WF.nbl (h : WF T) : nb T ≤ 4 := Nat.le_of_lt_succ h.1.2.1.2
theorem WF.ens (h : WF T) : T 0 2 = nI (ns T) := h.1.2.2.1.1
theorem WF.nsl (h : WF T) : ns T ≤ 16 := Nat.le_of_lt_succ h.1.2.2.1.2
theorem WF.emo (h : WF T) : T 0 4 = nI (mo T) := h.1.2.2.2.1.1
theorem WF.mol (h : WF T) : mo T < 2 ^ nw T := h.1.2.2.2.1.2
theorem WF.ede (h : WF T) : T 0 5 = nI (de T) := h.1.2.2.2.2.1
theorem WF.del (h : WF T) : de T < 2 ^ nw T := h.1.2.2.2.2.2
theorem WF.epu (h : WF T) (hw : w < nw T) : T 1 w = nI (pu T w) := (h.2.1 w hw).1.1
theorem WF.pul (h : WF T) (hw : w < nw T) : pu T w < 100 := (h.2.1 w hw).1.2
theorem WF.ekd (h : WF T) (hw : w < nw T) : T 2 w = nI (kd T w) := (h.2.1 w hw).2.1.1
theorem WF.kdl (h : WF T) (hw : w < nw T) : kd T w < 7 := (h.2.1 w hw).2.1.2
theorem WF.efa (h : WF T) (hw : w < nw T) : T 3 w = nI (fa T w) := (h.2.1 w hw).2.2.1.1
theorem WF.fal (h : WF T) (hw : w < nw T) : fa T w < 16 := (h.2.1 w hw).2.2.1.2
theorem WF.efb (h : WF T) (hw : w < nw T) : T 4 w = nI (fb T w) := (h.2.1 w hw).2.2.2.1.1
theorem WF.fbl (h : WF T) (hw : w < nw T) : fb T w < 16 := (h.2.1 w hw).2.2.2.1.2
theorem WF.ehok (h : WF T) (hw : w < nw T) : hok (kd T w) (fa T w) (fb T w) := (h.2.1 w hw).2.2.2.2.1
theorem WF.esk (h : WF T) (hw : w < nw T) : T 8 w = nI (sk T w) := (h.2.1 w hw).2.2.2.2.2.1.1
theorem WF.skl (h : WF T) (hw : w < nw T) : sk T w < 2 ^ nb T := (h.2.1 w hw).2.2.2.2.2.1.2
theorem WF.eun (h : WF T) (hw : w < nw T) : T 5 w = -1 ∨ (T 5 w = nI (un T w) ∧ un T w < nw T ∧ pu T (un T w) < pu T w) := by
  rcases (h.2.1 w hw).2.2.2.2.2.2 with e | ⟨e, e2⟩
  · exact Or.inl e
  · exact Or.inr ⟨e.1, e.2, e2⟩
theorem WF.elng (h : WF T) (hb : b < nb T) : T 9 b = nI (lng T b) := (h.2.2.1 b hb).1.1
theorem WF.lngl (h : WF T) (hb : b < nb T) : lng T b ≤ 8 := Nat.le_of_lt_succ (h.2.2.1 b hb).1.2
theorem WF.lng0 (h : WF T) (hb : b < nb T) : 0 < lng T b := (h.2.2.1 b hb).2.1
theorem WF.epg (h : WF T) (hb : b < nb T) (hp : p < lng T b) : T 10 (b * 8 + p) = nI (pg T b p) := ((h.2.2.1 b hb).2.2 p hp).1
theorem WF.pgl (h : WF T) (hb : b < nb T) (hp : p < lng T b) : pg T b p < 65536 := ((h.2.2.1 b hb).2.2 p hp).2
theorem WF.estk (h : WF T) (hw : w < nw T) (hb : b < nb T) (hp : p < lng T b) (hs : (sk T w).testBit b = true) : T 11 ((w * 4 + b) * 8 + p) = nI (stk T w b p) := (h.2.2.2.1 w b p hw hb hp hs).1
theorem WF.stkl (h : WF T) (hw : w < nw T) (hb : b < nb T) (hp : p < lng T b) (hs : (sk T w).testBit b = true) : stk T w b p < 65536 := (h.2.2.2.1 w b p hw hb hp hs).2
theorem WF.esn (h : WF T) (hi : i < ns T) : T 12 i = nI (sn T i) := (h.2.2.2.2 i hi).1
theorem WF.snl (h : WF T) (hi : i < ns T) : sn T i < 65536 := (h.2.2.2.2 i hi).2
theorem WF.mo12 (h : WF T) : mo T < 4096 := Nat.lt_of_lt_of_le h.mol (Nat.pow_le_pow_right (by decide) h.nwl)
theorem WF.de12 (h : WF T) : de T < 4096 := Nat.lt_of_lt_of_le h.del (Nat.pow_le_pow_right (by decide) h.nwl)
theorem WF.sk4 (h : WF T) (hw : w < nw T) : sk T w < 16 := Nat.lt_of_lt_of_le (h.skl hw) (Nat.pow_le_pow_right (by decide) h.nbl)
end bh_wfs
/-- the class's town, and the one that it is told -/
abbrev tv (D : Nat → Nat → Int32) : TW := fun j i => if j < 13 then D (1 + j) i else 0
abbrev tv2 (D : Nat → Nat → Int32) : TW := fun j i => if j < 13 then D (14 + j) i else 0
def isM (T : TW) (w : Nat) : Bool := (mo T).testBit w
def isD (T : TW) (w : Nat) : Bool := (de T).testBit w
/-- what a habit does to a row -/
def hab (k a b row : Nat) : Nat := match k with
  | 1 => row ^^^ (1 <<< a)
  | 2 => row ||| (1 <<< a)
  | 3 => row &&& (65535 ^^^ (1 <<< a))
  | 4 => ((row <<< a) ||| (row >>> (16 - a))) &&& 65535
  | 5 => if row.testBit a = row.testBit b then row else row ^^^ ((1 <<< a) ||| (1 <<< b))
  | 6 => (row &&& (65535 ^^^ (1 <<< b))) ||| (if row.testBit a then 1 <<< b else 0)
  | _ => row
/-- the hands of a writer: at most f of them -/
def chF (T : TW) : Nat → Nat → List Nat
  | 0, _ => []
  | f + 1, w => w :: (if T 5 w = -1 then [] else chF T f (un T w))
def ch (T : TW) (w : Nat) : List Nat := chF T 12 w
/-- the line that comes up through these hands -/
def lnC (T : TW) (b p : Nat) : List Nat → Option Nat
  | [] => some (pg T b p)
  | w :: r => if isD T w then (if (sk T w).testBit b then some (stk T w b p) else none) else (lnC T b p r).map (fun x => if isM T w then x else hab (kd T w) (fa T w) (fb T w) x)
def lnO (T : TW) (w b p : Nat) : Option Nat := lnC T b p (ch T w)
def toI (o : Option Nat) : Int32 := match o with
  | some r => nI r
  | none => -2
end
section
/-! ===== small methods of the class ===== -/
def okN (n : Nat) (x : Int32) : Prop := ∃ j : Nat, j < n ∧ x = nI j
theorem okN_neg {n : Nat} {x : Int32} (hn : n < 2 ^ 31) (h : x < 0) : ¬ okN n x := by
  rintro ⟨j, hj, rfl⟩
  exact nI_pos (by omega) h
theorem okN_ge {n : Nat} {x : Int32} (hn : n < 2 ^ 31) (h : nI n ≤ x) : ¬ okN n x := by
  rintro ⟨j, hj, rfl⟩
  have := (nI_leI hn (by omega)).mp h
  omega
theorem okN_gt {n : Nat} {x : Int32} (hn : n + 1 < 2 ^ 31) (h : nI n < x) : ¬ okN (n + 1) x := by
  rintro ⟨j, hj, rfl⟩
  have := (nI_ltI (by omega) (by omega)).mp h
  omega
theorem le_of {x : Int32} {n : Nat} (hn : n + 1 < 2 ^ 31) (h1 : ¬ x < 0) (h2 : ¬ nI n < x) : ∃ j : Nat, j < n + 1 ∧ x = nI j := by
  refine lt_of hn h1 (fun h => h2 ?_)
  exact Int32.lt_of_lt_of_le (nI_lt (Nat.lt_succ_self n) hn) h
def okG (x : Int32) : Prop := ∃ j : Nat, 1 ≤ j ∧ j ≤ 9999 ∧ x = nI j
def okB (T : TW) (x y : Int32) : Prop := ∃ b p : Nat, b < nb T ∧ p < lng T b ∧ x = nI b ∧ y = nI p
/-- a habit that stands, told by any three ints -/
def okH (x y z : Int32) : Prop := ∃ k a b : Nat, x = nI k ∧ hok k a b ∧ (1 ≤ k → y = nI a) ∧ (5 ≤ k → z = nI b)
def sg (k : Nat) : Nat := if k = 0 then 0 else if 5 ≤ k then 2 else 1
theorem tb {x w : Nat} : (x >>> w &&& 1) = if x.testBit w then 1 else 0 := by
  rw [Nat.and_one_is_mod, Nat.testBit_eq_decide_div_mod_eq, Nat.shiftRight_eq_div_pow]
  by_cases h : x / 2 ^ w % 2 = 1
  · rw [h]; simp
  · have : x / 2 ^ w % 2 = 0 := by omega
    rw [this]; simp
set_option maxRecDepth 20000 in
set_option maxHeartbeats 1000000 in
theorem w_X9_isSign {D : Nat → Nat → Int32} {L : Nat → Nat → Int64} {Q : bh_Q} {x : Int32} (k1 : ∀ j : Nat, j < 16 → x = nI j → Q (some (.int 1)) (hp D L)) (k0 : ¬ okN 16 x → Q (some (.int 0)) (hp D L)) : bh_wc 1 m_X9_isSign [.int x] (hp D L) Q := by
  refine x_start (lv0 := [_]) (Nat.le_of_ble_eq_true rfl) rfl ?_
  refine x_iload (pc' := 1) rfl rfl rfl ?_
  refine x_if_lt (pc' := 4) rfl rfl (fun c1 => ?_) (fun c1 => ?_)
  · refine x_int (pc' := 15) (v := nI 0) rfl rfl rfl ?_
    refine x_zret rfl rfl (by decide) ?_
    first | exact k0 (okN_neg (by decide) c1) | exact k0 (okN_ge (by decide) c7)
  · refine x_iload (pc' := 5) rfl rfl rfl ?_
    refine x_int (pc' := 7) (v := nI 16) rfl rfl rfl ?_
    refine x_ic_ge (pc' := 10) rfl rfl (fun c7 => ?_) (fun c7 => ?_)
    · refine x_int (pc' := 15) (v := nI 0) rfl rfl rfl ?_
      refine x_zret rfl rfl (by decide) ?_
      first | exact k0 (okN_neg (by decide) c1) | exact k0 (okN_ge (by decide) c7)
    · refine x_int (pc' := 11) (v := nI 1) rfl rfl rfl ?_
      refine x_goto rfl ?_
      refine x_zret rfl rfl (by decide) ?_
      obtain ⟨j, hj, e⟩ := lt_of (n := 16) (by decide) c1 c7
      exact k1 j hj e
set_option maxRecDepth 20000 in
set_option maxHeartbeats 1000000 in
theorem w_X9_isShelf {D : Nat → Nat → Int32} {L : Nat → Nat → Int64} {Q : bh_Q} {x : Int32} (k1 : ∀ j : Nat, j < 2 → x = nI j → Q (some (.int 1)) (hp D L)) (k0 : ¬ okN 2 x → Q (some (.int 0)) (hp D L)) : bh_wc 1 m_X9_isShelf [.int x] (hp D L) Q := by
  refine x_start (lv0 := [_]) (Nat.le_of_ble_eq_true rfl) rfl ?_
  refine x_iload (pc' := 1) rfl rfl rfl ?_
  refine x_if_lt (pc' := 4) rfl rfl (fun c1 => ?_) (fun c1 => ?_)
  · refine x_int (pc' := 14) (v := nI 0) rfl rfl rfl ?_
    refine x_zret rfl rfl (by decide) ?_
    first | exact k0 (okN_neg (by decide) c1) | exact k0 (okN_ge (by decide) c6)
  · refine x_iload (pc' := 5) rfl rfl rfl ?_
    refine x_int (pc' := 6) (v := nI 2) rfl rfl rfl ?_
    refine x_ic_ge (pc' := 9) rfl rfl (fun c6 => ?_) (fun c6 => ?_)
    · refine x_int (pc' := 14) (v := nI 0) rfl rfl rfl ?_
      refine x_zret rfl rfl (by decide) ?_
      first | exact k0 (okN_neg (by decide) c1) | exact k0 (okN_ge (by decide) c6)
    · refine x_int (pc' := 10) (v := nI 1) rfl rfl rfl ?_
      refine x_goto rfl ?_
      refine x_zret rfl rfl (by decide) ?_
      obtain ⟨j, hj, e⟩ := lt_of (n := 2) (by decide) c1 c6
      exact k1 j hj e
set_option maxRecDepth 20000 in
set_option maxHeartbeats 1000000 in
theorem w_X9_isRow {D : Nat → Nat → Int32} {L : Nat → Nat → Int64} {Q : bh_Q} {x : Int32} (k1 : ∀ j : Nat, j < 65536 → x = nI j → Q (some (.int 1)) (hp D L)) (k0 : ¬ okN 65536 x → Q (some (.int 0)) (hp D L)) : bh_wc 1 m_X9_isRow [.int x] (hp D L) Q := by
  refine x_start (lv0 := [_]) (Nat.le_of_ble_eq_true rfl) rfl ?_
  refine x_iload (pc' := 1) rfl rfl rfl ?_
  refine x_if_lt (pc' := 4) rfl rfl (fun c1 => ?_) (fun c1 => ?_)
  · refine x_int (pc' := 16) (v := nI 0) rfl rfl rfl ?_
    refine x_zret rfl rfl (by decide) ?_
    first | exact k0 (okN_neg (by decide) c1) | exact k0 (okN_gt (n := 65535) (by decide) c8)
  · refine x_iload (pc' := 5) rfl rfl rfl ?_
    refine x_int (pc' := 8) (v := nI 65535) rfl rfl rfl ?_
    refine x_ic_gt (pc' := 11) rfl rfl (fun c8 => ?_) (fun c8 => ?_)
    · refine x_int (pc' := 16) (v := nI 0) rfl rfl rfl ?_
      refine x_zret rfl rfl (by decide) ?_
      first | exact k0 (okN_neg (by decide) c1) | exact k0 (okN_gt (n := 65535) (by decide) c8)
    · refine x_int (pc' := 12) (v := nI 1) rfl rfl rfl ?_
      refine x_goto rfl ?_
      refine x_zret rfl rfl (by decide) ?_
      obtain ⟨j, hj, e⟩ := le_of (n := 65535) (by decide) c1 c8
      exact k1 j hj e
set_option maxRecDepth 20000 in
set_option maxHeartbeats 1000000 in
theorem w_X9_isGift {D : Nat → Nat → Int32} {L : Nat → Nat → Int64} {Q : bh_Q} {x : Int32} (k1 : ∀ j : Nat, 1 ≤ j → j ≤ 9999 → x = nI j → Q (some (.int 1)) (hp D L)) (k0 : ¬ okG x → Q (some (.int 0)) (hp D L)) : bh_wc 1 m_X9_isGift [.int x] (hp D L) Q := by
  refine x_start (lv0 := [_]) (Nat.le_of_ble_eq_true rfl) rfl ?_
  refine x_iload (pc' := 1) rfl rfl rfl ?_
  refine x_int (pc' := 2) (v := nI 1) rfl rfl rfl ?_
  refine x_ic_lt (pc' := 5) rfl rfl (fun c2 => ?_) (fun c2 => ?_)
  · refine x_int (pc' := 17) (v := nI 0) rfl rfl rfl ?_
    refine x_zret rfl rfl (by decide) ?_
    refine k0 (fun ⟨j, h1, h2, e⟩ => ?_)
    subst e
    first | exact absurd ((nI_ltI (b := 1) (by omega) (by decide)).mp c2) (by omega) | exact absurd ((nI_ltI (a := 9999) (by decide) (by omega)).mp c9) (by omega)
  · refine x_iload (pc' := 6) rfl rfl rfl ?_
    refine x_int (pc' := 9) (v := nI 9999) rfl rfl rfl ?_
    refine x_ic_gt (pc' := 12) rfl rfl (fun c9 => ?_) (fun c9 => ?_)
    · refine x_int (pc' := 17) (v := nI 0) rfl rfl rfl ?_
      refine x_zret rfl rfl (by decide) ?_
      refine k0 (fun ⟨j, h1, h2, e⟩ => ?_)
      subst e
      first | exact absurd ((nI_ltI (b := 1) (by omega) (by decide)).mp c2) (by omega) | exact absurd ((nI_ltI (a := 9999) (by decide) (by omega)).mp c9) (by omega)
    · refine x_int (pc' := 13) (v := nI 1) rfl rfl rfl ?_
      refine x_goto rfl ?_
      refine x_zret rfl rfl (by decide) ?_
      have h0 : ¬ x < 0 := fun h => c2 (Int32.lt_trans h (by decide))
      obtain ⟨j, hj, e⟩ := le_of (n := 9999) (by decide) h0 c9
      subst e
      exact k1 j (Nat.pos_of_ne_zero (fun e => c2 (by rw [e]; decide))) (by omega) rfl
set_option maxRecDepth 20000 in
set_option maxHeartbeats 1000000 in
theorem w_X7_isWriter {D : Nat → Nat → Int32} {L : Nat → Nat → Int64} {Q : bh_Q} (hW : WF (tv D)) {x : Int32} (k1 : ∀ j : Nat, j < nw (tv D) → x = nI j → Q (some (.int 1)) (hp D L)) (k0 : ¬ okN (nw (tv D)) x → Q (some (.int 0)) (hp D L)) : bh_wc 1 m_X7_isWriter [.ref 1, .int x] (hp D L) Q := by
  refine x_start (lv0 := [_, _]) (Nat.le_of_ble_eq_true rfl) rfl ?_
  have hl := hW.nwl
  refine x_iload (pc' := 1) rfl rfl rfl ?_
  refine x_if_lt (pc' := 4) rfl rfl (fun c1 => ?_) (fun c1 => ?_)
  · refine x_int (pc' := 17) (v := nI 0) rfl rfl rfl ?_
    refine x_zret rfl rfl (by decide) ?_
    first | exact k0 (okN_neg (by omega) c1) | exact k0 (okN_ge (by omega) c9)
  · refine x_iload (pc' := 5) rfl rfl rfl ?_
    refine x_aload (pc' := 6) rfl rfl rfl ?_
    refine x_getI (j := 0) (pc' := 9) rfl rfl rfl (by decide) rfl (by decide) rfl rfl ?_
    refine x_top (hW.enw) ?_
    refine x_ic_ge (pc' := 12) rfl rfl (fun c9 => ?_) (fun c9 => ?_)
    · refine x_int (pc' := 17) (v := nI 0) rfl rfl rfl ?_
      refine x_zret rfl rfl (by decide) ?_
      first | exact k0 (okN_neg (by omega) c1) | exact k0 (okN_ge (by omega) c9)
    · refine x_int (pc' := 13) (v := nI 1) rfl rfl rfl ?_
      refine x_goto rfl ?_
      refine x_zret rfl rfl (by decide) ?_
      obtain ⟨j, hj, e⟩ := lt_of (by omega) c1 c9
      exact k1 j hj e
set_option maxRecDepth 20000 in
set_option maxHeartbeats 1000000 in
theorem w_X7_isBook {D : Nat → Nat → Int32} {L : Nat → Nat → Int64} {Q : bh_Q} (hW : WF (tv D)) {x : Int32} (k1 : ∀ j : Nat, j < nb (tv D) → x = nI j → Q (some (.int 1)) (hp D L)) (k0 : ¬ okN (nb (tv D)) x → Q (some (.int 0)) (hp D L)) : bh_wc 1 m_X7_isBook [.ref 1, .int x] (hp D L) Q := by
  refine x_start (lv0 := [_, _]) (Nat.le_of_ble_eq_true rfl) rfl ?_
  have hl := hW.nbl
  refine x_iload (pc' := 1) rfl rfl rfl ?_
  refine x_if_lt (pc' := 4) rfl rfl (fun c1 => ?_) (fun c1 => ?_)
  · refine x_int (pc' := 17) (v := nI 0) rfl rfl rfl ?_
    refine x_zret rfl rfl (by decide) ?_
    first | exact k0 (okN_neg (by omega) c1) | exact k0 (okN_ge (by omega) c9)
  · refine x_iload (pc' := 5) rfl rfl rfl ?_
    refine x_aload (pc' := 6) rfl rfl rfl ?_
    refine x_getI (j := 1) (pc' := 9) rfl rfl rfl (by decide) rfl (by decide) rfl rfl ?_
    refine x_top (hW.enb) ?_
    refine x_ic_ge (pc' := 12) rfl rfl (fun c9 => ?_) (fun c9 => ?_)
    · refine x_int (pc' := 17) (v := nI 0) rfl rfl rfl ?_
      refine x_zret rfl rfl (by decide) ?_
      first | exact k0 (okN_neg (by omega) c1) | exact k0 (okN_ge (by omega) c9)
    · refine x_int (pc' := 13) (v := nI 1) rfl rfl rfl ?_
      refine x_goto rfl ?_
      refine x_zret rfl rfl (by decide) ?_
      obtain ⟨j, hj, e⟩ := lt_of (by omega) c1 c9
      exact k1 j hj e
set_option maxRecDepth 20000 in
set_option maxHeartbeats 1000000 in
theorem w_X7_isPage {D : Nat → Nat → Int32} {L : Nat → Nat → Int64} {Q : bh_Q} (hW : WF (tv D)) {x y : Int32} (k1 : ∀ b q : Nat, b < nb (tv D) → q < lng (tv D) b → x = nI b → y = nI q → Q (some (.int 1)) (hp D L)) (k0 : ¬ okB (tv D) x y → Q (some (.int 0)) (hp D L)) : bh_wc 2 m_X7_isPage [.ref 1, .int x, .int y] (hp D L) Q := by
  refine x_start (lv0 := [_, _, _]) (Nat.le_of_ble_eq_true rfl) rfl ?_
  refine x_aload (pc' := 1) rfl rfl rfl ?_
  refine x_iload (pc' := 2) rfl rfl rfl ?_
  refine x_callV (pc' := 5) (d1 := 1) (Bs := [_]) rfl rfl rfl rfl rfl rfl rfl (Nat.le_of_ble_eq_true rfl) ⟨rfl, rfl⟩ (by decide) rfl (by decide) ?_
  refine w_X7_isBook hW (fun b hb e => ?_) (fun h2 => ?_)
  · subst e
    have h8 := hW.lngl hb
    have h4 := hW.nbl
    refine ⟨rfl, ?_⟩
    refine x_if_eq (pc' := 8) rfl rfl (fun c5 => absurd c5 (by decide)) (fun _ => ?_)
    refine x_iload (pc' := 9) rfl rfl rfl ?_
    refine x_if_lt (pc' := 12) rfl rfl (fun c9 => ?_) (fun c9 => ?_)
    · refine x_int (pc' := 27) (v := nI 0) rfl rfl rfl ?_
      refine x_zret rfl rfl (by decide) ?_
      first
        | exact k0 (fun ⟨c, q, q1, q2, e1, e2⟩ => h2 ⟨c, q1, e1⟩)
        | (refine k0 (fun ⟨c, q, q1, q2, e1, e2⟩ => ?_); have e3 := nI_inj (by omega) (by omega) e1; subst e3; first | exact okN_neg (by omega) c9 ⟨q, q2, e2⟩ | exact okN_ge (by omega) c19 ⟨q, q2, e2⟩)
    · refine x_iload (pc' := 13) rfl rfl rfl ?_
      refine x_aload (pc' := 14) rfl rfl rfl ?_
      refine x_getR (pc' := 17) rfl rfl rfl (by decide) rfl (by decide) rfl rfl ?_
      refine x_iload (pc' := 18) rfl rfl rfl ?_
      refine x_iald (pc' := 19) rfl rfl (by decide) rfl (by decide) (show _ < 4 by omega) ?_
      refine x_top (hW.elng hb) ?_
      refine x_ic_ge (pc' := 22) rfl rfl (fun c19 => ?_) (fun c19 => ?_)
      · refine x_int (pc' := 27) (v := nI 0) rfl rfl rfl ?_
        refine x_zret rfl rfl (by decide) ?_
        first
          | exact k0 (fun ⟨c, q, q1, q2, e1, e2⟩ => h2 ⟨c, q1, e1⟩)
          | (refine k0 (fun ⟨c, q, q1, q2, e1, e2⟩ => ?_); have e3 := nI_inj (by omega) (by omega) e1; subst e3; first | exact okN_neg (by omega) c9 ⟨q, q2, e2⟩ | exact okN_ge (by omega) c19 ⟨q, q2, e2⟩)
      · refine x_int (pc' := 23) (v := nI 1) rfl rfl rfl ?_
        refine x_goto rfl ?_
        refine x_zret rfl rfl (by decide) ?_
        obtain ⟨j, hj, e⟩ := lt_of (by omega) c9 c19
        exact k1 b j hb hj rfl e
  · refine ⟨rfl, ?_⟩
    refine x_if_eq (pc' := 8) rfl rfl (fun _ => ?_) (fun c5 => absurd (by decide) c5)
    refine x_int (pc' := 27) (v := nI 0) rfl rfl rfl ?_
    refine x_zret rfl rfl (by decide) ?_
    first
      | exact k0 (fun ⟨c, q, q1, q2, e1, e2⟩ => h2 ⟨c, q1, e1⟩)
      | (refine k0 (fun ⟨c, q, q1, q2, e1, e2⟩ => ?_); have e3 := nI_inj (by omega) (by omega) e1; subst e3; first | exact okN_neg (by omega) c9 ⟨q, q2, e2⟩ | exact okN_ge (by omega) c19 ⟨q, q2, e2⟩)
theorem bit1 (n : Nat) : (n &&& 1) = 0 ↔ n.testBit 0 = false := by
  rw [Nat.and_one_is_mod, Nat.testBit_zero]
  constructor
  · intro h; simp [h]
  · intro h; simpa using h
theorem ones {n i : Nat} (h : i < n) : (2 ^ n - 1).testBit i = true := by rw [Nat.testBit_two_pow_sub_one]; simp [h]
theorem high {x n i : Nat} (hx : x < 2 ^ n) (h : n ≤ i) : x.testBit i = false := Nat.testBit_lt_two_pow (Nat.lt_of_lt_of_le hx (Nat.pow_le_pow_right (by decide) h))
theorem hab3 {row a : Nat} (hr : row < 65536) : row &&& ((1 <<< a) ^^^ 4294967295) = row &&& (65535 ^^^ (1 <<< a)) := by
  apply Nat.eq_of_testBit_eq
  intro i
  simp only [Nat.testBit_and, Nat.testBit_xor]
  by_cases hi : i < 16
  · rw [show 4294967295 = 2 ^ 32 - 1 by decide, show 65535 = 2 ^ 16 - 1 by decide, ones (n := 32) (by omega), ones hi, Bool.xor_comm]
  · rw [high (n := 16) hr (by omega)]
    simp
theorem hab5 {row a b : Nat} : (((row >>> a) ^^^ (row >>> b)) &&& 1) = 0 ↔ row.testBit a = row.testBit b := by
  rw [bit1, Nat.testBit_xor, Nat.testBit_shiftRight, Nat.testBit_shiftRight]
  cases row.testBit (a + 0) <;> cases row.testBit (b + 0) <;> simp_all
theorem hab_lt {k a b row : Nat} (h : hok k a b) (hr : row < 65536) : hab k a b row < 65536 := by
  obtain ⟨h1, h2, h3, -⟩ := h
  have hp : ∀ c, c < 16 → 1 <<< c < 2 ^ 16 := fun c hc => by rw [Nat.one_shiftLeft]; exact Nat.pow_lt_pow_right (by decide) hc
  have hr' : row < 2 ^ 16 := hr
  show hab k a b row < 2 ^ 16
  unfold hab
  split
  · exact Nat.xor_lt_two_pow hr' (hp a h2)
  · exact Nat.or_lt_two_pow hr' (hp a h2)
  · exact Nat.and_lt_two_pow _ (Nat.xor_lt_two_pow (by decide) (hp a h2))
  · exact Nat.and_lt_two_pow _ (by decide)
  · split
    · exact hr'
    · exact Nat.xor_lt_two_pow hr' (Nat.or_lt_two_pow (hp a h2) (hp b h3))
  · refine Nat.or_lt_two_pow (Nat.and_lt_two_pow _ (Nat.xor_lt_two_pow (by decide) (hp b h3))) ?_
    split
    · exact hp b h3
    · decide
  · exact hr'
theorem k7 {k : Nat} (h : k < 7) : k = 0 ∨ k = 1 ∨ k = 2 ∨ k = 3 ∨ k = 4 ∨ k = 5 ∨ k = 6 := by omega
set_option maxRecDepth 20000 in
set_option maxHeartbeats 1000000 in
theorem w_X1_signsOf {D : Nat → Nat → Int32} {L : Nat → Nat → Int64} {Q : bh_Q} {k : Nat} (hk : k < 7) (k1 : Q (some (.int (nI (sg k)))) (hp D L)) : bh_wc 1 m_X1_signsOf [.int (nI k)] (hp D L) Q := by
  refine x_start (lv0 := [_]) (Nat.le_of_ble_eq_true rfl) rfl ?_
  refine x_iload (pc' := 1) rfl rfl rfl ?_
  refine y_if_ne (pc' := 4) rfl rfl (by omega) (fun c1 => ?_) (fun c1 => ?_)
  · refine x_iload (pc' := 7) rfl rfl rfl ?_
    refine x_int (pc' := 8) (v := nI 5) rfl rfl rfl ?_
    refine y_ic_eq (pc' := 11) rfl rfl (by omega) (by omega) (fun c8 => ?_) (fun c8 => ?_)
    · refine x_int (pc' := 18) (v := nI 2) rfl rfl rfl ?_
      refine x_goto rfl ?_
      refine x_iret rfl rfl ?_
      have e : sg k = 2 := by unfold sg; (repeat' split) <;> omega
      rw [e] at k1
      exact k1
    · refine x_iload (pc' := 12) rfl rfl rfl ?_
      refine x_int (pc' := 14) (v := nI 6) rfl rfl rfl ?_
      refine y_ic_ne (pc' := 17) rfl rfl (by omega) (by omega) (fun c14 => ?_) (fun c14 => ?_)
      · refine x_int (pc' := 22) (v := nI 1) rfl rfl rfl ?_
        refine x_iret rfl rfl ?_
        have e : sg k = 1 := by unfold sg; (repeat' split) <;> omega
        rw [e] at k1
        exact k1
      · refine x_int (pc' := 18) (v := nI 2) rfl rfl rfl ?_
        refine x_goto rfl ?_
        refine x_iret rfl rfl ?_
        have e : sg k = 2 := by unfold sg; (repeat' split) <;> omega
        rw [e] at k1
        exact k1
  · refine x_int (pc' := 5) (v := nI 0) rfl rfl rfl ?_
    refine x_iret rfl rfl ?_
    have e : sg k = 0 := by unfold sg; (repeat' split) <;> omega
    rw [e] at k1
    exact k1
set_option maxRecDepth 20000 in
set_option maxHeartbeats 1000000 in
theorem w_X1_firstSign {D : Nat → Nat → Int32} {L : Nat → Nat → Int64} {Q : bh_Q} {k : Nat} {x : Int32} (hk : k < 7) (k1 : Q (some (.int (if 0 < sg k then x else -1))) (hp D L)) : bh_wc 2 m_X1_firstSign [.int (nI k), .int x] (hp D L) Q := by
  refine x_start (lv0 := [_, _]) (Nat.le_of_ble_eq_true rfl) rfl ?_
  refine x_iload (pc' := 1) rfl rfl rfl ?_
  refine x_callS (pc' := 4) (d1 := 1) (As := [_]) rfl rfl rfl rfl (by decide) rfl rfl (Nat.le_of_ble_eq_true rfl) ⟨rfl, rfl⟩ (by decide) ?_
  refine w_X1_signsOf (by omega) ?_
  refine ⟨rfl, ?_⟩
  refine y_if_le (pc' := 7) rfl rfl (by first | omega | (unfold sg; (repeat' split) <;> omega)) (fun c4 => ?_) (fun c4 => ?_)
  · refine x_int (pc' := 12) (v := (-1)) rfl rfl rfl ?_
    refine x_iret rfl rfl ?_
    rw [if_neg (by omega)] at k1
    exact k1
  · refine x_iload (pc' := 8) rfl rfl rfl ?_
    refine x_goto rfl ?_
    refine x_iret rfl rfl ?_
    rw [if_pos (by omega)] at k1
    exact k1
set_option maxRecDepth 20000 in
set_option maxHeartbeats 1000000 in
theorem w_X1_secondSign {D : Nat → Nat → Int32} {L : Nat → Nat → Int64} {Q : bh_Q} {k : Nat} {x : Int32} (hk : k < 7) (k1 : Q (some (.int (if 1 < sg k then x else -1))) (hp D L)) : bh_wc 2 m_X1_secondSign [.int (nI k), .int x] (hp D L) Q := by
  refine x_start (lv0 := [_, _]) (Nat.le_of_ble_eq_true rfl) rfl ?_
  refine x_iload (pc' := 1) rfl rfl rfl ?_
  refine x_callS (pc' := 4) (d1 := 1) (As := [_]) rfl rfl rfl rfl (by decide) rfl rfl (Nat.le_of_ble_eq_true rfl) ⟨rfl, rfl⟩ (by decide) ?_
  refine w_X1_signsOf (by omega) ?_
  refine ⟨rfl, ?_⟩
  refine x_int (pc' := 5) (v := nI 1) rfl rfl rfl ?_
  refine y_ic_le (pc' := 8) rfl rfl (by first | omega | (unfold sg; (repeat' split) <;> omega)) (by first | omega | (unfold sg; (repeat' split) <;> omega)) (fun c5 => ?_) (fun c5 => ?_)
  · refine x_int (pc' := 13) (v := (-1)) rfl rfl rfl ?_
    refine x_iret rfl rfl ?_
    rw [if_neg (by omega)] at k1
    exact k1
  · refine x_iload (pc' := 9) rfl rfl rfl ?_
    refine x_goto rfl ?_
    refine x_iret rfl rfl ?_
    rw [if_pos (by omega)] at k1
    exact k1
set_option maxRecDepth 20000 in
set_option maxHeartbeats 1000000 in
theorem w_X1_changeRow {D : Nat → Nat → Int32} {L : Nat → Nat → Int64} {Q : bh_Q} {k a b row : Nat} (h : hok k a b) (hr : row < 65536) (k1 : Q (some (.int (nI (hab k a b row)))) (hp D L)) : bh_wc 1 m_X1_changeRow [.int (nI k), .int (nI a), .int (nI b), .int (nI row)] (hp D L) Q := by
  refine x_start (lv0 := [_, _, _, _]) (Nat.le_of_ble_eq_true rfl) rfl ?_
  refine x_iload (pc' := 1) rfl rfl rfl ?_
  rcases k7 h.1 with rfl | rfl | rfl | rfl | rfl | rfl | rfl
  · refine x_tab1O rfl (Or.inl (by decide)) (by decide) ?_
    refine x_iload (pc' := 117) rfl rfl rfl ?_
    refine x_iret rfl rfl ?_
    exact k1
  · refine x_tab1N (n := 0) (t := 40) rfl (by decide) rfl ?_
    refine x_iload (pc' := 41) rfl rfl rfl ?_
    refine x_int (pc' := 42) (v := nI 1) rfl rfl rfl ?_
    refine x_iload (pc' := 43) rfl rfl rfl ?_
    refine y_ishl (pc' := 44) rfl rfl (by first | omega | (have := h.2.1; have := h.2.2.1; omega)) ?_
    refine y_ixor (pc' := 45) rfl rfl ?_
    refine x_iret rfl rfl ?_
    exact k1
  · refine x_tab1N (n := 1) (t := 46) rfl (by decide) rfl ?_
    refine x_iload (pc' := 47) rfl rfl rfl ?_
    refine x_int (pc' := 48) (v := nI 1) rfl rfl rfl ?_
    refine x_iload (pc' := 49) rfl rfl rfl ?_
    refine y_ishl (pc' := 50) rfl rfl (by first | omega | (have := h.2.1; have := h.2.2.1; omega)) ?_
    refine y_ior (pc' := 51) rfl rfl ?_
    refine x_iret rfl rfl ?_
    exact k1
  · refine x_tab1N (n := 2) (t := 52) rfl (by decide) rfl ?_
    refine x_iload (pc' := 53) rfl rfl rfl ?_
    refine x_int (pc' := 54) (v := nI 1) rfl rfl rfl ?_
    refine x_iload (pc' := 55) rfl rfl rfl ?_
    refine y_ishl (pc' := 56) rfl rfl (by first | omega | (have := h.2.1; have := h.2.2.1; omega)) ?_
    refine x_int (pc' := 57) (v := nI 4294967295) rfl rfl rfl ?_
    refine y_ixor (pc' := 58) rfl rfl ?_
    refine y_iand (pc' := 59) rfl rfl ?_
    refine x_iret rfl rfl ?_
    rw [hab3 hr]
    exact k1
  · refine x_tab1N (n := 3) (t := 60) rfl (by decide) rfl ?_
    refine x_iload (pc' := 61) rfl rfl rfl ?_
    refine x_iload (pc' := 62) rfl rfl rfl ?_
    refine y_ishl (pc' := 63) rfl rfl (by first | omega | (have := h.2.1; have := h.2.2.1; omega)) ?_
    refine x_iload (pc' := 64) rfl rfl rfl ?_
    refine x_int (pc' := 66) (v := nI 16) rfl rfl rfl ?_
    refine x_iload (pc' := 67) rfl rfl rfl ?_
    refine y_isub (pc' := 68) rfl rfl (by first | omega | (have := h.2.1; have := h.2.2.1; omega)) ?_
    refine y_iushr (pc' := 69) rfl rfl (by first | omega | (have := h.2.1; have := h.2.2.1; omega)) (by first | omega | (have := h.2.1; have := h.2.2.1; omega)) ?_
    refine y_ior (pc' := 70) rfl rfl ?_
    refine x_int (pc' := 72) (v := nI 65535) rfl rfl rfl ?_
    refine y_iand (pc' := 73) rfl rfl ?_
    refine x_iret rfl rfl ?_
    exact k1
  · refine x_tab1N (n := 4) (t := 74) rfl (by decide) rfl ?_
    refine x_iload (pc' := 75) rfl rfl rfl ?_
    refine x_iload (pc' := 76) rfl rfl rfl ?_
    refine y_ishr (pc' := 77) rfl rfl (by first | omega | (have := h.2.1; have := h.2.2.1; omega)) (by first | omega | (have := h.2.1; have := h.2.2.1; omega)) ?_
    refine x_iload (pc' := 78) rfl rfl rfl ?_
    refine x_iload (pc' := 79) rfl rfl rfl ?_
    refine y_ishr (pc' := 80) rfl rfl (by first | omega | (have := h.2.1; have := h.2.2.1; omega)) (by first | omega | (have := h.2.1; have := h.2.2.1; omega)) ?_
    refine y_ixor (pc' := 81) rfl rfl ?_
    refine x_int (pc' := 82) (v := nI 1) rfl rfl rfl ?_
    refine y_iand (pc' := 83) rfl rfl ?_
    refine y_if_ne (pc' := 86) rfl rfl (Nat.lt_of_le_of_lt Nat.and_le_right (by decide)) (fun c83 => ?_) (fun c83 => ?_)
    · refine x_iload (pc' := 91) rfl rfl rfl ?_
      refine x_int (pc' := 92) (v := nI 1) rfl rfl rfl ?_
      refine x_iload (pc' := 93) rfl rfl rfl ?_
      refine y_ishl (pc' := 94) rfl rfl (by first | omega | (have := h.2.1; have := h.2.2.1; omega)) ?_
      refine x_int (pc' := 95) (v := nI 1) rfl rfl rfl ?_
      refine x_iload (pc' := 96) rfl rfl rfl ?_
      refine y_ishl (pc' := 97) rfl rfl (by first | omega | (have := h.2.1; have := h.2.2.1; omega)) ?_
      refine y_ior (pc' := 98) rfl rfl ?_
      refine y_ixor (pc' := 99) rfl rfl ?_
      refine x_iret rfl rfl ?_
      first | (have e : hab 5 a b row = _ := if_pos (hab5.mp c83); rw [e] at k1; exact k1) | (have e : hab 5 a b row = _ := if_neg (fun e => c83 (hab5.mpr e)); rw [e] at k1; exact k1)
    · refine x_iload (pc' := 87) rfl rfl rfl ?_
      refine x_goto rfl ?_
      refine x_iret rfl rfl ?_
      first | (have e : hab 5 a b row = _ := if_pos (hab5.mp c83); rw [e] at k1; exact k1) | (have e : hab 5 a b row = _ := if_neg (fun e => c83 (hab5.mpr e)); rw [e] at k1; exact k1)
  · refine x_tab1N (n := 5) (t := 100) rfl (by decide) rfl ?_
    refine x_iload (pc' := 101) rfl rfl rfl ?_
    refine x_int (pc' := 102) (v := nI 1) rfl rfl rfl ?_
    refine x_iload (pc' := 103) rfl rfl rfl ?_
    refine y_ishl (pc' := 104) rfl rfl (by first | omega | (have := h.2.1; have := h.2.2.1; omega)) ?_
    refine x_int (pc' := 105) (v := nI 4294967295) rfl rfl rfl ?_
    refine y_ixor (pc' := 106) rfl rfl ?_
    refine y_iand (pc' := 107) rfl rfl ?_
    refine x_iload (pc' := 108) rfl rfl rfl ?_
    refine x_iload (pc' := 109) rfl rfl rfl ?_
    refine y_ishr (pc' := 110) rfl rfl (by first | omega | (have := h.2.1; have := h.2.2.1; omega)) (by first | omega | (have := h.2.1; have := h.2.2.1; omega)) ?_
    refine x_int (pc' := 111) (v := nI 1) rfl rfl rfl ?_
    refine y_iand (pc' := 112) rfl rfl ?_
    refine x_iload (pc' := 113) rfl rfl rfl ?_
    refine y_ishl (pc' := 114) rfl rfl (by first | omega | (have := h.2.1; have := h.2.2.1; omega)) ?_
    refine y_ior (pc' := 115) rfl rfl ?_
    refine x_iret rfl rfl ?_
    rw [hab3 hr, tb]
    have e : (if row.testBit a = true then 1 else 0) <<< b = if row.testBit a = true then 1 <<< b else 0 := by split <;> simp
    rw [e]
    exact k1
set_option maxRecDepth 20000 in
set_option maxHeartbeats 1000000 in
theorem w_X1_signAt {D : Nat → Nat → Int32} {L : Nat → Nat → Int64} {Q : bh_Q} {row i : Nat} (hr : row < 65536) (hi : i < 16) (k1 : Q (some (.int (nI (if row.testBit i then 1 else 0)))) (hp D L)) : bh_wc 1 m_X1_signAt [.int (nI row), .int (nI i)] (hp D L) Q := by
  refine x_start (lv0 := [_, _]) (Nat.le_of_ble_eq_true rfl) rfl ?_
  refine x_iload (pc' := 1) rfl rfl rfl ?_
  refine x_iload (pc' := 2) rfl rfl rfl ?_
  refine y_ishr (pc' := 3) rfl rfl (by omega) (by omega) ?_
  refine x_int (pc' := 4) (v := nI 1) rfl rfl rfl ?_
  refine y_iand (pc' := 5) rfl rfl ?_
  refine x_iret rfl rfl ?_
  rw [tb]
  exact k1
theorem okH_k {k : Nat} {y z : Int32} (hk : k < 7) (h : okH (nI k) y z) : ∃ a b, hok k a b ∧ (1 ≤ k → y = nI a) ∧ (5 ≤ k → z = nI b) := by
  obtain ⟨k2, a, b, e, h1, h2, h3⟩ := h
  have := nI_inj (by omega) (by have := h1.1; omega) e
  subst this
  exact ⟨a, b, h1, h2, h3⟩
end
section
/-! ===== bits of a town; hands ===== -/
theorem tb1 {x w : Nat} : (x >>> w &&& 1) = 1 ↔ x.testBit w = true := by
  rw [tb]; split <;> simp_all
theorem tb0 {x w : Nat} : (x >>> w &&& 1) = 0 ↔ x.testBit w = false := by
  rw [tb]; split <;> simp_all
theorem and1 (x : Nat) : x &&& 1 < 2 ^ 31 := Nat.lt_of_le_of_lt Nat.and_le_right (by decide)
theorem getD_app {l m : List Nat} {i : Nat} (h : i < l.length) : (l ++ m).getD i 0 = l.getD i 0 := by
  rw [List.getD_eq_getElem?_getD, List.getElem?_append_left h, ← List.getD_eq_getElem?_getD]
def hdI : List Nat → Int32
  | [] => -1
  | x :: _ => nI x
/-- hands: each stands, each has the next under him -/
def isC (T : TW) : List Nat → Prop
  | [] => True
  | x :: r => x < nw T ∧ T 5 x = hdI r ∧ isC T r
def OffH (D D' : Nat → Nat → Int32) : Prop := ∀ k, k ≠ 31 → k ≠ 32 → D' k = D k
theorem OffH.rf {D : Nat → Nat → Int32} : OffH D D := fun _ _ _ => rfl
theorem OffH.tr {D D1 D2 : Nat → Nat → Int32} (h1 : OffH D D1) (h2 : OffH D1 D2) : OffH D D2 := fun k a b => (h2 k a b).trans (h1 k a b)
theorem OffH.up {D : Nat → Nat → Int32} {k j : Nat} {x : Int32} (hk : k = 31 ∨ k = 32) : OffH D (bh_up2 D k j x) := fun a h1 h2 => bh_up2_ne _ _ _ (by omega)
/-- the list lies in the hands' row -/
def HdL (D : Nat → Nat → Int32) (l : List Nat) : Prop := D 31 1 = nI l.length ∧ ∀ i, i < l.length → D 32 i = nI (l.getD i 0)
set_option maxRecDepth 20000 in
set_option maxHeartbeats 1000000 in
theorem w_X7_isDead {D : Nat → Nat → Int32} {L : Nat → Nat → Int64} {Q : bh_Q} (hW : WF (tv D)) {w : Nat} (hw : w < nw (tv D)) (k1 : isD (tv D) w = true → Q (some (.int 1)) (hp D L)) (k0 : isD (tv D) w = false → Q (some (.int 0)) (hp D L)) : bh_wc 1 m_X7_isDead [.ref 1, .int (nI w)] (hp D L) Q := by
  refine x_start (lv0 := [_, _]) (Nat.le_of_ble_eq_true rfl) rfl ?_
  have h12 := hW.nwl
  have hm := hW.de12
  refine x_aload (pc' := 1) rfl rfl rfl ?_
  refine x_getI (j := 5) (pc' := 4) rfl rfl rfl (by decide) rfl (by decide) rfl rfl ?_
  refine x_top (hW.ede) ?_
  refine x_iload (pc' := 5) rfl rfl rfl ?_
  refine y_ishr (pc' := 6) rfl rfl (by omega) (by omega) ?_
  refine x_int (pc' := 7) (v := nI 1) rfl rfl rfl ?_
  refine y_iand (pc' := 8) rfl rfl ?_
  refine x_int (pc' := 9) (v := nI 1) rfl rfl rfl ?_
  refine y_ic_ne (pc' := 12) rfl rfl (and1 _) (by decide) (fun c9 => ?_) (fun c9 => ?_)
  · refine x_int (pc' := 17) (v := nI 0) rfl rfl rfl ?_
    refine x_zret rfl rfl (by decide) ?_
    exact k0 (by rw [← Bool.not_eq_true]; exact fun e => c9 (tb1.mpr e))
  · refine x_int (pc' := 13) (v := nI 1) rfl rfl rfl ?_
    refine x_goto rfl ?_
    refine x_zret rfl rfl (by decide) ?_
    exact k1 (tb1.mp c9)
set_option maxRecDepth 20000 in
set_option maxHeartbeats 1000000 in
theorem w_X7_inMood {D : Nat → Nat → Int32} {L : Nat → Nat → Int64} {Q : bh_Q} (hW : WF (tv D)) {w : Nat} (hw : w < nw (tv D)) (k1 : isM (tv D) w = true → Q (some (.int 1)) (hp D L)) (k0 : isM (tv D) w = false → Q (some (.int 0)) (hp D L)) : bh_wc 1 m_X7_inMood [.ref 1, .int (nI w)] (hp D L) Q := by
  refine x_start (lv0 := [_, _]) (Nat.le_of_ble_eq_true rfl) rfl ?_
  have h12 := hW.nwl
  have hm := hW.mo12
  refine x_aload (pc' := 1) rfl rfl rfl ?_
  refine x_getI (j := 4) (pc' := 4) rfl rfl rfl (by decide) rfl (by decide) rfl rfl ?_
  refine x_top (hW.emo) ?_
  refine x_iload (pc' := 5) rfl rfl rfl ?_
  refine y_ishr (pc' := 6) rfl rfl (by omega) (by omega) ?_
  refine x_int (pc' := 7) (v := nI 1) rfl rfl rfl ?_
  refine y_iand (pc' := 8) rfl rfl ?_
  refine x_int (pc' := 9) (v := nI 1) rfl rfl rfl ?_
  refine y_ic_ne (pc' := 12) rfl rfl (and1 _) (by decide) (fun c9 => ?_) (fun c9 => ?_)
  · refine x_int (pc' := 17) (v := nI 0) rfl rfl rfl ?_
    refine x_zret rfl rfl (by decide) ?_
    exact k0 (by rw [← Bool.not_eq_true]; exact fun e => c9 (tb1.mpr e))
  · refine x_int (pc' := 13) (v := nI 1) rfl rfl rfl ?_
    refine x_goto rfl ?_
    refine x_zret rfl rfl (by decide) ?_
    exact k1 (tb1.mp c9)
set_option maxRecDepth 20000 in
set_option maxHeartbeats 1000000 in
theorem w_X7_hasStock {D : Nat → Nat → Int32} {L : Nat → Nat → Int64} {Q : bh_Q} (hW : WF (tv D)) {w b : Nat} (hw : w < nw (tv D)) (hb : b < nb (tv D)) (k1 : (sk (tv D) w).testBit b = true → Q (some (.int 1)) (hp D L)) (k0 : (sk (tv D) w).testBit b = false → Q (some (.int 0)) (hp D L)) : bh_wc 1 m_X7_hasStock [.ref 1, .int (nI w), .int (nI b)] (hp D L) Q := by
  refine x_start (lv0 := [_, _, _]) (Nat.le_of_ble_eq_true rfl) rfl ?_
  have h12 := hW.nwl
  have h4 := hW.nbl
  have hm := hW.sk4 hw
  refine x_aload (pc' := 1) rfl rfl rfl ?_
  refine x_getR (pc' := 4) rfl rfl rfl (by decide) rfl (by decide) rfl rfl ?_
  refine x_iload (pc' := 5) rfl rfl rfl ?_
  refine x_iald (pc' := 6) rfl rfl (by decide) rfl (by decide) (show _ < 12 by omega) ?_
  refine x_top (hW.esk hw) ?_
  refine x_iload (pc' := 7) rfl rfl rfl ?_
  refine y_ishr (pc' := 8) rfl rfl (by omega) (by omega) ?_
  refine x_int (pc' := 9) (v := nI 1) rfl rfl rfl ?_
  refine y_iand (pc' := 10) rfl rfl ?_
  refine x_int (pc' := 11) (v := nI 1) rfl rfl rfl ?_
  refine y_ic_ne (pc' := 14) rfl rfl (and1 _) (by decide) (fun c11 => ?_) (fun c11 => ?_)
  · refine x_int (pc' := 19) (v := nI 0) rfl rfl rfl ?_
    refine x_zret rfl rfl (by decide) ?_
    exact k0 (by rw [← Bool.not_eq_true]; exact fun e => c11 (tb1.mpr e))
  · refine x_int (pc' := 15) (v := nI 1) rfl rfl rfl ?_
    refine x_goto rfl ?_
    refine x_zret rfl rfl (by decide) ?_
    exact k1 (tb1.mp c11)
set_option maxRecDepth 20000 in
set_option maxHeartbeats 1000000 in
theorem w_X7_stockOf {D : Nat → Nat → Int32} {L : Nat → Nat → Int64} {Q : bh_Q} (hW : WF (tv D)) {w b q : Nat} (hw : w < nw (tv D)) (hb : b < nb (tv D)) (hp0 : q < lng (tv D) b) (hs : (sk (tv D) w).testBit b = true) (k1 : Q (some (.int (nI (stk (tv D) w b q)))) (hp D L)) : bh_wc 1 m_X7_stockOf [.ref 1, .int (nI w), .int (nI b), .int (nI q)] (hp D L) Q := by
  refine x_start (lv0 := [_, _, _, _]) (Nat.le_of_ble_eq_true rfl) rfl ?_
  have h12 := hW.nwl
  have h4 := hW.nbl
  have h8 := hW.lngl hb
  refine x_aload (pc' := 1) rfl rfl rfl ?_
  refine x_getR (pc' := 4) rfl rfl rfl (by decide) rfl (by decide) rfl rfl ?_
  refine x_iload (pc' := 5) rfl rfl rfl ?_
  refine x_int (pc' := 6) (v := nI 4) rfl rfl rfl ?_
  refine y_imul (pc' := 7) rfl rfl ?_
  refine x_iload (pc' := 8) rfl rfl rfl ?_
  refine y_iadd (pc' := 9) rfl rfl ?_
  refine x_int (pc' := 11) (v := nI 8) rfl rfl rfl ?_
  refine y_imul (pc' := 12) rfl rfl ?_
  refine x_iload (pc' := 13) rfl rfl rfl ?_
  refine y_iadd (pc' := 14) rfl rfl ?_
  refine x_iald (pc' := 15) rfl rfl (by decide) rfl (by decide) (show _ < 384 by omega) ?_
  refine x_top (hW.estk hw hb hp0 hs) ?_
  refine x_iret rfl rfl ?_
  exact k1
set_option maxRecDepth 20000 in
set_option maxHeartbeats 1000000 in
theorem w_X7_rowOf {D : Nat → Nat → Int32} {L : Nat → Nat → Int64} {Q : bh_Q} (hW : WF (tv D)) {b q : Nat} (hb : b < nb (tv D)) (hp0 : q < lng (tv D) b) (k1 : Q (some (.int (nI (pg (tv D) b q)))) (hp D L)) : bh_wc 1 m_X7_rowOf [.ref 1, .int (nI b), .int (nI q)] (hp D L) Q := by
  refine x_start (lv0 := [_, _, _]) (Nat.le_of_ble_eq_true rfl) rfl ?_
  have h4 := hW.nbl
  have h8 := hW.lngl hb
  refine x_aload (pc' := 1) rfl rfl rfl ?_
  refine x_getR (pc' := 4) rfl rfl rfl (by decide) rfl (by decide) rfl rfl ?_
  refine x_iload (pc' := 5) rfl rfl rfl ?_
  refine x_int (pc' := 7) (v := nI 8) rfl rfl rfl ?_
  refine y_imul (pc' := 8) rfl rfl ?_
  refine x_iload (pc' := 9) rfl rfl rfl ?_
  refine y_iadd (pc' := 10) rfl rfl ?_
  refine x_iald (pc' := 11) rfl rfl (by decide) rfl (by decide) (show _ < 32 by omega) ?_
  refine x_top (hW.epg hb hp0) ?_
  refine x_iret rfl rfl ?_
  exact k1
set_option maxRecDepth 20000 in
set_option maxHeartbeats 1000000 in
theorem w_X7_pageOfSeen {D : Nat → Nat → Int32} {L : Nat → Nat → Int64} {Q : bh_Q} (hW : WF (tv D)) {b i : Nat} (hb : b < nb (tv D)) (hi : i < 100) (k1 : Q (some (.int (nI (i % lng (tv D) b)))) (hp D L)) : bh_wc 1 m_X7_pageOfSeen [.ref 1, .int (nI b), .int (nI i)] (hp D L) Q := by
  refine x_start (lv0 := [_, _, _]) (Nat.le_of_ble_eq_true rfl) rfl ?_
  have h4 := hW.nbl
  have h8 := hW.lngl hb
  have h0 := hW.lng0 hb
  refine x_aload (pc' := 1) rfl rfl rfl ?_
  refine x_getR (pc' := 4) rfl rfl rfl (by decide) rfl (by decide) rfl rfl ?_
  refine x_iload (pc' := 5) rfl rfl rfl ?_
  refine x_iald (pc' := 6) rfl rfl (by decide) rfl (by decide) (show _ < 4 by omega) ?_
  refine x_top (hW.elng hb) ?_
  refine y_if_le (pc' := 9) rfl rfl (by omega) (fun c6 => ?_) (fun c6 => ?_)
  · exact absurd c6 (by omega)
  · refine x_iload (pc' := 10) rfl rfl rfl ?_
    refine x_aload (pc' := 11) rfl rfl rfl ?_
    refine x_getR (pc' := 14) rfl rfl rfl (by decide) rfl (by decide) rfl rfl ?_
    refine x_iload (pc' := 15) rfl rfl rfl ?_
    refine x_iald (pc' := 16) rfl rfl (by decide) rfl (by decide) (show _ < 4 by omega) ?_
    refine x_top (hW.elng hb) ?_
    refine y_irem (pc' := 17) rfl rfl (by omega) (by omega) (by omega) ?_
    refine x_goto rfl ?_
    refine x_iret rfl rfl ?_
    exact k1
set_option maxRecDepth 20000 in
set_option maxHeartbeats 1000000 in
theorem w_X7_habitOn {D : Nat → Nat → Int32} {L : Nat → Nat → Int64} {Q : bh_Q} (hW : WF (tv D)) {w row : Nat} (hw : w < nw (tv D)) (hr : row < 65536) (k1 : Q (some (.int (nI (hab (kd (tv D) w) (fa (tv D) w) (fb (tv D) w) row)))) (hp D L)) : bh_wc 2 m_X7_habitOn [.ref 1, .int (nI w), .int (nI row)] (hp D L) Q := by
  refine x_start (lv0 := [_, _, _]) (Nat.le_of_ble_eq_true rfl) rfl ?_
  have h12 := hW.nwl
  refine x_aload (pc' := 1) rfl rfl rfl ?_
  refine x_getR (pc' := 4) rfl rfl rfl (by decide) rfl (by decide) rfl rfl ?_
  refine x_iload (pc' := 5) rfl rfl rfl ?_
  refine x_iald (pc' := 6) rfl rfl (by decide) rfl (by decide) (show _ < 12 by omega) ?_
  refine x_top (hW.ekd hw) ?_
  refine x_aload (pc' := 7) rfl rfl rfl ?_
  refine x_getR (pc' := 10) rfl rfl rfl (by decide) rfl (by decide) rfl rfl ?_
  refine x_iload (pc' := 11) rfl rfl rfl ?_
  refine x_iald (pc' := 12) rfl rfl (by decide) rfl (by decide) (show _ < 12 by omega) ?_
  refine x_top (hW.efa hw) ?_
  refine x_aload (pc' := 13) rfl rfl rfl ?_
  refine x_getR (pc' := 16) rfl rfl rfl (by decide) rfl (by decide) rfl rfl ?_
  refine x_iload (pc' := 17) rfl rfl rfl ?_
  refine x_iald (pc' := 18) rfl rfl (by decide) rfl (by decide) (show _ < 12 by omega) ?_
  refine x_top (hW.efb hw) ?_
  refine x_iload (pc' := 19) rfl rfl rfl ?_
  refine x_callS (pc' := 22) (d1 := 1) (As := [_, _, _, _]) rfl rfl rfl rfl (by decide) rfl rfl (Nat.le_of_ble_eq_true rfl) ⟨rfl, rfl⟩ (by decide) ?_
  refine w_X1_changeRow (hW.ehok hw) hr ?_
  refine ⟨rfl, ?_⟩
  refine x_iret rfl rfl ?_
  exact k1
set_option maxRecDepth 20000 in
set_option maxHeartbeats 1000000 in
theorem w_X7_hasHabit {D : Nat → Nat → Int32} {L : Nat → Nat → Int64} {Q : bh_Q} (hW : WF (tv D)) {w k a b : Nat} (hw : w < nw (tv D)) (hk : k < 100) (ha : a < 100) (hb : b < 100) (k1 : kd (tv D) w = k → fa (tv D) w = a → fb (tv D) w = b → Q (some (.int 1)) (hp D L)) (k0 : ¬ (kd (tv D) w = k ∧ fa (tv D) w = a ∧ fb (tv D) w = b) → Q (some (.int 0)) (hp D L)) : bh_wc 1 m_X7_hasHabit [.ref 1, .int (nI w), .int (nI k), .int (nI a), .int (nI b)] (hp D L) Q := by
  refine x_start (lv0 := [_, _, _, _, _]) (Nat.le_of_ble_eq_true rfl) rfl ?_
  have h12 := hW.nwl
  refine x_aload (pc' := 1) rfl rfl rfl ?_
  refine x_getR (pc' := 4) rfl rfl rfl (by decide) rfl (by decide) rfl rfl ?_
  refine x_iload (pc' := 5) rfl rfl rfl ?_
  refine x_iald (pc' := 6) rfl rfl (by decide) rfl (by decide) (show _ < 12 by omega) ?_
  refine x_top (hW.ekd hw) ?_
  refine x_iload (pc' := 7) rfl rfl rfl ?_
  refine y_ic_ne (pc' := 10) rfl rfl (by first | omega | (have := hW.kdl hw; have := hW.fal hw; have := hW.fbl hw; omega)) (by first | omega | (have := hW.kdl hw; have := hW.fal hw; have := hW.fbl hw; omega)) (fun c7 => ?_) (fun c7 => ?_)
  · refine x_int (pc' := 36) (v := nI 0) rfl rfl rfl ?_
    refine x_zret rfl rfl (by decide) ?_
    first | exact k0 (fun h => c7 h.1) | exact k0 (fun h => c17 h.2.1) | exact k0 (fun h => c28 h.2.2)
  · refine x_aload (pc' := 11) rfl rfl rfl ?_
    refine x_getR (pc' := 14) rfl rfl rfl (by decide) rfl (by decide) rfl rfl ?_
    refine x_iload (pc' := 15) rfl rfl rfl ?_
    refine x_iald (pc' := 16) rfl rfl (by decide) rfl (by decide) (show _ < 12 by omega) ?_
    refine x_top (hW.efa hw) ?_
    refine x_iload (pc' := 17) rfl rfl rfl ?_
    refine y_ic_ne (pc' := 20) rfl rfl (by first | omega | (have := hW.kdl hw; have := hW.fal hw; have := hW.fbl hw; omega)) (by first | omega | (have := hW.kdl hw; have := hW.fal hw; have := hW.fbl hw; omega)) (fun c17 => ?_) (fun c17 => ?_)
    · refine x_int (pc' := 36) (v := nI 0) rfl rfl rfl ?_
      refine x_zret rfl rfl (by decide) ?_
      first | exact k0 (fun h => c7 h.1) | exact k0 (fun h => c17 h.2.1) | exact k0 (fun h => c28 h.2.2)
    · refine x_aload (pc' := 21) rfl rfl rfl ?_
      refine x_getR (pc' := 24) rfl rfl rfl (by decide) rfl (by decide) rfl rfl ?_
      refine x_iload (pc' := 25) rfl rfl rfl ?_
      refine x_iald (pc' := 26) rfl rfl (by decide) rfl (by decide) (show _ < 12 by omega) ?_
      refine x_top (hW.efb hw) ?_
      refine x_iload (pc' := 28) rfl rfl rfl ?_
      refine y_ic_ne (pc' := 31) rfl rfl (by first | omega | (have := hW.kdl hw; have := hW.fal hw; have := hW.fbl hw; omega)) (by first | omega | (have := hW.kdl hw; have := hW.fal hw; have := hW.fbl hw; omega)) (fun c28 => ?_) (fun c28 => ?_)
      · refine x_int (pc' := 36) (v := nI 0) rfl rfl rfl ?_
        refine x_zret rfl rfl (by decide) ?_
        first | exact k0 (fun h => c7 h.1) | exact k0 (fun h => c17 h.2.1) | exact k0 (fun h => c28 h.2.2)
      · refine x_int (pc' := 32) (v := nI 1) rfl rfl rfl ?_
        refine x_goto rfl ?_
        refine x_zret rfl rfl (by decide) ?_
        exact k1 c7 c17 c28
set_option maxRecDepth 20000 in
theorem l_X2_lud {T : TW} {dd d : Nat} {L : Nat → Nat → Int64} {Q : bh_Q} {wv : Value} (hdd : dd < 4096) (hnw : nw T ≤ 12) : ∀ (r px : List Nat) (D : Nat → Nat → Int32), isC T r → px.length + r.length ≤ 12 → D 6 = T 5 → D 31 1 = nI px.length → (∀ i, i < px.length → D 32 i = nI (px.getD i 0)) →
    (∀ D', OffH D D' → HdL D' (px ++ r.takeWhile (fun y => !dd.testBit y)) → Q (some (.int (hdI (r.dropWhile (fun y => !dd.testBit y))))) (hp D' L)) → bw m_X2_listUntilDead d Q 8 [.ref 31, .ref 1, wv, .int (nI dd), .int (hdI r)] [] D L := by
  intro r
  induction r with
  | nil =>
    intro px D hC hlen h6 hm hl k
    refine x_iload (pc' := 10) rfl rfl rfl ?_
    refine x_int (pc' := 11) (v := (-1)) rfl rfl rfl ?_
    refine x_ic_eq (pc' := 14) rfl rfl (fun _ => ?_) (fun c11 => absurd (by decide) c11)
    refine x_iload (pc' := 67) rfl rfl rfl ?_
    refine x_iret rfl rfl ?_
    refine k D OffH.rf ⟨?_, ?_⟩
    · simpa using hm
    · simpa using hl
  | cons x r ih =>
    intro px D hC hlen h6 hm hl k
    obtain ⟨hx0, hx1, hx2⟩ := hC
    rw [List.length_cons] at hlen
    show bw m_X2_listUntilDead d Q 8 [.ref 31, .ref 1, wv, .int (nI dd), .int (nI x)] [] D L
    refine x_iload (pc' := 10) rfl rfl rfl ?_
    refine x_int (pc' := 11) (v := (-1)) rfl rfl rfl ?_
    refine x_ic_eq (pc' := 14) rfl rfl (fun c11 => ?_) (fun c11 => ?_)
    · exact absurd c11 (nI_m1 (by omega))
    · refine x_aload (pc' := 15) rfl rfl rfl ?_
      refine x_getI (j := 1) (pc' := 18) rfl rfl rfl (by decide) rfl (by decide) rfl rfl ?_
      refine x_top (hm) ?_
      refine x_int (pc' := 20) (v := nI 12) rfl rfl rfl ?_
      refine y_ic_ge (pc' := 23) rfl rfl (by omega) (by omega) (fun c20 => ?_) (fun c20 => ?_)
      · exact absurd c20 (by omega)
      · refine x_iload (pc' := 24) rfl rfl rfl ?_
        refine x_iload (pc' := 26) rfl rfl rfl ?_
        refine y_ishr (pc' := 27) rfl rfl (by omega) (by omega) ?_
        refine x_int (pc' := 28) (v := nI 1) rfl rfl rfl ?_
        refine y_iand (pc' := 29) rfl rfl ?_
        refine y_if_ne (pc' := 32) rfl rfl (and1 _) (fun c29 => ?_) (fun c29 => ?_)
        · refine x_iload (pc' := 67) rfl rfl rfl ?_
          refine x_iret rfl rfl ?_
          have hb : dd.testBit x = true := by rw [← Bool.not_eq_false]; exact fun e => c29 (tb0.mpr e)
          have e1 : (x :: r).takeWhile (fun y => !dd.testBit y) = [] := by simp [List.takeWhile, hb]
          have e2 : (x :: r).dropWhile (fun y => !dd.testBit y) = x :: r := by simp [List.dropWhile, hb]
          rw [e1, e2] at k
          refine k D OffH.rf ⟨?_, ?_⟩
          · simpa using hm
          · simpa using hl
        · refine x_aload (pc' := 33) rfl rfl rfl ?_
          refine x_getR (pc' := 36) rfl rfl rfl (by decide) rfl (by decide) rfl rfl ?_
          refine x_aload (pc' := 37) rfl rfl rfl ?_
          refine x_getI (j := 1) (pc' := 40) rfl rfl rfl (by decide) rfl (by decide) rfl rfl ?_
          refine x_top (hm) ?_
          refine x_iload (pc' := 42) rfl rfl rfl ?_
          refine x_iast (pc' := 43) rfl rfl (by decide) rfl (by decide) (show _ < 12 by omega) ?_
          refine x_aload (pc' := 44) rfl rfl rfl ?_
          refine x_dup (pc' := 45) rfl rfl rfl ?_
          refine x_getI (j := 1) (pc' := 48) rfl rfl rfl (by decide) rfl (by decide) rfl rfl ?_
          refine x_top (hm) ?_
          refine x_int (pc' := 49) (v := nI 1) rfl rfl rfl ?_
          refine y_iadd (pc' := 50) rfl rfl ?_
          refine x_putI (j := 1) (pc' := 53) rfl rfl rfl (by decide) rfl (by decide) rfl rfl ?_
          refine x_aload (pc' := 54) rfl rfl rfl ?_
          refine x_getR (pc' := 57) rfl rfl rfl (by decide) rfl (by decide) rfl rfl ?_
          refine x_iload (pc' := 59) rfl rfl rfl ?_
          refine x_iald (pc' := 60) rfl rfl (by decide) rfl (by decide) (show _ < 12 by omega) ?_
          refine x_top ((congrFun h6 _).trans hx1) ?_
          refine x_istore (pc' := 62) (lv' := [_, _, _, _, _]) rfl rfl (by decide) rfl ?_
          refine x_goto rfl ?_
          have hb : dd.testBit x = false := tb0.mp c29
          have e1 : (x :: r).takeWhile (fun y => !dd.testBit y) = x :: r.takeWhile (fun y => !dd.testBit y) := by simp [List.takeWhile, hb]
          have e2 : (x :: r).dropWhile (fun y => !dd.testBit y) = r.dropWhile (fun y => !dd.testBit y) := by simp [List.dropWhile, hb]
          rw [e1, e2] at k
          refine ih (px ++ [x]) _ hx2 (by simp; omega) h6 ?_ ?_ (fun D1 o1 hd1 => ?_)
          · show nI (px.length + 1) = _
            simp
          · intro i hi
            rw [List.length_append] at hi
            have hi2 : i < px.length + 1 := hi
            show (bh_up2 D 32 px.length (nI x)) 32 i = _
            rw [bh_up2_k]
            dsimp only
            by_cases e : i = px.length
            · rw [if_pos e, e]; simp
            · rw [if_neg e, hl i (by omega), getD_app (by omega)]
          · refine k D1 (OffH.tr (OffH.tr (OffH.up (Or.inr rfl)) (OffH.up (Or.inl rfl))) o1) ?_
            rw [List.append_assoc] at hd1
            exact hd1
/-- the hands of a writer who stands -/
def isH (T : TW) (w : Nat) : Prop := isC T (ch T w) ∧ (ch T w).length ≤ 12 ∧ nI w = hdI (ch T w)
set_option maxRecDepth 20000 in
set_option maxHeartbeats 1000000 in
theorem w_X2_listUntilDead {D : Nat → Nat → Int32} {L : Nat → Nat → Int64} {Q : bh_Q} (hW : WF (tv D)) {w dd : Nat} (hdd : dd < 4096) (hC : isH (tv D) w) (k1 : ∀ D', OffH D D' → HdL D' ((ch (tv D) w).takeWhile (fun y => !dd.testBit y)) → Q (some (.int (hdI ((ch (tv D) w).dropWhile (fun y => !dd.testBit y))))) (hp D' L)) : bh_wc 1 m_X2_listUntilDead [.ref 31, .ref 1, .int (nI w), .int (nI dd)] (hp D L) Q := by
  have hhd := hC.2.2
  generalize hwv : nI w = wi at hhd ⊢
  subst hhd
  refine x_start (lv0 := [_, _, _, _, _]) (Nat.le_of_ble_eq_true rfl) rfl ?_
  refine x_aload (pc' := 1) rfl rfl rfl ?_
  refine x_int (pc' := 2) (v := nI 0) rfl rfl rfl ?_
  refine x_putI (j := 1) (pc' := 5) rfl rfl rfl (by decide) rfl (by decide) rfl rfl ?_
  refine x_iload (pc' := 6) rfl rfl rfl ?_
  refine x_istore (pc' := 8) (lv' := [_, _, _, _, _]) rfl rfl (by decide) rfl ?_
  exact l_X2_lud hdd hW.nwl (ch (tv D) w) [] _ hC.1 (by simpa using hC.2.1) rfl rfl (fun i hi => absurd hi (Nat.not_lt_zero i)) (fun D1 o1 h1 => k1 D1 (OffH.tr (OffH.up (Or.inl rfl)) o1) h1)
end
section
/-! ===== hands end; a line ===== -/
/-- how many are poorer -/
def rk (T : TW) (w : Nat) : Nat := (List.range (nw T)).countP (fun v => decide (pu T v < pu T w))
theorem rk_lt {T : TW} {w : Nat} (hw : w < nw T) : rk T w < nw T := by
  have h1 : (List.range (nw T)).countP (fun v => decide (pu T v < pu T w)) ≠ (List.range (nw T)).length := by
    intro e
    have := List.countP_eq_length.mp e w (List.mem_range.mpr hw)
    simp at this
  have h2 := List.countP_le_length (p := fun v => decide (pu T v < pu T w)) (l := List.range (nw T))
  rw [List.length_range] at h1 h2
  unfold rk
  omega
theorem countP_lt {p q : Nat → Bool} {x : Nat} : ∀ l : List Nat, (∀ a ∈ l, p a = true → q a = true) → x ∈ l → p x = false → q x = true → l.countP p < l.countP q := by
  intro l
  induction l with
  | nil => intro _ h; cases h
  | cons a l ih =>
    intro h hx h1 h2
    have hm : l.countP p ≤ l.countP q := List.countP_mono_left (fun b hb => h b (List.mem_cons_of_mem _ hb))
    rw [List.countP_cons, List.countP_cons]
    rcases List.mem_cons.mp hx with rfl | hx
    · rw [h1, h2]; simp; omega
    · have := ih (fun b hb => h b (List.mem_cons_of_mem _ hb)) hx h1 h2
      by_cases hp : p a = true
      · rw [hp, h a List.mem_cons_self hp]; omega
      · rw [Bool.not_eq_true] at hp
        rw [hp]; simp; omega
theorem rk_un {T : TW} {u w : Nat} (hu : u < nw T) (h : pu T u < pu T w) : rk T u < rk T w := by
  unfold rk
  refine countP_lt (x := u) _ (fun a _ ha => ?_) (List.mem_range.mpr hu) (by simp) (by simpa using h)
  simp only [decide_eq_true_eq] at ha ⊢
  omega
theorem chF_ok {T : TW} (hW : WF T) : ∀ f w, w < nw T → rk T w < f → isC T (chF T f w) ∧ (chF T f w).length ≤ rk T w + 1 ∧ hdI (chF T f w) = nI w := by
  intro f
  induction f with
  | zero => intro w _ h; omega
  | succ f ih =>
    intro w hw h
    show isC T (w :: _) ∧ (w :: _).length ≤ _ ∧ hdI (w :: _) = _
    rcases hW.eun hw with e | ⟨e1, e2, e3⟩
    · rw [if_pos e]
      exact ⟨⟨hw, e, trivial⟩, by simp, rfl⟩
    · have hne : ¬ T 5 w = -1 := by rw [e1]; exact nI_m1 (by have := hW.nwl; omega)
      rw [if_neg hne]
      have hr := rk_un e2 e3
      obtain ⟨h1, h2, h3⟩ := ih (un T w) e2 (by omega)
      exact ⟨⟨hw, by rw [h3]; exact e1, h1⟩, by rw [List.length_cons]; omega, rfl⟩
theorem isH_of {T : TW} (hW : WF T) {w : Nat} (hw : w < nw T) : isH T w := by
  have h1 := rk_lt hw
  have h2 := hW.nwl
  obtain ⟨a, b, c⟩ := chF_ok hW 12 w hw (by omega)
  exact ⟨a, by unfold ch; omega, c.symm⟩
theorem isC_mem {T : TW} : ∀ {l : List Nat}, isC T l → ∀ x ∈ l, x < nw T := by
  intro l
  induction l with
  | nil => intro _ x h; cases h
  | cons a l ih =>
    intro h x hx
    rcases List.mem_cons.mp hx with rfl | hx
    · exact h.1
    · exact ih h.2.2 x hx
theorem ch_mem {T : TW} (hW : WF T) {w : Nat} (hw : w < nw T) : ∀ x ∈ ch T w, x < nw T := isC_mem (isH_of hW hw).1
/-- what one hand makes of a row; what hands make -/
def stU (T : TW) (w x : Nat) : Nat := if isM T w then x else hab (kd T w) (fa T w) (fb T w) x
def up (T : TW) : List Nat → Nat → Nat
  | [], x => x
  | w :: r, x => stU T w (up T r x)
/-- the hands from place f on, n of them, the last first -/
def upN (T : TW) (l : List Nat) (f : Nat) : Nat → Nat → Nat
  | 0, x => x
  | n + 1, x => upN T l f n (stU T (l.getD (f + n) 0) x)
theorem stU_lt {T : TW} (hW : WF T) {w x : Nat} (hw : w < nw T) (hx : x < 65536) : stU T w x < 65536 := by
  unfold stU
  split
  · exact hx
  · exact hab_lt (hW.ehok hw) hx
theorem up_lt {T : TW} (hW : WF T) : ∀ {l : List Nat} {x : Nat}, (∀ w ∈ l, w < nw T) → x < 65536 → up T l x < 65536 := by
  intro l
  induction l with
  | nil => intro x _ h; exact h
  | cons a l ih => intro x h hx; exact stU_lt hW (h a List.mem_cons_self) (ih (fun w hw => h w (List.mem_cons_of_mem _ hw)) hx)
theorem up_app {T : TW} : ∀ (l m : List Nat) (x : Nat), up T (l ++ m) x = up T l (up T m x) := by
  intro l
  induction l with
  | nil => intro m x; rfl
  | cons a l ih => intro m x; show stU T a (up T (l ++ m) x) = _; rw [ih]; rfl
theorem take_succD {l : List Nat} {n : Nat} (h : n < l.length) : l.take (n + 1) = l.take n ++ [l.getD n 0] := by
  rw [List.take_succ, List.getD_eq_getElem?_getD, List.getElem?_eq_getElem h]
  rfl
theorem upN_eq {T : TW} {l : List Nat} {f : Nat} : ∀ {n x : Nat}, f + n ≤ l.length → upN T l f n x = up T ((l.drop f).take n) x := by
  intro n
  induction n with
  | zero => intro x _; simp [upN, up]
  | succ n ih =>
    intro x h
    show upN T l f n _ = _
    have e : (l.drop f).getD n 0 = l.getD (f + n) 0 := by rw [List.getD_eq_getElem?_getD, List.getElem?_drop, ← List.getD_eq_getElem?_getD]
    rw [ih (by omega), take_succD (by rw [List.length_drop]; omega), up_app, e]
    rfl
theorem upN_all {T : TW} {l : List Nat} {x : Nat} : upN T l 0 l.length x = up T l x := by
  rw [upN_eq (by omega)]
  simp
theorem lnC_eq {T : TW} {b q : Nat} : ∀ c : List Nat, lnC T b q c = match c.dropWhile (fun y => !(de T).testBit y) with
    | [] => some (up T (c.takeWhile (fun y => !(de T).testBit y)) (pg T b q))
    | x :: _ => if (sk T x).testBit b then some (up T (c.takeWhile (fun y => !(de T).testBit y)) (stk T x b q)) else none := by
  intro c
  induction c with
  | nil => rfl
  | cons a c ih =>
    unfold lnC isD
    by_cases h : (de T).testBit a = true
    · simp [List.dropWhile, List.takeWhile, h, up]
    · rw [Bool.not_eq_true] at h
      have e1 : (a :: c).dropWhile (fun y => !(de T).testBit y) = c.dropWhile (fun y => !(de T).testBit y) := by simp [List.dropWhile, h]
      have e2 : (a :: c).takeWhile (fun y => !(de T).testBit y) = a :: c.takeWhile (fun y => !(de T).testBit y) := by simp [List.takeWhile, h]
      rw [e1, e2, h, ih, if_neg (by decide)]
      cases c.dropWhile (fun y => !(de T).testBit y) with
      | nil => rfl
      | cons x r =>
        by_cases hs : (sk T x).testBit b = true
        · dsimp only; rw [if_pos hs, if_pos hs]; rfl
        · dsimp only; rw [if_neg hs, if_neg hs]; rfl
theorem dropWhile_hd {p : Nat → Bool} : ∀ {l : List Nat} {x : Nat} {r : List Nat}, l.dropWhile p = x :: r → x ∈ l ∧ p x = false := by
  intro l
  induction l with
  | nil => intro x r h; cases h
  | cons a l ih =>
    intro x r h
    unfold List.dropWhile at h
    split at h
    next e => obtain ⟨h1, h2⟩ := ih h; exact ⟨List.mem_cons_of_mem _ h1, h2⟩
    next e => cases h; exact ⟨List.mem_cons_self, e⟩
theorem takeWhile_len {p : Nat → Bool} : ∀ l : List Nat, (l.takeWhile p).length ≤ l.length := by
  intro l
  induction l with
  | nil => simp
  | cons a l ih => unfold List.takeWhile; split <;> simp; exact ih
theorem takeWhile_mem {p : Nat → Bool} : ∀ {l : List Nat} {x : Nat}, x ∈ l.takeWhile p → x ∈ l := by
  intro l
  induction l with
  | nil => intro x h; cases h
  | cons a l ih =>
    intro x h
    unfold List.takeWhile at h
    split at h
    · rcases List.mem_cons.mp h with rfl | h
      · exact List.mem_cons_self
      · exact List.mem_cons_of_mem _ (ih h)
    · cases h
theorem sub1_lt {f : Nat} (h : f < 2 ^ 31) : nI f - 1 < nI f := by
  rw [Int32.lt_iff_toInt_lt, nI_toInt h]
  cases f with
  | zero => decide
  | succ f => rw [nI_pred, nI_toInt (by omega)]; omega
theorem add_m1 (x : Int32) : x + (-1) = x - 1 := (Int32.sub_eq_add_neg x 1).symm
theorem getD_mem {l : List Nat} {i : Nat} (h : i < l.length) : l.getD i 0 ∈ l := by
  rw [List.getD_eq_getElem?_getD, List.getElem?_eq_getElem h]
  exact List.getElem_mem h
set_option maxRecDepth 20000 in
theorem l_X2_passUp {D : Nat → Nat → Int32} {L : Nat → Nat → Int64} {Q : bh_Q} {tv0 rv0 : Int32} (hW : WF (tv D)) {l : List Nat} (hH : HdL D l) (hm : ∀ w ∈ l, w < nw (tv D)) (hlen : l.length ≤ 12) (f : Nat) : ∀ (n x : Nat) (v : Int32) (wv0 : Value), f + n ≤ l.length → v = nI (f + n) - 1 → x < 65536 → Q (some (.int (nI (upN (tv D) l f n x)))) (hp D L) → bw m_X2_passUp 1 Q 9 [.ref 31, .ref 1, .int (nI f), .int tv0, .int rv0, .int (nI x), .int v, wv0] [] D L := by
  intro n
  have h12 := hW.nwl
  induction n with
  | zero =>
    intro x v wv0 hn hv hx k1
    refine x_iload (pc' := 11) rfl rfl rfl ?_
    refine x_iload (pc' := 12) rfl rfl rfl ?_
    refine x_ic_lt (pc' := 15) rfl rfl (fun c12 => ?_) (fun c12 => ?_)
    · refine x_iload (pc' := 69) rfl rfl rfl ?_
      refine x_iret rfl rfl ?_
      exact k1
    · exact absurd (by rw [hv]; exact sub1_lt (by omega)) c12
  | succ n ih =>
    intro x v wv0 hn hv hx k1
    have hv : v = nI (f + n) := by rw [hv]; exact nI_pred _
    subst hv
    have hw : l.getD (f + n) 0 < nw (tv D) := hm _ (getD_mem (by omega))
    refine x_iload (pc' := 11) rfl rfl rfl ?_
    refine x_iload (pc' := 12) rfl rfl rfl ?_
    refine y_ic_lt (pc' := 15) rfl rfl (by omega) (by omega) (fun c12 => ?_) (fun c12 => ?_)
    · exact absurd c12 (by omega)
    · refine x_aload (pc' := 16) rfl rfl rfl ?_
      refine x_getR (pc' := 19) rfl rfl rfl (by decide) rfl (by decide) rfl rfl ?_
      refine x_iload (pc' := 21) rfl rfl rfl ?_
      refine x_iald (pc' := 22) rfl rfl (by decide) rfl (by decide) (show _ < 12 by omega) ?_
      refine x_top (hH.2 _ (by omega)) ?_
      refine x_istore (pc' := 24) (lv' := [_, _, _, _, _, _, _, _]) rfl rfl (by decide) rfl ?_
      refine x_aload (pc' := 25) rfl rfl rfl ?_
      refine x_iload (pc' := 27) rfl rfl rfl ?_
      refine x_callV (pc' := 30) (d1 := 1) (Bs := [_]) rfl rfl rfl rfl rfl rfl rfl (Nat.le_of_ble_eq_true rfl) ⟨rfl, rfl⟩ (by decide) rfl (by decide) ?_
      refine w_X7_inMood hW hw (fun h27 => ?_) (fun h27 => ?_)
      · refine ⟨rfl, ?_⟩
        refine x_if_ne (pc' := 33) rfl rfl (fun _ => ?_) (fun c30 => absurd c30 (by decide))
        refine x_iinc (pc' := 64) (w := (-1)) (lv' := [_, _, _, _, _, _, _, _]) rfl rfl rfl rfl (by decide) (add_m1 _) rfl ?_
        refine x_goto rfl ?_
        first
          | (have e : stU (tv D) (l.getD (f + n) 0) x = x := by unfold stU; rw [if_pos h27]
             rw [← e]
             exact ih _ _ _ (by omega) rfl (by rw [e]; exact hx) k1)
          | (have e : stU (tv D) (l.getD (f + n) 0) x = hab (kd (tv D) (l.getD (f + n) 0)) (fa (tv D) (l.getD (f + n) 0)) (fb (tv D) (l.getD (f + n) 0)) x := by unfold stU; rw [if_neg (by rw [h27]; decide)]
             rw [← e]
             exact ih _ _ _ (by omega) rfl (stU_lt hW hw hx) k1)
      · refine ⟨rfl, ?_⟩
        refine x_if_ne (pc' := 33) rfl rfl (fun c30 => absurd (by decide) c30) (fun _ => ?_)
        refine x_aload (pc' := 34) rfl rfl rfl ?_
        refine x_getR (pc' := 37) rfl rfl rfl (by decide) rfl (by decide) rfl rfl ?_
        refine x_iload (pc' := 39) rfl rfl rfl ?_
        refine x_iald (pc' := 40) rfl rfl (by decide) rfl (by decide) (show _ < 12 by omega) ?_
        refine x_top (hW.ekd hw) ?_
        refine x_aload (pc' := 41) rfl rfl rfl ?_
        refine x_getR (pc' := 44) rfl rfl rfl (by decide) rfl (by decide) rfl rfl ?_
        refine x_iload (pc' := 46) rfl rfl rfl ?_
        refine x_iald (pc' := 47) rfl rfl (by decide) rfl (by decide) (show _ < 12 by omega) ?_
        refine x_top (hW.efa hw) ?_
        refine x_aload (pc' := 48) rfl rfl rfl ?_
        refine x_getR (pc' := 51) rfl rfl rfl (by decide) rfl (by decide) rfl rfl ?_
        refine x_iload (pc' := 53) rfl rfl rfl ?_
        refine x_iald (pc' := 54) rfl rfl (by decide) rfl (by decide) (show _ < 12 by omega) ?_
        refine x_top (hW.efb hw) ?_
        refine x_iload (pc' := 56) rfl rfl rfl ?_
        refine x_callS (pc' := 59) (d1 := 1) (As := [_, _, _, _]) rfl rfl rfl rfl (by decide) rfl rfl (Nat.le_of_ble_eq_true rfl) ⟨rfl, rfl⟩ (by decide) ?_
        refine w_X1_changeRow (hW.ehok hw) hx ?_
        refine ⟨rfl, ?_⟩
        refine x_istore (pc' := 61) (lv' := [_, _, _, _, _, _, _, _]) rfl rfl (by decide) rfl ?_
        refine x_iinc (pc' := 64) (w := (-1)) (lv' := [_, _, _, _, _, _, _, _]) rfl rfl rfl rfl (by decide) (add_m1 _) rfl ?_
        refine x_goto rfl ?_
        first
          | (have e : stU (tv D) (l.getD (f + n) 0) x = x := by unfold stU; rw [if_pos h27]
             rw [← e]
             exact ih _ _ _ (by omega) rfl (by rw [e]; exact hx) k1)
          | (have e : stU (tv D) (l.getD (f + n) 0) x = hab (kd (tv D) (l.getD (f + n) 0)) (fa (tv D) (l.getD (f + n) 0)) (fb (tv D) (l.getD (f + n) 0)) x := by unfold stU; rw [if_neg (by rw [h27]; decide)]
             rw [← e]
             exact ih _ _ _ (by omega) rfl (stU_lt hW hw hx) k1)
set_option maxRecDepth 20000 in
set_option maxHeartbeats 1000000 in
theorem w_X2_passUp {D : Nat → Nat → Int32} {L : Nat → Nat → Int64} {Q : bh_Q} (hW : WF (tv D)) {l : List Nat} (hH : HdL D l) (hm : ∀ w ∈ l, w < nw (tv D)) (hlen : l.length ≤ 12) {f t row : Nat} (hft : f ≤ t) (ht : t ≤ l.length) (hr : row < 65536) (k1 : Q (some (.int (nI (upN (tv D) l f (t - f) row)))) (hp D L)) : bh_wc 2 m_X2_passUp [.ref 31, .ref 1, .int (nI f), .int (nI t), .int (nI row)] (hp D L) Q := by
  refine x_start (lv0 := [_, _, _, _, _, _, _, _]) (Nat.le_of_ble_eq_true rfl) rfl ?_
  refine x_iload (pc' := 2) rfl rfl rfl ?_
  refine x_istore (pc' := 4) (lv' := [_, _, _, _, _, _, _, _]) rfl rfl (by decide) rfl ?_
  refine x_iload (pc' := 5) rfl rfl rfl ?_
  refine x_int (pc' := 6) (v := nI 1) rfl rfl rfl ?_
  refine x_isub (pc' := 7) rfl rfl ?_
  refine x_istore (pc' := 9) (lv' := [_, _, _, _, _, _, _, _]) rfl rfl (by decide) rfl ?_
  exact l_X2_passUp hW hH hm hlen f (t - f) row _ _ (by omega) (by rw [show f + (t - f) = t by omega]; rfl) hr k1
theorem OffH.tv {D D1 : Nat → Nat → Int32} (h : OffH D D1) : tv D1 = tv D := by
  funext j i
  show (if j < 13 then D1 (1 + j) i else 0) = if j < 13 then D (1 + j) i else 0
  split
  next hj => rw [h (1 + j) (by omega) (by omega)]
  next => rfl
set_option maxRecDepth 20000 in
set_option maxHeartbeats 1000000 in
theorem w_X2_lineOf {D : Nat → Nat → Int32} {L : Nat → Nat → Int64} {Q : bh_Q} (hW : WF (tv D)) {w b q : Nat} (hw : w < nw (tv D)) (hb : b < nb (tv D)) (hp0 : q < lng (tv D) b) (k1 : ∀ D', OffH D D' → Q (some (.int (toI (lnO (tv D) w b q)))) (hp D' L)) : bh_wc 3 m_X2_lineOf [.ref 31, .ref 1, .int (nI w), .int (nI b), .int (nI q)] (hp D L) Q := by
  refine x_start (lv0 := [_, _, _, _, _, _]) (Nat.le_of_ble_eq_true rfl) rfl ?_
  refine x_aload (pc' := 1) rfl rfl rfl ?_
  refine x_aload (pc' := 2) rfl rfl rfl ?_
  refine x_iload (pc' := 3) rfl rfl rfl ?_
  refine x_aload (pc' := 4) rfl rfl rfl ?_
  refine x_getI (j := 5) (pc' := 7) rfl rfl rfl (by decide) rfl (by decide) rfl rfl ?_
  refine x_top (hW.ede) ?_
  refine x_callV (pc' := 10) (d1 := 1) (Bs := [_, _, _]) rfl rfl rfl rfl rfl rfl rfl (Nat.le_of_ble_eq_true rfl) ⟨rfl, rfl⟩ (by decide) rfl (by decide) ?_
  refine w_X2_listUntilDead hW hW.de12 (isH_of hW hw) (fun D1 o1 hH => ?_)
  have eT : tv D1 = tv D := o1.tv
  have hW1 : WF (tv D1) := by rw [eT]; exact hW
  have hb1 : b < nb (tv D1) := by rw [eT]; exact hb
  have hp1 : q < lng (tv D1) b := by rw [eT]; exact hp0
  have hm : ∀ x ∈ (ch (tv D) w).takeWhile (fun y => !(de (tv D)).testBit y), x < nw (tv D1) := by rw [eT]; exact fun x hx => ch_mem hW hw x (takeWhile_mem hx)
  have hl12 : ((ch (tv D) w).takeWhile (fun y => !(de (tv D)).testBit y)).length ≤ 12 := Nat.le_trans (takeWhile_len _) (isH_of hW hw).2.1
  have hln := lnC_eq (T := tv D) (b := b) (q := q) (ch (tv D) w)
  refine ⟨rfl, ?_⟩
  cases hdw : (ch (tv D) w).dropWhile (fun y => !(de (tv D)).testBit y)
  · rw [hdw] at hln
    dsimp only at hln
    refine x_istore (pc' := 12) (lv' := [_, _, _, _, _, _]) rfl rfl (by decide) rfl ?_
    refine x_iload (pc' := 14) rfl rfl rfl ?_
    refine x_int (pc' := 15) (v := (-1)) rfl rfl rfl ?_
    refine x_ic_ne (pc' := 18) rfl rfl (fun c15 => absurd (by decide) c15) (fun _ => ?_)
    refine x_aload (pc' := 19) rfl rfl rfl ?_
    refine x_aload (pc' := 20) rfl rfl rfl ?_
    refine x_int (pc' := 21) (v := nI 0) rfl rfl rfl ?_
    refine x_aload (pc' := 22) rfl rfl rfl ?_
    refine x_getI (j := 1) (pc' := 25) rfl rfl rfl (by decide) rfl (by decide) rfl rfl ?_
    refine x_top (hH.1) ?_
    refine x_aload (pc' := 26) rfl rfl rfl ?_
    refine x_iload (pc' := 27) rfl rfl rfl ?_
    refine x_iload (pc' := 29) rfl rfl rfl ?_
    refine x_callV (pc' := 32) (d1 := 1) (Bs := [_, _]) rfl rfl rfl rfl rfl rfl rfl (Nat.le_of_ble_eq_true rfl) ⟨rfl, rfl⟩ (by decide) rfl (by decide) ?_
    refine w_X7_rowOf hW1 hb1 hp1 ?_
    refine ⟨rfl, ?_⟩
    refine x_callV (pc' := 35) (d1 := 2) (Bs := [_, _, _, _]) rfl rfl rfl rfl rfl rfl rfl (Nat.le_of_ble_eq_true rfl) ⟨rfl, rfl⟩ (by decide) rfl (by decide) ?_
    refine w_X2_passUp hW1 hH hm hl12 (Nat.zero_le _) (Nat.le_refl _) (hW1.pgl hb1 hp1) ?_
    refine ⟨rfl, ?_⟩
    refine x_iret rfl rfl ?_
    rw [Nat.sub_zero, upN_all, eT]
    have e : lnO (tv D) w b q = _ := hln
    rw [e] at k1
    exact k1 D1 o1
  · rename_i x r
    rw [hdw] at hln
    dsimp only at hln
    have hx1 : x < nw (tv D1) := by rw [eT]; exact ch_mem hW hw x (dropWhile_hd hdw).1
    have h12 := hW1.nwl
    refine x_istore (pc' := 12) (lv' := [_, _, _, _, _, _]) rfl rfl (by decide) rfl ?_
    refine x_iload (pc' := 14) rfl rfl rfl ?_
    refine x_int (pc' := 15) (v := (-1)) rfl rfl rfl ?_
    refine x_ic_ne (pc' := 18) rfl rfl (fun c15 => ?_) (fun c15 => ?_)
    · refine x_aload (pc' := 37) rfl rfl rfl ?_
      refine x_iload (pc' := 39) rfl rfl rfl ?_
      refine x_iload (pc' := 40) rfl rfl rfl ?_
      refine x_callV (pc' := 43) (d1 := 1) (Bs := [_, _]) rfl rfl rfl rfl rfl rfl rfl (Nat.le_of_ble_eq_true rfl) ⟨rfl, rfl⟩ (by decide) rfl (by decide) ?_
      refine w_X7_hasStock hW1 hx1 hb1 (fun h40 => ?_) (fun h40 => ?_)
      · refine ⟨rfl, ?_⟩
        refine x_if_ne (pc' := 46) rfl rfl (fun _ => ?_) (fun c43 => absurd c43 (by decide))
        refine x_aload (pc' := 50) rfl rfl rfl ?_
        refine x_aload (pc' := 51) rfl rfl rfl ?_
        refine x_int (pc' := 52) (v := nI 0) rfl rfl rfl ?_
        refine x_aload (pc' := 53) rfl rfl rfl ?_
        refine x_getI (j := 1) (pc' := 56) rfl rfl rfl (by decide) rfl (by decide) rfl rfl ?_
        refine x_top (hH.1) ?_
        refine x_aload (pc' := 57) rfl rfl rfl ?_
        refine x_iload (pc' := 59) rfl rfl rfl ?_
        refine x_iload (pc' := 60) rfl rfl rfl ?_
        refine x_iload (pc' := 62) rfl rfl rfl ?_
        refine x_callV (pc' := 65) (d1 := 1) (Bs := [_, _, _]) rfl rfl rfl rfl rfl rfl rfl (Nat.le_of_ble_eq_true rfl) ⟨rfl, rfl⟩ (by decide) rfl (by decide) ?_
        refine w_X7_stockOf hW1 hx1 hb1 hp1 h40 ?_
        refine ⟨rfl, ?_⟩
        refine x_callV (pc' := 68) (d1 := 2) (Bs := [_, _, _, _]) rfl rfl rfl rfl rfl rfl rfl (Nat.le_of_ble_eq_true rfl) ⟨rfl, rfl⟩ (by decide) rfl (by decide) ?_
        refine w_X2_passUp hW1 hH hm hl12 (Nat.zero_le _) (Nat.le_refl _) (hW1.stkl hx1 hb1 hp1 h40) ?_
        refine ⟨rfl, ?_⟩
        refine x_iret rfl rfl ?_
        rw [Nat.sub_zero, upN_all, eT]
        rw [eT] at h40
        have e : lnO (tv D) w b q = _ := hln
        rw [if_pos h40] at e
        rw [e] at k1
        exact k1 D1 o1
      · refine ⟨rfl, ?_⟩
        refine x_if_ne (pc' := 46) rfl rfl (fun c43 => absurd (by decide) c43) (fun _ => ?_)
        refine x_int (pc' := 48) (v := (-2)) rfl rfl rfl ?_
        refine x_iret rfl rfl ?_
        rw [eT] at h40
        have e : lnO (tv D) w b q = _ := hln
        rw [if_neg (by rw [h40]; decide)] at e
        rw [e] at k1
        exact k1 D1 o1
    · exact absurd c15 (nI_m1 (by omega))
end
section
/-! ===== the reference: its one row is the town ===== -/
def Rw (T : TW) (N : Nat → Int32) (w : Nat) : Prop := N (4 + 10 * w + 0) = T 1 w ∧ N (4 + 10 * w + 1) = T 2 w ∧ (1 ≤ kd T w → N (4 + 10 * w + 2) = T 3 w) ∧ (5 ≤ kd T w → N (4 + 10 * w + 3) = T 4 w) ∧ N (4 + 10 * w + 4) = T 5 w ∧ N (4 + 10 * w + 5) = T 6 w ∧ N (4 + 10 * w + 6) = T 7 w ∧ N (4 + 10 * w + 7) = nI (if isM T w then 1 else 0) ∧ N (4 + 10 * w + 8) = nI (if isD T w then 1 else 0) ∧ N (4 + 10 * w + 9) = T 8 w
def Rn (T : TW) (N : Nat → Int32) : Prop := (N 0 = T 0 0 ∧ N 1 = T 0 1 ∧ N 2 = T 0 2 ∧ N 3 = T 0 3) ∧ (∀ w, w < nw T → Rw T N w) ∧ (∀ b, b < nb T → N (508 + 9 * b) = T 9 b ∧ ∀ q, q < lng T b → N (508 + 9 * b + 1 + q) = T 10 (b * 8 + q)) ∧
  (∀ w b q, w < nw T → b < nb T → q < lng T b → (sk T w).testBit b = true → N (124 + 8 * (4 * w + b) + q) = T 11 ((w * 4 + b) * 8 + q)) ∧ ∀ i, i < ns T → N (544 + i) = T 12 i
theorem lcmp_lt (x y : Int64) : lg_cmp x y < 0 ↔ x < y := by
  unfold lg_cmp
  rw [Int64.lt_iff_toInt_lt]
  by_cases h : x > y
  · rw [if_pos h]
    have h' := Int64.lt_iff_toInt_lt.mp h
    exact ⟨fun h => absurd h (by decide), fun h2 => by omega⟩
  · rw [if_neg h]
    by_cases h2 : x = y
    · rw [if_pos h2]
      exact ⟨fun h => absurd h (by decide), fun h3 => by rw [h2] at h3; omega⟩
    · rw [if_neg h2]
      have h' : ¬ y.toInt < x.toInt := fun q => h (Int64.lt_iff_toInt_lt.mpr q)
      have h'' : x.toInt ≠ y.toInt := fun q => h2 (Int64.toInt_inj.mp q)
      exact ⟨fun _ => by omega, fun _ => by decide⟩
theorem lcmp_gt (x y : Int64) : 0 < lg_cmp x y ↔ y < x := by
  unfold lg_cmp
  by_cases h : x > y
  · rw [if_pos h]; exact ⟨fun _ => h, fun _ => by decide⟩
  · rw [if_neg h]
    refine ⟨fun h3 => ?_, fun h3 => absurd h3 h⟩
    by_cases h2 : x = y
    · rw [if_pos h2] at h3; exact absurd h3 (by decide)
    · rw [if_neg h2] at h3; exact absurd h3 (by decide)
theorem wide_lt (a b : Int32) : a.toInt64 < b.toInt64 ↔ a < b := by rw [Int64.lt_iff_toInt_lt, Int32.lt_iff_toInt_lt, Int32.toInt_toInt64, Int32.toInt_toInt64]
theorem nlt_le {a b : Int32} (h : ¬ a < b) : b ≤ a := Int32.not_lt.mp h
/-- between two: an int in a range of naturals -/
theorem in_okN {n : Nat} {x : Int32} (hn : n < 2 ^ 31) (h1 : 0 ≤ x) (h2 : x ≤ nI n - 1) : ∃ j : Nat, j < n ∧ x = nI j := by
  refine lt_of hn (fun h => Int32.not_lt.mpr h1 h) (fun h => ?_)
  exact absurd (sub1_lt hn) (Int32.not_lt.mpr (Int32.le_trans h h2))
theorem okN_in {n : Nat} {x : Int32} (hn : n < 2 ^ 31) (h : ¬ (0 ≤ x ∧ x ≤ nI n - 1)) : ¬ okN n x := by
  rintro ⟨j, hj, rfl⟩
  refine h ⟨nI_pos' (by omega), ?_⟩
  obtain ⟨k, rfl⟩ : ∃ k, n = k + 1 := ⟨n - 1, by omega⟩
  rw [nI_pred]
  exact nI_le (by omega) (by omega)
theorem in_okL {n : Nat} {x : Int32} (hn : n + 1 < 2 ^ 31) (h1 : 0 ≤ x) (h2 : x ≤ nI n) : ∃ j : Nat, j < n + 1 ∧ x = nI j := in_okN hn h1 (by rw [nI_pred]; exact h2)
theorem okN_inL {n : Nat} {x : Int32} (hn : n + 1 < 2 ^ 31) (h : ¬ (0 ≤ x ∧ x ≤ nI n)) : ¬ okN (n + 1) x := okN_in hn (by rw [nI_pred]; exact h)
def OffL (S : List Nat) (D D' : Nat → Nat → Int32) : Prop := ∀ k, k ∉ S → D' k = D k
theorem OffL.rf {S : List Nat} {D : Nat → Nat → Int32} : OffL S D D := fun _ _ => rfl
theorem OffL.tr {S : List Nat} {D D1 D2 : Nat → Nat → Int32} (h1 : OffL S D D1) (h2 : OffL S D1 D2) : OffL S D D2 := fun k a => (h2 k a).trans (h1 k a)
theorem OffL.up {S : List Nat} {D : Nat → Nat → Int32} {k j : Nat} {x : Int32} (hk : k ∈ S) : OffL S D (bh_up2 D k j x) := fun a h => bh_up2_ne _ _ _ (fun e => h (by rw [e]; exact hk))
theorem OffL.wk {S S' : List Nat} {D D' : Nat → Nat → Int32} (h : OffL S D D') (hs : ∀ k ∈ S, k ∈ S') : OffL S' D D' := fun k hk => h k (fun q => hk (hs k q))
section bh_rn
variable {T : TW} {N : Nat → Int32} {w b q i : Nat}
theorem Rn.rmo (h : Rn T N) (hw : w < nw T) : N (4 + 10 * w + 7) = nI (if isM T w then 1 else 0) := (h.2.1 w hw).2.2.2.2.2.2.2.1
theorem Rn.rde (h : Rn T N) (hw : w < nw T) : N (4 + 10 * w + 8) = nI (if isD T w then 1 else 0) := (h.2.1 w hw).2.2.2.2.2.2.2.2.1
theorem Rn.run (h : Rn T N) (hw : w < nw T) : N (4 + 10 * w + 4) = T 5 w := (h.2.1 w hw).2.2.2.2.1
theorem Rn.rpu (h : Rn T N) (hw : w < nw T) : N (4 + 10 * w + 0) = T 1 w := (h.2.1 w hw).1
theorem Rn.rkd (h : Rn T N) (hw : w < nw T) : N (4 + 10 * w + 1) = T 2 w := (h.2.1 w hw).2.1
theorem Rn.rfa (h : Rn T N) (hw : w < nw T) (hk : 1 ≤ kd T w) : N (4 + 10 * w + 2) = T 3 w := (h.2.1 w hw).2.2.1 hk
theorem Rn.rfb (h : Rn T N) (hw : w < nw T) (hk : 5 ≤ kd T w) : N (4 + 10 * w + 3) = T 4 w := (h.2.1 w hw).2.2.2.1 hk
theorem Rn.rfame (h : Rn T N) (hw : w < nw T) : N (4 + 10 * w + 5) = T 6 w := (h.2.1 w hw).2.2.2.2.2.1
theorem Rn.rcoins (h : Rn T N) (hw : w < nw T) : N (4 + 10 * w + 6) = T 7 w := (h.2.1 w hw).2.2.2.2.2.2.1
theorem Rn.rsk (h : Rn T N) (hw : w < nw T) : N (4 + 10 * w + 9) = T 8 w := (h.2.1 w hw).2.2.2.2.2.2.2.2.2
theorem Rn.rlng (h : Rn T N) (hb : b < nb T) : N (508 + 9 * b) = T 9 b := (h.2.2.1 b hb).1
theorem Rn.rpg (h : Rn T N) (hb : b < nb T) (hq : q < lng T b) : N (508 + 9 * b + 1 + q) = T 10 (b * 8 + q) := (h.2.2.1 b hb).2 q hq
theorem Rn.rstk (h : Rn T N) (hw : w < nw T) (hb : b < nb T) (hq : q < lng T b) (hs : (sk T w).testBit b = true) : N (124 + 8 * (4 * w + b) + q) = T 11 ((w * 4 + b) * 8 + q) := h.2.2.2.1 w b q hw hb hq hs
theorem Rn.rsn (h : Rn T N) (hi : i < ns T) : N (544 + i) = T 12 i := h.2.2.2.2 i hi
end bh_rn
set_option maxRecDepth 20000 in
set_option maxHeartbeats 1000000 in
theorem w_X10_in {D : Nat → Nat → Int32} {L : Nat → Nat → Int64} {Q : bh_Q} {x y z : Int32} (k1 : y ≤ x → x ≤ z → Q (some (.int 1)) (hp D L)) (k0 : ¬ (y ≤ x ∧ x ≤ z) → Q (some (.int 0)) (hp D L)) : bh_wc 1 m_X10_in [.long x.toInt64, .long y.toInt64, .long z.toInt64] (hp D L) Q := by
  refine x_start (lv0 := [_, _, _, _, _, _]) (Nat.le_of_ble_eq_true rfl) rfl ?_
  refine x_lload (pc' := 1) rfl rfl rfl ?_
  refine x_lload (pc' := 2) rfl rfl rfl ?_
  refine x_lcmp (pc' := 3) rfl rfl ?_
  refine x_if_lt (pc' := 6) rfl rfl (fun c3 => ?_) (fun c3 => ?_)
  · refine x_int (pc' := 18) (v := nI 0) rfl rfl rfl ?_
    refine x_zret rfl rfl (by decide) ?_
    exact k0 (fun h => Int32.not_lt.mpr h.1 ((wide_lt _ _).mp ((lcmp_lt _ _).mp c3)))
  · refine x_lload (pc' := 7) rfl rfl rfl ?_
    refine x_lload (pc' := 9) rfl rfl rfl ?_
    refine x_lcmp (pc' := 10) rfl rfl ?_
    refine x_if_gt (pc' := 13) rfl rfl (fun c10 => ?_) (fun c10 => ?_)
    · refine x_int (pc' := 18) (v := nI 0) rfl rfl rfl ?_
      refine x_zret rfl rfl (by decide) ?_
      exact k0 (fun h => Int32.not_lt.mpr h.2 ((wide_lt _ _).mp ((lcmp_gt _ _).mp c10)))
    · refine x_int (pc' := 14) (v := nI 1) rfl rfl rfl ?_
      refine x_goto rfl ?_
      refine x_zret rfl rfl (by decide) ?_
      exact k1 (nlt_le (fun e => c3 ((lcmp_lt _ _).mpr ((wide_lt _ _).mpr e)))) (nlt_le (fun e => c10 ((lcmp_gt _ _).mpr ((wide_lt _ _).mpr e))))
set_option maxRecDepth 20000 in
set_option maxHeartbeats 1000000 in
theorem w_X10_truth {D : Nat → Nat → Int32} {L : Nat → Nat → Int64} {Q : bh_Q} {x : Int32} (hx : x = 0 ∨ x = 1) (k1 : Q (some (.int x)) (hp D L)) : bh_wc 1 m_X10_truth [.int x] (hp D L) Q := by
  refine x_start (lv0 := [_]) (Nat.le_of_ble_eq_true rfl) rfl ?_
  refine x_iload (pc' := 1) rfl rfl rfl ?_
  refine x_if_eq (pc' := 4) rfl rfl (fun c1 => ?_) (fun c1 => ?_)
  · refine x_int (pc' := 9) (v := nI 0) rfl rfl rfl ?_
    refine x_iret rfl rfl ?_
    rcases hx with e | e
    · first | exact absurd e c1 | (rw [e] at k1; exact k1)
    · first | exact absurd (e.symm.trans c1) (by decide) | (rw [e] at k1; exact k1)
  · refine x_int (pc' := 5) (v := nI 1) rfl rfl rfl ?_
    refine x_goto rfl ?_
    refine x_iret rfl rfl ?_
    rcases hx with e | e
    · first | exact absurd e c1 | (rw [e] at k1; exact k1)
    · first | exact absurd (e.symm.trans c1) (by decide) | (rw [e] at k1; exact k1)
set_option maxRecDepth 20000 in
set_option maxHeartbeats 1000000 in
theorem w_X10_has {D : Nat → Nat → Int32} {L : Nat → Nat → Int64} {Q : bh_Q} {s i : Nat} (hs : s < 2 ^ 31) (hi : i < 32) (k1 : s.testBit i = true → Q (some (.int 1)) (hp D L)) (k0 : s.testBit i = false → Q (some (.int 0)) (hp D L)) : bh_wc 1 m_X10_has [.int (nI s), .int (nI i)] (hp D L) Q := by
  refine x_start (lv0 := [_, _]) (Nat.le_of_ble_eq_true rfl) rfl ?_
  refine x_iload (pc' := 1) rfl rfl rfl ?_
  refine x_iload (pc' := 2) rfl rfl rfl ?_
  refine y_ishr (pc' := 3) rfl rfl (by omega) (by omega) ?_
  refine x_int (pc' := 4) (v := nI 1) rfl rfl rfl ?_
  refine y_iand (pc' := 5) rfl rfl ?_
  refine x_int (pc' := 6) (v := nI 1) rfl rfl rfl ?_
  refine y_ic_ne (pc' := 9) rfl rfl (and1 _) (by decide) (fun c6 => ?_) (fun c6 => ?_)
  · refine x_int (pc' := 14) (v := nI 0) rfl rfl rfl ?_
    refine x_zret rfl rfl (by decide) ?_
    exact k0 (by rw [← Bool.not_eq_true]; exact fun e => c6 (tb1.mpr e))
  · refine x_int (pc' := 10) (v := nI 1) rfl rfl rfl ?_
    refine x_goto rfl ?_
    refine x_zret rfl rfl (by decide) ?_
    exact k1 (tb1.mp c6)
set_option maxRecDepth 20000 in
set_option maxHeartbeats 1000000 in
theorem w_X10_of {D : Nat → Nat → Int32} {L : Nat → Nat → Int64} {Q : bh_Q} {w j : Nat} (hw : w < 12) (hj : j < 10) (k1 : Q (some (.int (D 206 (4 + 10 * w + j)))) (hp D L)) : bh_wc 1 m_X10_of [.ref 205, .int (nI w), .int (nI j)] (hp D L) Q := by
  refine x_start (lv0 := [_, _, _]) (Nat.le_of_ble_eq_true rfl) rfl ?_
  refine x_aload (pc' := 1) rfl rfl rfl ?_
  refine x_getR (pc' := 4) rfl rfl rfl (by decide) rfl (by decide) rfl rfl ?_
  refine x_int (pc' := 5) (v := nI 4) rfl rfl rfl ?_
  refine x_int (pc' := 7) (v := nI 10) rfl rfl rfl ?_
  refine x_iload (pc' := 8) rfl rfl rfl ?_
  refine y_imul (pc' := 9) rfl rfl ?_
  refine y_iadd (pc' := 10) rfl rfl ?_
  refine x_iload (pc' := 11) rfl rfl rfl ?_
  refine y_iadd (pc' := 12) rfl rfl ?_
  refine x_iald (pc' := 13) rfl rfl (by decide) rfl (by decide) (show _ < 560 by omega) ?_
  refine x_iret rfl rfl ?_
  exact k1
set_option maxRecDepth 20000 in
set_option maxHeartbeats 1000000 in
theorem w_X10_isWriter {D : Nat → Nat → Int32} {L : Nat → Nat → Int64} {Q : bh_Q} {T : TW} (hW : WF T) (hR : Rn T (D 206)) {x : Int32} (k1 : ∀ j : Nat, j < nw T → x = nI j → Q (some (.int 1)) (hp D L)) (k0 : ¬ okN (nw T) x → Q (some (.int 0)) (hp D L)) : bh_wc 2 m_X10_isWriter [.ref 205, .int x] (hp D L) Q := by
  refine x_start (lv0 := [_, _]) (Nat.le_of_ble_eq_true rfl) rfl ?_
  have hl := hW.nwl
  refine x_iload (pc' := 1) rfl rfl rfl ?_
  refine x_i2l (pc' := 2) rfl rfl ?_
  refine x_long (pc' := 3) (v := (nI 0).toInt64) rfl rfl (by decide) ?_
  refine x_aload (pc' := 4) rfl rfl rfl ?_
  refine x_getR (pc' := 7) rfl rfl rfl (by decide) rfl (by decide) rfl rfl ?_
  refine x_int (pc' := 8) (v := nI 0) rfl rfl rfl ?_
  refine x_iald (pc' := 9) rfl rfl (by decide) rfl (by decide) (show _ < 560 by omega) ?_
  refine x_top ((hR.1.1).trans hW.enw) ?_
  refine x_int (pc' := 10) (v := nI 1) rfl rfl rfl ?_
  refine x_isub (pc' := 11) rfl rfl ?_
  refine x_i2l (pc' := 12) rfl rfl ?_
  refine x_callS (pc' := 15) (d1 := 1) (As := [_, _, _]) rfl rfl rfl rfl (by decide) rfl rfl (Nat.le_of_ble_eq_true rfl) ⟨rfl, rfl⟩ (by decide) ?_
  refine w_X10_in (fun h12a h12b => ?_) (fun h12 => ?_)
  · refine ⟨rfl, ?_⟩
    refine x_zret rfl rfl (by decide) ?_
    obtain ⟨j, hj, e⟩ := in_okN (by omega) h12a h12b
    exact k1 j hj e
  · refine ⟨rfl, ?_⟩
    refine x_zret rfl rfl (by decide) ?_
    exact k0 (okN_in (by omega) h12)
set_option maxRecDepth 20000 in
set_option maxHeartbeats 1000000 in
theorem w_X10_isBook {D : Nat → Nat → Int32} {L : Nat → Nat → Int64} {Q : bh_Q} {T : TW} (hW : WF T) (hR : Rn T (D 206)) {x : Int32} (k1 : ∀ j : Nat, j < nb T → x = nI j → Q (some (.int 1)) (hp D L)) (k0 : ¬ okN (nb T) x → Q (some (.int 0)) (hp D L)) : bh_wc 2 m_X10_isBook [.ref 205, .int x] (hp D L) Q := by
  refine x_start (lv0 := [_, _]) (Nat.le_of_ble_eq_true rfl) rfl ?_
  have hl := hW.nbl
  refine x_iload (pc' := 1) rfl rfl rfl ?_
  refine x_i2l (pc' := 2) rfl rfl ?_
  refine x_long (pc' := 3) (v := (nI 0).toInt64) rfl rfl (by decide) ?_
  refine x_aload (pc' := 4) rfl rfl rfl ?_
  refine x_getR (pc' := 7) rfl rfl rfl (by decide) rfl (by decide) rfl rfl ?_
  refine x_int (pc' := 8) (v := nI 1) rfl rfl rfl ?_
  refine x_iald (pc' := 9) rfl rfl (by decide) rfl (by decide) (show _ < 560 by omega) ?_
  refine x_top ((hR.1.2.1).trans hW.enb) ?_
  refine x_int (pc' := 10) (v := nI 1) rfl rfl rfl ?_
  refine x_isub (pc' := 11) rfl rfl ?_
  refine x_i2l (pc' := 12) rfl rfl ?_
  refine x_callS (pc' := 15) (d1 := 1) (As := [_, _, _]) rfl rfl rfl rfl (by decide) rfl rfl (Nat.le_of_ble_eq_true rfl) ⟨rfl, rfl⟩ (by decide) ?_
  refine w_X10_in (fun h12a h12b => ?_) (fun h12 => ?_)
  · refine ⟨rfl, ?_⟩
    refine x_zret rfl rfl (by decide) ?_
    obtain ⟨j, hj, e⟩ := in_okN (by omega) h12a h12b
    exact k1 j hj e
  · refine ⟨rfl, ?_⟩
    refine x_zret rfl rfl (by decide) ?_
    exact k0 (okN_in (by omega) h12)
set_option maxRecDepth 20000 in
set_option maxHeartbeats 1000000 in
theorem w_X10_under {D : Nat → Nat → Int32} {L : Nat → Nat → Int64} {Q : bh_Q} {T : TW} (hW : WF T) (hR : Rn T (D 206)) {w : Nat} (hw : w < nw T) (k1 : Q (some (.int (T 5 w))) (hp D L)) : bh_wc 2 m_X10_under [.ref 205, .int (nI w)] (hp D L) Q := by
  refine x_start (lv0 := [_, _]) (Nat.le_of_ble_eq_true rfl) rfl ?_
  have h12 := hW.nwl
  refine x_aload (pc' := 1) rfl rfl rfl ?_
  refine x_iload (pc' := 2) rfl rfl rfl ?_
  refine x_int (pc' := 3) (v := nI 4) rfl rfl rfl ?_
  refine x_callV (pc' := 6) (d1 := 1) (Bs := [_, _]) rfl rfl rfl rfl rfl rfl rfl (Nat.le_of_ble_eq_true rfl) ⟨rfl, rfl⟩ (by decide) rfl (by decide) ?_
  refine w_X10_of (by omega) (by omega) ?_
  refine ⟨rfl, ?_⟩
  refine x_iret rfl rfl ?_
  rw [hR.run hw]
  exact k1
set_option maxRecDepth 20000 in
set_option maxHeartbeats 1000000 in
theorem w_X10_isDead {D : Nat → Nat → Int32} {L : Nat → Nat → Int64} {Q : bh_Q} {T : TW} (hW : WF T) (hR : Rn T (D 206)) {w : Nat} (hw : w < nw T) (k1 : isD T w = true → Q (some (.int 1)) (hp D L)) (k0 : isD T w = false → Q (some (.int 0)) (hp D L)) : bh_wc 2 m_X10_isDead [.ref 205, .int (nI w)] (hp D L) Q := by
  refine x_start (lv0 := [_, _]) (Nat.le_of_ble_eq_true rfl) rfl ?_
  have h12 := hW.nwl
  refine x_aload (pc' := 1) rfl rfl rfl ?_
  refine x_iload (pc' := 2) rfl rfl rfl ?_
  refine x_int (pc' := 4) (v := nI 8) rfl rfl rfl ?_
  refine x_callV (pc' := 7) (d1 := 1) (Bs := [_, _]) rfl rfl rfl rfl rfl rfl rfl (Nat.le_of_ble_eq_true rfl) ⟨rfl, rfl⟩ (by decide) rfl (by decide) ?_
  refine w_X10_of (by omega) (by omega) ?_
  refine ⟨rfl, ?_⟩
  refine x_top (hR.rde hw) ?_
  refine x_int (pc' := 8) (v := nI 1) rfl rfl rfl ?_
  refine x_ic_ne (pc' := 11) rfl rfl (fun c8 => ?_) (fun c8 => ?_)
  · refine x_int (pc' := 16) (v := nI 0) rfl rfl rfl ?_
    refine x_zret rfl rfl (by decide) ?_
    refine k0 ?_
    by_cases h : isD T w = true
    · rw [if_pos h] at c8; exact absurd rfl c8
    · rwa [Bool.not_eq_true] at h
  · refine x_int (pc' := 12) (v := nI 1) rfl rfl rfl ?_
    refine x_goto rfl ?_
    refine x_zret rfl rfl (by decide) ?_
    refine k1 ?_
    by_cases h : isD T w = true
    · exact h
    · rw [if_neg h] at c8; exact absurd c8 (by decide)
set_option maxRecDepth 20000 in
set_option maxHeartbeats 1000000 in
theorem w_X10_pagesOf {D : Nat → Nat → Int32} {L : Nat → Nat → Int64} {Q : bh_Q} {T : TW} (hW : WF T) (hR : Rn T (D 206)) {b : Nat} (hb : b < nb T) (k1 : Q (some (.int (nI (lng T b)))) (hp D L)) : bh_wc 1 m_X10_pagesOf [.ref 205, .int (nI b)] (hp D L) Q := by
  refine x_start (lv0 := [_, _]) (Nat.le_of_ble_eq_true rfl) rfl ?_
  have h4 := hW.nbl
  refine x_aload (pc' := 1) rfl rfl rfl ?_
  refine x_getR (pc' := 4) rfl rfl rfl (by decide) rfl (by decide) rfl rfl ?_
  refine x_int (pc' := 7) (v := nI 508) rfl rfl rfl ?_
  refine x_int (pc' := 9) (v := nI 9) rfl rfl rfl ?_
  refine x_iload (pc' := 10) rfl rfl rfl ?_
  refine y_imul (pc' := 11) rfl rfl ?_
  refine y_iadd (pc' := 12) rfl rfl ?_
  refine x_iald (pc' := 13) rfl rfl (by decide) rfl (by decide) (show _ < 560 by omega) ?_
  refine x_top ((hR.rlng hb).trans (hW.elng hb)) ?_
  refine x_iret rfl rfl ?_
  exact k1
set_option maxRecDepth 20000 in
set_option maxHeartbeats 1000000 in
theorem w_X10_isPage {D : Nat → Nat → Int32} {L : Nat → Nat → Int64} {Q : bh_Q} {T : TW} (hW : WF T) (hR : Rn T (D 206)) {x y : Int32} (k1 : ∀ b q : Nat, b < nb T → q < lng T b → x = nI b → y = nI q → Q (some (.int 1)) (hp D L)) (k0 : ¬ okB T x y → Q (some (.int 0)) (hp D L)) : bh_wc 3 m_X10_isPage [.ref 205, .int x, .int y] (hp D L) Q := by
  refine x_start (lv0 := [_, _, _]) (Nat.le_of_ble_eq_true rfl) rfl ?_
  refine x_aload (pc' := 1) rfl rfl rfl ?_
  refine x_iload (pc' := 2) rfl rfl rfl ?_
  refine x_callV (pc' := 5) (d1 := 2) (Bs := [_]) rfl rfl rfl rfl rfl rfl rfl (Nat.le_of_ble_eq_true rfl) ⟨rfl, rfl⟩ (by decide) rfl (by decide) ?_
  refine w_X10_isBook hW hR (fun b hb e => ?_) (fun h2 => ?_)
  · subst e
    have h8 := hW.lngl hb
    have h4 := hW.nbl
    refine ⟨rfl, ?_⟩
    refine x_if_eq (pc' := 8) rfl rfl (fun c5 => absurd c5 (by decide)) (fun _ => ?_)
    refine x_iload (pc' := 9) rfl rfl rfl ?_
    refine x_i2l (pc' := 10) rfl rfl ?_
    refine x_long (pc' := 11) (v := (nI 0).toInt64) rfl rfl (by decide) ?_
    refine x_aload (pc' := 12) rfl rfl rfl ?_
    refine x_iload (pc' := 13) rfl rfl rfl ?_
    refine x_callV (pc' := 16) (d1 := 1) (Bs := [_]) rfl rfl rfl rfl rfl rfl rfl (Nat.le_of_ble_eq_true rfl) ⟨rfl, rfl⟩ (by decide) rfl (by decide) ?_
    refine w_X10_pagesOf hW hR (by assumption) ?_
    refine ⟨rfl, ?_⟩
    refine x_int (pc' := 17) (v := nI 1) rfl rfl rfl ?_
    refine x_isub (pc' := 18) rfl rfl ?_
    refine x_i2l (pc' := 19) rfl rfl ?_
    refine x_callS (pc' := 22) (d1 := 1) (As := [_, _, _]) rfl rfl rfl rfl (by decide) rfl rfl (Nat.le_of_ble_eq_true rfl) ⟨rfl, rfl⟩ (by decide) ?_
    refine w_X10_in (fun h19a h19b => ?_) (fun h19 => ?_)
    · refine ⟨rfl, ?_⟩
      refine x_if_eq (pc' := 25) rfl rfl (fun c22 => absurd c22 (by decide)) (fun _ => ?_)
      refine x_int (pc' := 26) (v := nI 1) rfl rfl rfl ?_
      refine x_goto rfl ?_
      refine x_zret rfl rfl (by decide) ?_
      obtain ⟨j, hj, e⟩ := in_okN (by omega) h19a h19b
      exact k1 b j hb hj rfl e
    · refine ⟨rfl, ?_⟩
      refine x_if_eq (pc' := 25) rfl rfl (fun _ => ?_) (fun c22 => absurd (by decide) c22)
      refine x_int (pc' := 30) (v := nI 0) rfl rfl rfl ?_
      refine x_zret rfl rfl (by decide) ?_
      exact k0 (fun ⟨c, q, q1, q2, e1, e2⟩ => okN_in (by omega) h19 ⟨q, by rw [nI_inj (by omega) (by omega) e1]; exact q2, e2⟩)
  · refine ⟨rfl, ?_⟩
    refine x_if_eq (pc' := 8) rfl rfl (fun _ => ?_) (fun c5 => absurd (by decide) c5)
    refine x_int (pc' := 30) (v := nI 0) rfl rfl rfl ?_
    refine x_zret rfl rfl (by decide) ?_
    exact k0 (fun ⟨c, q, q1, q2, e1, e2⟩ => h2 ⟨c, q1, e1⟩)
set_option maxRecDepth 20000 in
set_option maxHeartbeats 1000000 in
theorem w_X10_pageOf {D : Nat → Nat → Int32} {L : Nat → Nat → Int64} {Q : bh_Q} {T : TW} (hW : WF T) (hR : Rn T (D 206)) {b q : Nat} (hb : b < nb T) (hq : q < lng T b) (k1 : Q (some (.int (nI (pg T b q)))) (hp D L)) : bh_wc 1 m_X10_pageOf [.ref 205, .int (nI b), .int (nI q)] (hp D L) Q := by
  refine x_start (lv0 := [_, _, _]) (Nat.le_of_ble_eq_true rfl) rfl ?_
  have h4 := hW.nbl
  have h8 := hW.lngl hb
  refine x_aload (pc' := 1) rfl rfl rfl ?_
  refine x_getR (pc' := 4) rfl rfl rfl (by decide) rfl (by decide) rfl rfl ?_
  refine x_int (pc' := 7) (v := nI 508) rfl rfl rfl ?_
  refine x_int (pc' := 9) (v := nI 9) rfl rfl rfl ?_
  refine x_iload (pc' := 10) rfl rfl rfl ?_
  refine y_imul (pc' := 11) rfl rfl ?_
  refine y_iadd (pc' := 12) rfl rfl ?_
  refine x_int (pc' := 13) (v := nI 1) rfl rfl rfl ?_
  refine y_iadd (pc' := 14) rfl rfl ?_
  refine x_iload (pc' := 15) rfl rfl rfl ?_
  refine y_iadd (pc' := 16) rfl rfl ?_
  refine x_iald (pc' := 17) rfl rfl (by decide) rfl (by decide) (show _ < 560 by omega) ?_
  refine x_top ((hR.rpg hb hq).trans (hW.epg hb hq)) ?_
  refine x_iret rfl rfl ?_
  exact k1
set_option maxRecDepth 20000 in
set_option maxHeartbeats 1000000 in
theorem w_X10_hasStock {D : Nat → Nat → Int32} {L : Nat → Nat → Int64} {Q : bh_Q} {T : TW} (hW : WF T) (hR : Rn T (D 206)) {w b : Nat} (hw : w < nw T) (hb : b < nb T) (k1 : (sk T w).testBit b = true → Q (some (.int 1)) (hp D L)) (k0 : (sk T w).testBit b = false → Q (some (.int 0)) (hp D L)) : bh_wc 2 m_X10_hasStock [.ref 205, .int (nI w), .int (nI b)] (hp D L) Q := by
  refine x_start (lv0 := [_, _, _]) (Nat.le_of_ble_eq_true rfl) rfl ?_
  have h12 := hW.nwl
  have h4 := hW.nbl
  have h16 := hW.sk4 hw
  refine x_aload (pc' := 1) rfl rfl rfl ?_
  refine x_iload (pc' := 2) rfl rfl rfl ?_
  refine x_int (pc' := 4) (v := nI 9) rfl rfl rfl ?_
  refine x_callV (pc' := 7) (d1 := 1) (Bs := [_, _]) rfl rfl rfl rfl rfl rfl rfl (Nat.le_of_ble_eq_true rfl) ⟨rfl, rfl⟩ (by decide) rfl (by decide) ?_
  refine w_X10_of (by omega) (by omega) ?_
  refine ⟨rfl, ?_⟩
  refine x_top ((hR.rsk hw).trans (hW.esk hw)) ?_
  refine x_iload (pc' := 8) rfl rfl rfl ?_
  refine x_callS (pc' := 11) (d1 := 1) (As := [_, _]) rfl rfl rfl rfl (by decide) rfl rfl (Nat.le_of_ble_eq_true rfl) ⟨rfl, rfl⟩ (by decide) ?_
  refine w_X10_has (by omega) (by omega) (fun h8 => ?_) (fun h8 => ?_)
  · refine ⟨rfl, ?_⟩
    refine x_zret rfl rfl (by decide) ?_
    exact k1 h8
  · refine ⟨rfl, ?_⟩
    refine x_zret rfl rfl (by decide) ?_
    exact k0 h8
set_option maxRecDepth 20000 in
set_option maxHeartbeats 1000000 in
theorem w_X10_stockAt {D : Nat → Nat → Int32} {L : Nat → Nat → Int64} {Q : bh_Q} {w b q : Nat} (k1 : Q (some (.int (nI (124 + 8 * (4 * w + b) + q)))) (hp D L)) : bh_wc 1 m_X10_stockAt [.int (nI w), .int (nI b), .int (nI q)] (hp D L) Q := by
  refine x_start (lv0 := [_, _, _]) (Nat.le_of_ble_eq_true rfl) rfl ?_
  refine x_int (pc' := 2) (v := nI 124) rfl rfl rfl ?_
  refine x_int (pc' := 4) (v := nI 8) rfl rfl rfl ?_
  refine x_int (pc' := 5) (v := nI 4) rfl rfl rfl ?_
  refine x_iload (pc' := 6) rfl rfl rfl ?_
  refine y_imul (pc' := 7) rfl rfl ?_
  refine x_iload (pc' := 8) rfl rfl rfl ?_
  refine y_iadd (pc' := 9) rfl rfl ?_
  refine y_imul (pc' := 10) rfl rfl ?_
  refine y_iadd (pc' := 11) rfl rfl ?_
  refine x_iload (pc' := 12) rfl rfl rfl ?_
  refine y_iadd (pc' := 13) rfl rfl ?_
  refine x_iret rfl rfl ?_
  exact k1
end
section
/-! ===== the reference: habits, hands, a line ===== -/
def wth (row k s : Nat) : Nat := (row &&& (65535 ^^^ (1 <<< k))) ||| (s <<< k)
theorem one_shl_bit (k i : Nat) : (1 <<< k).testBit i = decide (k = i) := by rw [Nat.one_shiftLeft, Nat.testBit_two_pow]
theorem wth_bit {row k s i : Nat} (hr : row < 65536) (hk : k < 16) (hs : s ≤ 1) : (wth row k s).testBit i = if i = k then decide (s = 1) else row.testBit i := by
  unfold wth
  rw [Nat.testBit_or, Nat.testBit_and, Nat.testBit_xor, one_shl_bit, Nat.testBit_shiftLeft]
  by_cases hi : i = k
  · subst hi
    rw [if_pos rfl, show 65535 = 2 ^ 16 - 1 by decide, ones hk]
    have : s = 0 ∨ s = 1 := by omega
    rcases this with rfl | rfl <;> simp
  · rw [if_neg hi]
    have e2 : (decide (i ≥ k) && s.testBit (i - k)) = false := by
      by_cases hk2 : i ≥ k
      · have : s.testBit (i - k) = false := high (n := 1) (by omega) (by omega)
        rw [this]; simp
      · simp; omega
    rw [e2]
    by_cases h16 : i < 16
    · rw [show 65535 = 2 ^ 16 - 1 by decide, ones h16]
      have : ¬ k = i := fun e => hi e.symm
      simp [this]
    · rw [high (n := 16) hr (by omega)]; simp
theorem wth_lt {row k s : Nat} (hr : row < 65536) (hk : k < 16) (hs : s ≤ 1) : wth row k s < 65536 := by
  show _ < 2 ^ 16
  unfold wth
  refine Nat.or_lt_two_pow (Nat.and_lt_two_pow _ (Nat.xor_lt_two_pow (by decide) ?_)) ?_
  · rw [Nat.one_shiftLeft]; exact Nat.pow_lt_pow_right (by decide) hk
  · have : s = 0 ∨ s = 1 := by omega
    rcases this with rfl | rfl
    · simp
    · rw [Nat.one_shiftLeft]; exact Nat.pow_lt_pow_right (by decide) hk
theorem bit_le (r i : Nat) : (r >>> i &&& 1) ≤ 1 := Nat.and_le_right
theorem bit_dec (r i : Nat) : decide ((r >>> i &&& 1) = 1) = r.testBit i := by
  rw [tb]; cases r.testBit i <;> simp
theorem wth6 {row a b : Nat} : wth row b (row >>> a &&& 1) = hab 6 a b row := by
  show (row &&& (65535 ^^^ (1 <<< b))) ||| _ = (row &&& (65535 ^^^ (1 <<< b))) ||| _
  rw [tb]
  congr 1
  split <;> simp
theorem wth5 {row a b : Nat} (hr : row < 65536) (ha : a < 16) (hb : b < 16) (hab' : a ≠ b) : wth (wth row a (row >>> b &&& 1)) b (row >>> a &&& 1) = hab 5 a b row := by
  apply Nat.eq_of_testBit_eq
  intro i
  rw [wth_bit (wth_lt hr ha (bit_le _ _)) hb (bit_le _ _), wth_bit hr ha (bit_le _ _), bit_dec, bit_dec]
  show _ = (if row.testBit a = row.testBit b then row else row ^^^ ((1 <<< a) ||| (1 <<< b))).testBit i
  by_cases e : row.testBit a = row.testBit b
  · rw [if_pos e]
    by_cases h1 : i = b
    · rw [if_pos h1, h1, e]
    · rw [if_neg h1]
      by_cases h2 : i = a
      · rw [if_pos h2, h2, e]
      · rw [if_neg h2]
  · rw [if_neg e, Nat.testBit_xor, Nat.testBit_or, one_shl_bit, one_shl_bit]
    by_cases h1 : i = b
    · subst h1
      rw [if_pos rfl]
      simp [hab']
      revert e
      cases row.testBit a <;> cases row.testBit i <;> simp
    · rw [if_neg h1]
      by_cases h2 : i = a
      · subst h2
        rw [if_pos rfl]
        simp
        revert e
        cases row.testBit i <;> cases row.testBit b <;> simp
      · rw [if_neg h2]
        have e1 : ¬ a = i := fun q => h2 q.symm
        have e2 : ¬ b = i := fun q => h1 q.symm
        simp [e1, e2]
theorem drop_getD {l : List Nat} {i : Nat} (h : i < l.length) : l.drop i = l.getD i 0 :: l.drop (i + 1) := by
  rw [List.drop_eq_getElem_cons h, List.getD_eq_getElem?_getD, List.getElem?_eq_getElem h]
  rfl
set_option maxRecDepth 20000 in
set_option maxHeartbeats 1000000 in
theorem w_X10_with {D : Nat → Nat → Int32} {L : Nat → Nat → Int64} {Q : bh_Q} {row k s : Nat} (hr : row < 65536) (hk : k < 16) (k1 : Q (some (.int (nI (wth row k s)))) (hp D L)) : bh_wc 1 m_X10_with [.int (nI row), .int (nI k), .int (nI s)] (hp D L) Q := by
  refine x_start (lv0 := [_, _, _]) (Nat.le_of_ble_eq_true rfl) rfl ?_
  refine x_iload (pc' := 1) rfl rfl rfl ?_
  refine x_int (pc' := 2) (v := nI 1) rfl rfl rfl ?_
  refine x_iload (pc' := 3) rfl rfl rfl ?_
  refine y_ishl (pc' := 4) rfl rfl (by omega) ?_
  refine x_int (pc' := 5) (v := nI 4294967295) rfl rfl rfl ?_
  refine y_ixor (pc' := 6) rfl rfl ?_
  refine y_iand (pc' := 7) rfl rfl ?_
  refine x_iload (pc' := 8) rfl rfl rfl ?_
  refine x_iload (pc' := 9) rfl rfl rfl ?_
  refine y_ishl (pc' := 10) rfl rfl (by omega) ?_
  refine y_ior (pc' := 11) rfl rfl ?_
  refine x_iret rfl rfl ?_
  rw [hab3 hr]
  exact k1
set_option maxRecDepth 20000 in
set_option maxHeartbeats 1000000 in
theorem w_X10_done {D : Nat → Nat → Int32} {L : Nat → Nat → Int64} {Q : bh_Q} {k a b row : Nat} {x y : Int32} (h : hok k a b) (hx : 1 ≤ k → x = nI a) (hy : 5 ≤ k → y = nI b) (hr : row < 65536) (k1 : Q (some (.int (nI (hab k a b row)))) (hp D L)) : bh_wc 2 m_X10_done [.int (nI k), .int x, .int y, .int (nI row)] (hp D L) Q := by
  refine x_start (lv0 := [_, _, _, _]) (Nat.le_of_ble_eq_true rfl) rfl ?_
  refine x_iload (pc' := 1) rfl rfl rfl ?_
  rcases k7 h.1 with rfl | rfl | rfl | rfl | rfl | rfl | rfl
  · refine x_tab1O rfl (Or.inl (by decide)) (by decide) ?_
    refine x_iload (pc' := 106) rfl rfl rfl ?_
    refine x_iret rfl rfl ?_
    exact k1
  · obtain rfl := hx (by decide)
    refine x_tab1N (n := 0) (t := 40) rfl (by decide) rfl ?_
    refine x_iload (pc' := 41) rfl rfl rfl ?_
    refine x_int (pc' := 42) (v := nI 1) rfl rfl rfl ?_
    refine x_iload (pc' := 43) rfl rfl rfl ?_
    refine y_ishl (pc' := 44) rfl rfl (by first | omega | (have := h.2.1; have := h.2.2.1; omega)) ?_
    refine y_ixor (pc' := 45) rfl rfl ?_
    refine x_iret rfl rfl ?_
    exact k1
  · obtain rfl := hx (by decide)
    refine x_tab1N (n := 1) (t := 46) rfl (by decide) rfl ?_
    refine x_iload (pc' := 47) rfl rfl rfl ?_
    refine x_int (pc' := 48) (v := nI 1) rfl rfl rfl ?_
    refine x_iload (pc' := 49) rfl rfl rfl ?_
    refine y_ishl (pc' := 50) rfl rfl (by first | omega | (have := h.2.1; have := h.2.2.1; omega)) ?_
    refine y_ior (pc' := 51) rfl rfl ?_
    refine x_iret rfl rfl ?_
    exact k1
  · obtain rfl := hx (by decide)
    refine x_tab1N (n := 2) (t := 52) rfl (by decide) rfl ?_
    refine x_iload (pc' := 53) rfl rfl rfl ?_
    refine x_int (pc' := 54) (v := nI 1) rfl rfl rfl ?_
    refine x_iload (pc' := 55) rfl rfl rfl ?_
    refine y_ishl (pc' := 56) rfl rfl (by first | omega | (have := h.2.1; have := h.2.2.1; omega)) ?_
    refine x_int (pc' := 57) (v := nI 4294967295) rfl rfl rfl ?_
    refine y_ixor (pc' := 58) rfl rfl ?_
    refine y_iand (pc' := 59) rfl rfl ?_
    refine x_iret rfl rfl ?_
    rw [hab3 hr]
    exact k1
  · obtain rfl := hx (by decide)
    refine x_tab1N (n := 3) (t := 60) rfl (by decide) rfl ?_
    refine x_iload (pc' := 61) rfl rfl rfl ?_
    refine x_iload (pc' := 62) rfl rfl rfl ?_
    refine y_ishl (pc' := 63) rfl rfl (by first | omega | (have := h.2.1; have := h.2.2.1; omega)) ?_
    refine x_iload (pc' := 64) rfl rfl rfl ?_
    refine x_int (pc' := 66) (v := nI 16) rfl rfl rfl ?_
    refine x_iload (pc' := 67) rfl rfl rfl ?_
    refine y_isub (pc' := 68) rfl rfl (by first | omega | (have := h.2.1; have := h.2.2.1; omega)) ?_
    refine y_ishr (pc' := 69) rfl rfl (by first | omega | (have := h.2.1; have := h.2.2.1; omega)) (by first | omega | (have := h.2.1; have := h.2.2.1; omega)) ?_
    refine y_ior (pc' := 70) rfl rfl ?_
    refine x_int (pc' := 72) (v := nI 65535) rfl rfl rfl ?_
    refine y_iand (pc' := 73) rfl rfl ?_
    refine x_iret rfl rfl ?_
    exact k1
  · obtain rfl := hx (by decide)
    obtain rfl := hy (by decide)
    refine x_tab1N (n := 4) (t := 74) rfl (by decide) rfl ?_
    refine x_iload (pc' := 75) rfl rfl rfl ?_
    refine x_iload (pc' := 76) rfl rfl rfl ?_
    refine x_iload (pc' := 77) rfl rfl rfl ?_
    refine x_iload (pc' := 78) rfl rfl rfl ?_
    refine y_ishr (pc' := 79) rfl rfl (by first | omega | (have := h.2.1; have := h.2.2.1; omega)) (by first | omega | (have := h.2.1; have := h.2.2.1; omega)) ?_
    refine x_int (pc' := 80) (v := nI 1) rfl rfl rfl ?_
    refine y_iand (pc' := 81) rfl rfl ?_
    refine x_callS (pc' := 84) (d1 := 1) (As := [_, _, _]) rfl rfl rfl rfl (by decide) rfl rfl (Nat.le_of_ble_eq_true rfl) ⟨rfl, rfl⟩ (by decide) ?_
    refine w_X10_with hr h.2.1 ?_
    refine ⟨rfl, ?_⟩
    refine x_iload (pc' := 85) rfl rfl rfl ?_
    refine x_iload (pc' := 86) rfl rfl rfl ?_
    refine x_iload (pc' := 87) rfl rfl rfl ?_
    refine y_ishr (pc' := 88) rfl rfl (by first | omega | (have := h.2.1; have := h.2.2.1; omega)) (by first | omega | (have := h.2.1; have := h.2.2.1; omega)) ?_
    refine x_int (pc' := 89) (v := nI 1) rfl rfl rfl ?_
    refine y_iand (pc' := 90) rfl rfl ?_
    refine x_callS (pc' := 93) (d1 := 1) (As := [_, _, _]) rfl rfl rfl rfl (by decide) rfl rfl (Nat.le_of_ble_eq_true rfl) ⟨rfl, rfl⟩ (by decide) ?_
    refine w_X10_with (wth_lt hr h.2.1 (bit_le _ _)) h.2.2.1 ?_
    refine ⟨rfl, ?_⟩
    refine x_iret rfl rfl ?_
    rw [wth5 hr h.2.1 h.2.2.1 (h.2.2.2.2.2.2 (by decide))]
    exact k1
  · obtain rfl := hx (by decide)
    obtain rfl := hy (by decide)
    refine x_tab1N (n := 5) (t := 94) rfl (by decide) rfl ?_
    refine x_iload (pc' := 95) rfl rfl rfl ?_
    refine x_iload (pc' := 96) rfl rfl rfl ?_
    refine x_iload (pc' := 97) rfl rfl rfl ?_
    refine x_iload (pc' := 98) rfl rfl rfl ?_
    refine y_ishr (pc' := 99) rfl rfl (by first | omega | (have := h.2.1; have := h.2.2.1; omega)) (by first | omega | (have := h.2.1; have := h.2.2.1; omega)) ?_
    refine x_int (pc' := 100) (v := nI 1) rfl rfl rfl ?_
    refine y_iand (pc' := 101) rfl rfl ?_
    refine x_callS (pc' := 104) (d1 := 1) (As := [_, _, _]) rfl rfl rfl rfl (by decide) rfl rfl (Nat.le_of_ble_eq_true rfl) ⟨rfl, rfl⟩ (by decide) ?_
    refine w_X10_with hr h.2.2.1 ?_
    refine ⟨rfl, ?_⟩
    refine x_iret rfl rfl ?_
    rw [wth6]
    exact k1
set_option maxRecDepth 20000 in
set_option maxHeartbeats 1000000 in
theorem w_X10_habit {D : Nat → Nat → Int32} {L : Nat → Nat → Int64} {Q : bh_Q} {T : TW} (hW : WF T) (hR : Rn T (D 206)) {w row : Nat} (hw : w < nw T) (hr : row < 65536) (k1 : Q (some (.int (nI (hab (kd T w) (fa T w) (fb T w) row)))) (hp D L)) : bh_wc 3 m_X10_habit [.ref 205, .int (nI w), .int (nI row)] (hp D L) Q := by
  refine x_start (lv0 := [_, _, _]) (Nat.le_of_ble_eq_true rfl) rfl ?_
  have h12 := hW.nwl
  refine x_aload (pc' := 1) rfl rfl rfl ?_
  refine x_iload (pc' := 2) rfl rfl rfl ?_
  refine x_int (pc' := 3) (v := nI 1) rfl rfl rfl ?_
  refine x_callV (pc' := 6) (d1 := 1) (Bs := [_, _]) rfl rfl rfl rfl rfl rfl rfl (Nat.le_of_ble_eq_true rfl) ⟨rfl, rfl⟩ (by decide) rfl (by decide) ?_
  refine w_X10_of (by omega) (by omega) ?_
  refine ⟨rfl, ?_⟩
  refine x_top ((hR.rkd hw).trans (hW.ekd hw)) ?_
  refine x_aload (pc' := 7) rfl rfl rfl ?_
  refine x_iload (pc' := 8) rfl rfl rfl ?_
  refine x_int (pc' := 9) (v := nI 2) rfl rfl rfl ?_
  refine x_callV (pc' := 12) (d1 := 1) (Bs := [_, _]) rfl rfl rfl rfl rfl rfl rfl (Nat.le_of_ble_eq_true rfl) ⟨rfl, rfl⟩ (by decide) rfl (by decide) ?_
  refine w_X10_of (by omega) (by omega) ?_
  refine ⟨rfl, ?_⟩
  refine x_aload (pc' := 13) rfl rfl rfl ?_
  refine x_iload (pc' := 14) rfl rfl rfl ?_
  refine x_int (pc' := 15) (v := nI 3) rfl rfl rfl ?_
  refine x_callV (pc' := 18) (d1 := 1) (Bs := [_, _]) rfl rfl rfl rfl rfl rfl rfl (Nat.le_of_ble_eq_true rfl) ⟨rfl, rfl⟩ (by decide) rfl (by decide) ?_
  refine w_X10_of (by omega) (by omega) ?_
  refine ⟨rfl, ?_⟩
  refine x_iload (pc' := 19) rfl rfl rfl ?_
  refine x_callS (pc' := 22) (d1 := 2) (As := [_, _, _, _]) rfl rfl rfl rfl (by decide) rfl rfl (Nat.le_of_ble_eq_true rfl) ⟨rfl, rfl⟩ (by decide) ?_
  refine w_X10_done (hW.ehok hw) (fun e => (hR.rfa hw e).trans (hW.efa hw)) (fun e => (hR.rfb hw e).trans (hW.efb hw)) hr ?_
  refine ⟨rfl, ?_⟩
  refine x_iret rfl rfl ?_
  exact k1
set_option maxRecDepth 20000 in
set_option maxHeartbeats 1000000 in
theorem w_X10_passes {D : Nat → Nat → Int32} {L : Nat → Nat → Int64} {Q : bh_Q} {T : TW} (hW : WF T) (hR : Rn T (D 206)) {w row : Nat} (hw : w < nw T) (hr : row < 65536) (k1 : Q (some (.int (nI (stU T w row)))) (hp D L)) : bh_wc 4 m_X10_passes [.ref 205, .int (nI w), .int (nI row)] (hp D L) Q := by
  refine x_start (lv0 := [_, _, _]) (Nat.le_of_ble_eq_true rfl) rfl ?_
  have h12 := hW.nwl
  refine x_aload (pc' := 1) rfl rfl rfl ?_
  refine x_iload (pc' := 2) rfl rfl rfl ?_
  refine x_int (pc' := 4) (v := nI 7) rfl rfl rfl ?_
  refine x_callV (pc' := 7) (d1 := 1) (Bs := [_, _]) rfl rfl rfl rfl rfl rfl rfl (Nat.le_of_ble_eq_true rfl) ⟨rfl, rfl⟩ (by decide) rfl (by decide) ?_
  refine w_X10_of (by omega) (by omega) ?_
  refine ⟨rfl, ?_⟩
  refine x_top (hR.rmo hw) ?_
  refine x_int (pc' := 8) (v := nI 1) rfl rfl rfl ?_
  refine y_ic_ne (pc' := 11) rfl rfl (by first | omega | (split <;> omega)) (by first | omega | (split <;> omega)) (fun c8 => ?_) (fun c8 => ?_)
  · refine x_aload (pc' := 16) rfl rfl rfl ?_
    refine x_iload (pc' := 17) rfl rfl rfl ?_
    refine x_iload (pc' := 18) rfl rfl rfl ?_
    refine x_callV (pc' := 21) (d1 := 3) (Bs := [_, _]) rfl rfl rfl rfl rfl rfl rfl (Nat.le_of_ble_eq_true rfl) ⟨rfl, rfl⟩ (by decide) rfl (by decide) ?_
    refine w_X10_habit hW hR (by assumption) (by assumption) ?_
    refine ⟨rfl, ?_⟩
    refine x_iret rfl rfl ?_
    first
      | (have hM : isM T w = true := by
           cases h : isM T w with
           | true => rfl
           | false => rw [h] at c8; exact absurd c8 (by decide)
         have e : stU T w row = row := if_pos hM
         rw [e] at k1; exact k1)
      | (have hM : ¬ isM T w = true := fun h => c8 (by rw [if_pos h])
         have e : stU T w row = _ := if_neg hM
         rw [e] at k1; exact k1)
  · refine x_iload (pc' := 12) rfl rfl rfl ?_
    refine x_goto rfl ?_
    refine x_iret rfl rfl ?_
    first
      | (have hM : isM T w = true := by
           cases h : isM T w with
           | true => rfl
           | false => rw [h] at c8; exact absurd c8 (by decide)
         have e : stU T w row = row := if_pos hM
         rw [e] at k1; exact k1)
      | (have hM : ¬ isM T w = true := fun h => c8 (by rw [if_pos h])
         have e : stU T w row = _ := if_neg hM
         rw [e] at k1; exact k1)
def HdM (D : Nat → Nat → Int32) (l : List Nat) : Prop := ∀ i, i < l.length → D 212 i = nI (l.getD i 0)
set_option maxRecDepth 20000 in
theorem l_X10_hands {T : TW} (hW : WF T) {d : Nat} (hd : 2 ≤ d) {L : Nat → Nat → Int64} {Q : bh_Q} {wv : Int32} : ∀ (r px : List Nat) (D : Nat → Nat → Int32) (n : Nat), isC T r → px.length + r.length ≤ 12 → n = px.length → Rn T (D 206) → (∀ i, i < px.length → D 212 i = nI (px.getD i 0)) →
    (∀ D', OffL [212] D D' → HdM D' (px ++ r) → Q (some (.int (nI (px ++ r).length))) (hp D' L)) → bw m_X10_hands d Q 4 [.ref 205, .int wv, .int (nI n), .int (hdI r)] [] D L := by
  intro r
  have h12 := hW.nwl
  induction r with
  | nil =>
    intro px D n hC hlen hn hR hl k
    subst hn
    refine x_iload (pc' := 5) rfl rfl rfl ?_
    refine x_int (pc' := 6) (v := (-1)) rfl rfl rfl ?_
    refine x_ic_eq (pc' := 9) rfl rfl (fun _ => ?_) (fun c6 => absurd (by decide) c6)
    refine x_iload (pc' := 29) rfl rfl rfl ?_
    refine x_iret rfl rfl ?_
    rw [List.append_nil] at k
    exact k D OffL.rf hl
  | cons x r ih =>
    intro px D n hC hlen hn hR hl k
    obtain ⟨hx0, hx1, hx2⟩ := hC
    rw [List.length_cons] at hlen
    subst hn
    show bw m_X10_hands d Q 4 [.ref 205, .int wv, .int (nI px.length), .int (nI x)] [] D L
    refine x_iload (pc' := 5) rfl rfl rfl ?_
    refine x_int (pc' := 6) (v := (-1)) rfl rfl rfl ?_
    refine x_ic_eq (pc' := 9) rfl rfl (fun c6 => ?_) (fun c6 => ?_)
    · exact absurd c6 (nI_m1 (by omega))
    · refine x_aload (pc' := 10) rfl rfl rfl ?_
      refine x_getR (pc' := 13) rfl rfl rfl (by decide) rfl (by decide) rfl rfl ?_
      refine x_iload (pc' := 14) rfl rfl rfl ?_
      refine x_iload (pc' := 15) rfl rfl rfl ?_
      refine x_iast (pc' := 16) rfl rfl (by decide) rfl (by decide) (show _ < 12 by omega) ?_
      refine y_inc (pc' := 19) (lv' := [_, _, _, _]) rfl rfl rfl (by decide) rfl ?_
      refine x_aload (pc' := 20) rfl rfl rfl ?_
      refine x_iload (pc' := 21) rfl rfl rfl ?_
      refine x_callV (pc' := 24) (d1 := 2) (Bs := [_]) rfl rfl rfl rfl rfl rfl rfl (Nat.le_of_ble_eq_true rfl) ⟨rfl, rfl⟩ (by decide) rfl (by omega) ?_
      refine w_X10_under (D := bh_up2 D 212 px.length (nI x)) hW hR hx0 ?_
      refine ⟨rfl, ?_⟩
      refine x_top hx1 ?_
      refine x_istore (pc' := 25) (lv' := [_, _, _, _]) rfl rfl (by decide) rfl ?_
      refine x_goto rfl ?_
      refine ih (px ++ [x]) _ _ hx2 (by simp; omega) (by simp) hR ?_ (fun D1 o1 hd1 => ?_)
      · intro i hi
        rw [List.length_append] at hi
        have hi2 : i < px.length + 1 := hi
        rw [bh_up2_k]
        dsimp only
        by_cases e : i = px.length
        · rw [if_pos e, e]; simp
        · rw [if_neg e, hl i (by omega), getD_app (by omega)]
      · have := k D1 (OffL.tr (OffL.up (by decide)) o1) (by rw [List.append_assoc] at hd1; exact hd1)
        simpa [List.append_assoc] using this
set_option maxRecDepth 20000 in
set_option maxHeartbeats 1000000 in
theorem w_X10_hands {D : Nat → Nat → Int32} {L : Nat → Nat → Int64} {Q : bh_Q} {T : TW} (hW : WF T) (hR : Rn T (D 206)) {w : Nat} (hw : w < nw T) (k1 : ∀ D', OffL [212] D D' → HdM D' (ch T w) → Q (some (.int (nI (ch T w).length))) (hp D' L)) : bh_wc 3 m_X10_hands [.ref 205, .int (nI w)] (hp D L) Q := by
  have hC := isH_of hW hw
  have hhd := hC.2.2
  generalize hwv : nI w = wi at hhd ⊢
  subst hhd
  refine x_start (lv0 := [_, _, _, _]) (Nat.le_of_ble_eq_true rfl) rfl ?_
  refine x_int (pc' := 1) (v := nI 0) rfl rfl rfl ?_
  refine x_istore (pc' := 2) (lv' := [_, _, _, _]) rfl rfl (by decide) rfl ?_
  refine x_iload (pc' := 3) rfl rfl rfl ?_
  refine x_istore (pc' := 4) (lv' := [_, _, _, _]) rfl rfl (by decide) rfl ?_
  exact l_X10_hands hW (by decide) (ch T w) [] D 0 hC.1 (by simpa using hC.2.1) rfl hR (fun i hi => absurd hi (Nat.not_lt_zero i)) (fun D1 o1 h1 => k1 D1 o1 h1)
theorem OffL212.rn {T : TW} {D D1 : Nat → Nat → Int32} (h : OffL [212] D D1) (hR : Rn T (D 206)) : Rn T (D1 206) := by rw [h 206 (by decide)]; exact hR
theorem lnC_lt {T : TW} (hW : WF T) {b q : Nat} (hb : b < nb T) (hq : q < lng T b) : ∀ {c : List Nat}, (∀ w ∈ c, w < nw T) → ∀ r, lnC T b q c = some r → r < 65536 := by
  intro c
  induction c with
  | nil => intro _ r h; cases h; exact hW.pgl hb hq
  | cons a c ih =>
    intro hm r h
    have ha := hm a List.mem_cons_self
    unfold lnC at h
    split at h
    · split at h
      next hs => cases h; exact hW.stkl ha hb hq hs
      · cases h
    · cases hc : lnC T b q c with
      | none => rw [hc] at h; cases h
      | some x =>
        rw [hc] at h
        have hx := ih (fun w hw => hm w (List.mem_cons_of_mem _ hw)) x hc
        have : r = stU T a x := (Option.some.inj h).symm
        rw [this]
        exact stU_lt hW ha hx
theorem lnO_lt {T : TW} (hW : WF T) {w b q r : Nat} (hw : w < nw T) (hb : b < nb T) (hq : q < lng T b) (h : lnO T w b q = some r) : r < 65536 := lnC_lt hW hb hq (ch_mem hW hw) r h
set_option maxRecDepth 20000 in
theorem l2_X10_lineOf {T : TW} (hW : WF T) {D : Nat → Nat → Int32} {L : Nat → Nat → Int64} {Q : bh_Q} (hR : Rn T (D 206)) {l : List Nat} (hH : HdM D l) (hm : ∀ w ∈ l, w < nw T) (hl12 : l.length ≤ 12) {a1 a2 a3 a4 a5 : Int32} : ∀ (n : Nat) (o : Option Nat) (v : Int32), n ≤ l.length → (∀ r, o = some r → r < 65536) → v = nI n - 1 → Q (some (.int (toI (o.map (upN T l 0 n))))) (hp D L) → bw m_X10_lineOf 4 Q 101 [.ref 205, .int a1, .int a2, .int a3, .int a4, .int a5, .int (toI o), .int v] [] D L := by
  intro n
  have h12 := hW.nwl
  induction n with
  | zero =>
    intro o v hn ho hv k1
    cases o with
    | none =>
      show bw m_X10_lineOf 4 Q 101 [.ref 205, .int a1, .int a2, .int a3, .int a4, .int a5, .int (-2), .int v] [] D L
      refine x_iload (pc' := 103) rfl rfl rfl ?_
      refine x_if_lt (pc' := 106) rfl rfl (fun c103 => ?_) (fun c103 => ?_)
      · refine x_iload (pc' := 136) rfl rfl rfl ?_
        refine x_iret rfl rfl ?_
        exact k1
      · refine x_iload (pc' := 108) rfl rfl rfl ?_
        refine x_int (pc' := 110) (v := (-2)) rfl rfl rfl ?_
        refine x_ic_eq (pc' := 113) rfl rfl (fun _ => ?_) (fun c110 => absurd (by decide) c110)
        refine x_iload (pc' := 136) rfl rfl rfl ?_
        refine x_iret rfl rfl ?_
        exact k1
    | some x =>
      show bw m_X10_lineOf 4 Q 101 [.ref 205, .int a1, .int a2, .int a3, .int a4, .int a5, .int (nI x), .int v] [] D L
      refine x_iload (pc' := 103) rfl rfl rfl ?_
      refine x_if_lt (pc' := 106) rfl rfl (fun c103 => ?_) (fun c103 => ?_)
      · refine x_iload (pc' := 136) rfl rfl rfl ?_
        refine x_iret rfl rfl ?_
        exact k1
      · exact absurd (by rw [hv]; decide) c103
  | succ n ih =>
    intro o v hn ho hv k1
    have hv : v = nI n := by rw [hv]; exact nI_pred _
    subst hv
    have hw : l.getD n 0 < nw T := hm _ (getD_mem (by omega))
    cases o with
    | none =>
      show bw m_X10_lineOf 4 Q 101 [.ref 205, .int a1, .int a2, .int a3, .int a4, .int a5, .int (-2), .int (nI n)] [] D L
      refine x_iload (pc' := 103) rfl rfl rfl ?_
      refine y_if_lt (pc' := 106) rfl rfl (by omega) ?_
      refine x_iload (pc' := 108) rfl rfl rfl ?_
      refine x_int (pc' := 110) (v := (-2)) rfl rfl rfl ?_
      refine x_ic_eq (pc' := 113) rfl rfl (fun _ => ?_) (fun c110 => absurd (by decide) c110)
      refine x_iload (pc' := 136) rfl rfl rfl ?_
      refine x_iret rfl rfl ?_
      exact k1
    | some x =>
      have hx : x < 65536 := ho x rfl
      have k1 : Q (some (.int (toI ((some (stU T (l.getD n 0) x)).map (upN T l 0 n))))) (hp D L) := by
        have e : upN T l 0 (n + 1) x = upN T l 0 n (stU T (l.getD n 0) x) := by show upN T l 0 n (stU T (l.getD (0 + n) 0) x) = _; rw [Nat.zero_add]
        show Q (some (.int (nI (upN T l 0 n (stU T (l.getD n 0) x))))) (hp D L)
        rw [← e]
        exact k1
      show bw m_X10_lineOf 4 Q 101 [.ref 205, .int a1, .int a2, .int a3, .int a4, .int a5, .int (nI x), .int (nI n)] [] D L
      refine x_iload (pc' := 103) rfl rfl rfl ?_
      refine y_if_lt (pc' := 106) rfl rfl (by omega) ?_
      refine x_iload (pc' := 108) rfl rfl rfl ?_
      refine x_int (pc' := 110) (v := (-2)) rfl rfl rfl ?_
      refine x_ic_eq (pc' := 113) rfl rfl (fun c110 => ?_) (fun c110 => ?_)
      · exact absurd c110 (nI_m2 (by omega))
      · refine x_aload (pc' := 114) rfl rfl rfl ?_
        refine x_aload (pc' := 115) rfl rfl rfl ?_
        refine x_getR (pc' := 118) rfl rfl rfl (by decide) rfl (by decide) rfl rfl ?_
        refine x_iload (pc' := 120) rfl rfl rfl ?_
        refine x_iald (pc' := 121) rfl rfl (by decide) rfl (by decide) (show _ < 12 by omega) ?_
        refine x_top (hH _ (by omega)) ?_
        refine x_iload (pc' := 123) rfl rfl rfl ?_
        refine x_callV (pc' := 126) (d1 := 4) (Bs := [_, _]) rfl rfl rfl rfl rfl rfl rfl (Nat.le_of_ble_eq_true rfl) ⟨rfl, rfl⟩ (by decide) rfl (by decide) ?_
        refine w_X10_passes hW hR hw hx ?_
        refine ⟨rfl, ?_⟩
        refine x_istore (pc' := 128) (lv' := [_, _, _, _, _, _, _, _]) rfl rfl (by decide) rfl ?_
        refine x_iinc (pc' := 131) (w := (-1)) (lv' := [_, _, _, _, _, _, _, _]) rfl rfl rfl rfl (by decide) (add_m1 _) rfl ?_
        refine x_goto rfl ?_
        exact ih (some (stU T (l.getD n 0) x)) _ (by omega) (fun r e => by cases e; exact stU_lt hW hw hx) rfl k1
set_option maxRecDepth 20000 in
set_option maxHeartbeats 1000000 in
theorem l1_X10_lineOf {T : TW} (hW : WF T) {D : Nat → Nat → Int32} {L : Nat → Nat → Int64} {Q : bh_Q} (hR : Rn T (D 206)) {l : List Nat} (hH : HdM D l) (hm : ∀ w ∈ l, w < nw T) (hl12 : l.length ≤ 12) {a1 a4 : Int32} {b q : Nat} (hb : b < nb T) (hq : q < lng T b) : ∀ (i e : Nat) (o : Option Nat) (e5 v : Int32), i ≤ e → e ≤ l.length → i ≤ l.length → (∀ r, o = some r → r < 65536) → e5 = nI e - 1 → v = nI i - 1 → lnC T b q (l.drop i) = o.map (up T ((l.drop i).take (e - i))) → Q (some (.int (toI (lnC T b q l)))) (hp D L) → bw m_X10_lineOf 4 Q 27 [.ref 205, .int a1, .int (nI b), .int (nI q), .int a4, .int e5, .int (toI o), .int v] [] D L := by
  intro i
  have h12 := hW.nwl
  have h4 := hW.nbl
  have h8 := hW.lngl hb
  induction i with
  | zero =>
    intro e o e5 v hie he2 hil ho he5 hv hln k1
    refine x_iload (pc' := 29) rfl rfl rfl ?_
    refine x_if_lt (pc' := 32) rfl rfl (fun c29 => ?_) (fun c29 => ?_)
    · refine x_iload (pc' := 99) rfl rfl rfl ?_
      refine x_istore (pc' := 101) (lv' := [_, _, _, _, _, _, _, _]) rfl rfl (by decide) rfl ?_
      refine l2_X10_lineOf hW hR hH hm hl12 e o _ he2 ho he5 ?_
      have e1 : lnC T b q l = o.map (up T ((l.drop 0).take (e - 0))) := hln
      have e2 : o.map (upN T l 0 e) = lnC T b q l := by
        rw [e1]
        congr 1
        funext x
        rw [upN_eq (by omega)]
        simp
      rw [e2]
      exact k1
    · exact absurd (by rw [hv]; decide) c29
  | succ i ih =>
    intro e o e5 v hie he2 hil ho he5 hv hln k1
    have hv : v = nI i := by rw [hv]; exact nI_pred _
    subst hv
    have hw : l.getD i 0 < nw T := hm _ (getD_mem (by omega))
    refine x_iload (pc' := 29) rfl rfl rfl ?_
    refine y_if_lt (pc' := 32) rfl rfl (by omega) ?_
    refine x_aload (pc' := 33) rfl rfl rfl ?_
    refine x_aload (pc' := 34) rfl rfl rfl ?_
    refine x_getR (pc' := 37) rfl rfl rfl (by decide) rfl (by decide) rfl rfl ?_
    refine x_iload (pc' := 39) rfl rfl rfl ?_
    refine x_iald (pc' := 40) rfl rfl (by decide) rfl (by decide) (show _ < 12 by omega) ?_
    refine x_top (hH _ (by omega)) ?_
    refine x_callV (pc' := 43) (d1 := 2) (Bs := [_]) rfl rfl rfl rfl rfl rfl rfl (Nat.le_of_ble_eq_true rfl) ⟨rfl, rfl⟩ (by decide) rfl (by decide) ?_
    refine w_X10_isDead hW hR hw (fun h40 => ?_) (fun h40 => ?_)
    · have hdr := drop_getD (l := l) (i := i) (by omega)
      have hl0 : lnC T b q (l.drop i) = if (sk T (l.getD i 0)).testBit b then some (stk T (l.getD i 0) b q) else none := by
        rw [hdr]
        unfold lnC
        rw [if_pos h40]
      refine ⟨rfl, ?_⟩
      refine x_if_eq (pc' := 46) rfl rfl (fun c43 => absurd c43 (by decide)) (fun _ => ?_)
      refine x_iload (pc' := 48) rfl rfl rfl ?_
      refine x_int (pc' := 49) (v := nI 1) rfl rfl rfl ?_
      refine x_isub (pc' := 50) rfl rfl ?_
      refine x_istore (pc' := 52) (lv' := [_, _, _, _, _, _, _, _]) rfl rfl (by decide) rfl ?_
      refine x_aload (pc' := 53) rfl rfl rfl ?_
      refine x_aload (pc' := 54) rfl rfl rfl ?_
      refine x_getR (pc' := 57) rfl rfl rfl (by decide) rfl (by decide) rfl rfl ?_
      refine x_iload (pc' := 59) rfl rfl rfl ?_
      refine x_iald (pc' := 60) rfl rfl (by decide) rfl (by decide) (show _ < 12 by omega) ?_
      refine x_top (hH _ (by omega)) ?_
      refine x_iload (pc' := 61) rfl rfl rfl ?_
      refine x_callV (pc' := 64) (d1 := 2) (Bs := [_, _]) rfl rfl rfl rfl rfl rfl rfl (Nat.le_of_ble_eq_true rfl) ⟨rfl, rfl⟩ (by decide) rfl (by decide) ?_
      refine w_X10_hasStock hW hR hw hb (fun h61 => ?_) (fun h61 => ?_)
      · refine ⟨rfl, ?_⟩
        refine x_if_eq (pc' := 67) rfl rfl (fun c64 => absurd c64 (by decide)) (fun _ => ?_)
        refine x_aload (pc' := 68) rfl rfl rfl ?_
        refine x_getR (pc' := 71) rfl rfl rfl (by decide) rfl (by decide) rfl rfl ?_
        refine x_aload (pc' := 72) rfl rfl rfl ?_
        refine x_getR (pc' := 75) rfl rfl rfl (by decide) rfl (by decide) rfl rfl ?_
        refine x_iload (pc' := 77) rfl rfl rfl ?_
        refine x_iald (pc' := 78) rfl rfl (by decide) rfl (by decide) (show _ < 12 by omega) ?_
        refine x_top (hH _ (by omega)) ?_
        refine x_iload (pc' := 79) rfl rfl rfl ?_
        refine x_iload (pc' := 80) rfl rfl rfl ?_
        refine x_callS (pc' := 83) (d1 := 1) (As := [_, _, _]) rfl rfl rfl rfl (by decide) rfl rfl (Nat.le_of_ble_eq_true rfl) ⟨rfl, rfl⟩ (by decide) ?_
        refine w_X10_stockAt ?_
        refine ⟨rfl, ?_⟩
        refine x_iald (pc' := 84) rfl rfl (by decide) rfl (by decide) (show _ < 560 by omega) ?_
        refine x_top ((hR.rstk hw hb hq h61).trans (hW.estk hw hb hq h61)) ?_
        refine x_goto rfl ?_
        refine x_istore (pc' := 91) (lv' := [_, _, _, _, _, _, _, _]) rfl rfl (by decide) rfl ?_
        refine x_iinc (pc' := 94) (w := (-1)) (lv' := [_, _, _, _, _, _, _, _]) rfl rfl rfl rfl (by decide) (add_m1 _) rfl ?_
        refine x_goto rfl ?_
        first
          | (rw [if_pos h61] at hl0
             refine ih i (some (stk T (l.getD i 0) b q)) _ _ (Nat.le_refl i) (by omega) (by omega) (fun r e => by cases e; exact hW.stkl hw hb hq h61) rfl rfl ?_ k1
             rw [hl0, Nat.sub_self]
             rfl)
          | (rw [if_neg (by rw [h61]; decide)] at hl0
             refine ih i none _ _ (Nat.le_refl i) (by omega) (by omega) (fun r e => by cases e) rfl rfl ?_ k1
             rw [hl0]
             rfl)
          | (refine ih e o _ _ (by omega) he2 (by omega) ho he5 rfl ?_ k1
             have hdr := drop_getD (l := l) (i := i) (by omega)
             rw [hdr]
             unfold lnC
             rw [if_neg (by rw [h40]; decide), hln, show e - i = (e - (i + 1)) + 1 by omega]
             cases o with
             | none => rfl
             | some x => rfl)
      · refine ⟨rfl, ?_⟩
        refine x_if_eq (pc' := 67) rfl rfl (fun _ => ?_) (fun c64 => absurd (by decide) c64)
        refine x_int (pc' := 89) (v := (-2)) rfl rfl rfl ?_
        refine x_istore (pc' := 91) (lv' := [_, _, _, _, _, _, _, _]) rfl rfl (by decide) rfl ?_
        refine x_iinc (pc' := 94) (w := (-1)) (lv' := [_, _, _, _, _, _, _, _]) rfl rfl rfl rfl (by decide) (add_m1 _) rfl ?_
        refine x_goto rfl ?_
        first
          | (rw [if_pos h61] at hl0
             refine ih i (some (stk T (l.getD i 0) b q)) _ _ (Nat.le_refl i) (by omega) (by omega) (fun r e => by cases e; exact hW.stkl hw hb hq h61) rfl rfl ?_ k1
             rw [hl0, Nat.sub_self]
             rfl)
          | (rw [if_neg (by rw [h61]; decide)] at hl0
             refine ih i none _ _ (Nat.le_refl i) (by omega) (by omega) (fun r e => by cases e) rfl rfl ?_ k1
             rw [hl0]
             rfl)
          | (refine ih e o _ _ (by omega) he2 (by omega) ho he5 rfl ?_ k1
             have hdr := drop_getD (l := l) (i := i) (by omega)
             rw [hdr]
             unfold lnC
             rw [if_neg (by rw [h40]; decide), hln, show e - i = (e - (i + 1)) + 1 by omega]
             cases o with
             | none => rfl
             | some x => rfl)
    · refine ⟨rfl, ?_⟩
      refine x_if_eq (pc' := 46) rfl rfl (fun _ => ?_) (fun c43 => absurd (by decide) c43)
      refine x_iinc (pc' := 94) (w := (-1)) (lv' := [_, _, _, _, _, _, _, _]) rfl rfl rfl rfl (by decide) (add_m1 _) rfl ?_
      refine x_goto rfl ?_
      first
        | (rw [if_pos h61] at hl0
           refine ih i (some (stk T (l.getD i 0) b q)) _ _ (Nat.le_refl i) (by omega) (by omega) (fun r e => by cases e; exact hW.stkl hw hb hq h61) rfl rfl ?_ k1
           rw [hl0, Nat.sub_self]
           rfl)
        | (rw [if_neg (by rw [h61]; decide)] at hl0
           refine ih i none _ _ (Nat.le_refl i) (by omega) (by omega) (fun r e => by cases e) rfl rfl ?_ k1
           rw [hl0]
           rfl)
        | (refine ih e o _ _ (by omega) he2 (by omega) ho he5 rfl ?_ k1
           have hdr := drop_getD (l := l) (i := i) (by omega)
           rw [hdr]
           unfold lnC
           rw [if_neg (by rw [h40]; decide), hln, show e - i = (e - (i + 1)) + 1 by omega]
           cases o with
           | none => rfl
           | some x => rfl)
set_option maxRecDepth 20000 in
set_option maxHeartbeats 1000000 in
theorem w_X10_lineOf {D : Nat → Nat → Int32} {L : Nat → Nat → Int64} {Q : bh_Q} {T : TW} (hW : WF T) (hR : Rn T (D 206)) {w b q : Nat} (hw : w < nw T) (hb : b < nb T) (hq : q < lng T b) (k1 : ∀ D', OffL [212] D D' → Q (some (.int (toI (lnO T w b q)))) (hp D' L)) : bh_wc 5 m_X10_lineOf [.ref 205, .int (nI w), .int (nI b), .int (nI q)] (hp D L) Q := by
  refine x_start (lv0 := [_, _, _, _, _, _, _, _]) (Nat.le_of_ble_eq_true rfl) rfl ?_
  refine x_aload (pc' := 1) rfl rfl rfl ?_
  refine x_iload (pc' := 2) rfl rfl rfl ?_
  refine x_callV (pc' := 5) (d1 := 3) (Bs := [_]) rfl rfl rfl rfl rfl rfl rfl (Nat.le_of_ble_eq_true rfl) ⟨rfl, rfl⟩ (by decide) rfl (by decide) ?_
  refine w_X10_hands hW hR hw (fun D1 o1 hH => ?_)
  have hR1 := OffL212.rn o1 hR
  have hm := ch_mem hW hw
  have hl12 := (isH_of hW hw).2.1
  refine ⟨rfl, ?_⟩
  refine x_istore (pc' := 7) (lv' := [_, _, _, _, _, _, _, _]) rfl rfl (by decide) rfl ?_
  refine x_iload (pc' := 9) rfl rfl rfl ?_
  refine x_int (pc' := 10) (v := nI 1) rfl rfl rfl ?_
  refine x_isub (pc' := 11) rfl rfl ?_
  refine x_istore (pc' := 13) (lv' := [_, _, _, _, _, _, _, _]) rfl rfl (by decide) rfl ?_
  refine x_aload (pc' := 14) rfl rfl rfl ?_
  refine x_iload (pc' := 15) rfl rfl rfl ?_
  refine x_iload (pc' := 16) rfl rfl rfl ?_
  refine x_callV (pc' := 19) (d1 := 1) (Bs := [_, _]) rfl rfl rfl rfl rfl rfl rfl (Nat.le_of_ble_eq_true rfl) ⟨rfl, rfl⟩ (by decide) rfl (by decide) ?_
  refine w_X10_pageOf hW hR1 hb hq ?_
  refine ⟨rfl, ?_⟩
  refine x_istore (pc' := 21) (lv' := [_, _, _, _, _, _, _, _]) rfl rfl (by decide) rfl ?_
  refine x_iload (pc' := 23) rfl rfl rfl ?_
  refine x_int (pc' := 24) (v := nI 1) rfl rfl rfl ?_
  refine x_isub (pc' := 25) rfl rfl ?_
  refine x_istore (pc' := 27) (lv' := [_, _, _, _, _, _, _, _]) rfl rfl (by decide) rfl ?_
  refine l1_X10_lineOf hW hR1 hH hm hl12 hb hq (ch T w).length (ch T w).length (some (pg T b q)) _ _ (Nat.le_refl _) (Nat.le_refl _) (Nat.le_refl _) (fun r e => by cases e; exact hW.pgl hb hq) rfl rfl ?_ (k1 D1 o1)
  rw [List.drop_length, Nat.sub_self]
  rfl
end
section
/-! ===== towns are copied ===== -/
def bh_tws : List Nat := [1, 14, 49, 62, 75, 88, 101, 114, 127, 140, 153, 166, 179, 192]
/-- how long a town's rows are -/
def tl (j : Nat) : Nat := ([6, 12, 12, 12, 12, 12, 12, 12, 12, 4, 32, 384, 16] : List Nat).getD j 0
set_option maxRecDepth 20000 in
theorem tw_all : ∀ t ∈ bh_tws, bh_tg t = 7 ∧ bh_ln t = 18 ∧ t + 12 < 205 ∧ (∀ j, j < 12 → bh_R0 t (6 + j) = some (t + 1 + j)) ∧ ∀ j, j < 12 → bh_tg (t + 1 + j) = 20 ∧ bh_ln (t + 1 + j) = tl (1 + j) := by decide +kernel
theorem tw_tg {t : Nat} (h : t ∈ bh_tws) : bh_tg t = 7 := (tw_all t h).1
theorem tw_ln {t : Nat} (h : t ∈ bh_tws) : bh_ln t = 18 := (tw_all t h).2.1
theorem tw_lt {t : Nat} (h : t ∈ bh_tws) : t < 228 := by have := (tw_all t h).2.2.1; omega
theorem tw_l {t j : Nat} (h : t ∈ bh_tws) (hj : j < 18) : j < bh_ln t := by rw [tw_ln h]; exact hj
theorem tw_R {t : Nat} (h : t ∈ bh_tws) (j : Nat) (hj : j < 12) : bh_R0 t (6 + j) = some (t + 1 + j) := (tw_all t h).2.2.2.1 j hj
theorem tw_a {t : Nat} (h : t ∈ bh_tws) (j : Nat) (hj : j < 12) : bh_tg (t + 1 + j) = 20 ∧ bh_ln (t + 1 + j) = tl (1 + j) := (tw_all t h).2.2.2.2 j hj
theorem tw_alt {t : Nat} (h : t ∈ bh_tws) (j : Nat) (hj : j < 12) : t + 1 + j < 228 := by have := (tw_all t h).2.2.1; omega
set_option maxRecDepth 20000 in
theorem tw_far : ∀ t ∈ bh_tws, ∀ t' ∈ bh_tws, t ≠ t' → t + 13 ≤ t' ∨ t' + 13 ≤ t := by decide +kernel
/-- rows 0 to n - 1 of the town at t are those of the one at t'; nothing else has changed -/
def Cp (D D' : Nat → Nat → Int32) (t t' n : Nat) : Prop := (∀ j, j < n → ∀ i, i < tl j → D' (t + j) i = D (t' + j) i) ∧ ∀ k, (k < t ∨ t + 13 ≤ k) → D' k = D k
theorem Cp.step {D D1 D2 : Nat → Nat → Int32} {t t' n : Nat} (h : Cp D D1 t t' n) (hf : t + 13 ≤ t' ∨ t' + 13 ≤ t) (hn : n < 13) (h1 : ∀ i, i < tl n → D2 (t + n) i = D1 (t' + n) i) (h2 : ∀ k, k ≠ t + n → D2 k = D1 k) : Cp D D2 t t' (n + 1) := by
  refine ⟨fun j hj i hi => ?_, fun k hk => ?_⟩
  · by_cases e : j = n
    · subst e
      rw [h1 i hi, h.2 (t' + j) (by omega)]
    · rw [h2 (t + j) (by omega)]
      exact h.1 j (by omega) i hi
  · rw [h2 k (by omega)]
    exact h.2 k hk
set_option maxRecDepth 20000 in
set_option maxHeartbeats 1000000 in
theorem w_X7_copyRow {D : Nat → Nat → Int32} {L : Nat → Nat → Int64} {Q : bh_Q} {a b n : Nat} (ha : a < 228) (hb : b < 228) (ta : bh_tg a = 20) (tb' : bh_tg b = 20) (la : bh_ln a = n) (lb : bh_ln b = n) (hn : n ≤ 10000) (hne : b ≠ a) (k1 : ∀ D', (∀ i, i < n → D' b i = D a i) → (∀ k, k ≠ b → D' k = D k) → Q none (hp D' L)) : bh_wc 1 m_X7_copyRow [.ref a, .ref b] (hp D L) Q := by
  refine x_start (lv0 := [_, _]) (Nat.le_of_ble_eq_true rfl) rfl ?_
  refine x_aload (pc' := 1) rfl rfl rfl ?_
  refine x_int (pc' := 2) (v := 0) rfl rfl rfl ?_
  refine x_aload (pc' := 3) rfl rfl rfl ?_
  refine x_int (pc' := 4) (v := 0) rfl rfl rfl ?_
  refine x_aload (pc' := 5) rfl rfl rfl ?_
  refine x_alen (n := n) (pc' := 6) rfl rfl ha (by rw [ta]; decide) la ?_
  refine x_aload (pc' := 7) rfl rfl rfl ?_
  refine x_alen (n := n) (pc' := 8) rfl rfl hb (by rw [tb']; decide) lb ?_
  refine x_min (pc' := 11) rfl rfl (Nat.le_of_ble_eq_true rfl) (if_neg Int32.lt_irrefl) ?_
  refine x_copy (pc' := 14) rfl rfl (Nat.le_of_ble_eq_true rfl) hb ha tb' ta (by omega) (by omega) (by omega) hne ?_
  refine x_vret rfl rfl ?_
  refine k1 _ (fun i hi => ?_) (fun k hk => bh_upr_ne _ _ hk)
  rw [bh_upr_self]
  unfold va_cpy
  rw [if_pos ⟨Nat.zero_le _, by omega⟩]
  simp
set_option maxRecDepth 20000 in
set_option maxHeartbeats 1000000 in
theorem w_X7_copyFrom {D : Nat → Nat → Int32} {L : Nat → Nat → Int64} {Q : bh_Q} {t u : Nat} (h1 : t ∈ bh_tws) (h2 : u ∈ bh_tws) (hne : t ≠ u) (k1 : ∀ D', Cp D D' t u 13 → Q none (hp D' L)) : bh_wc 2 m_X7_copyFrom [.ref t, .ref u] (hp D L) Q := by
  refine x_start (lv0 := [_, _]) (Nat.le_of_ble_eq_true rfl) rfl ?_
  have hf := tw_far t h1 u h2 hne
  refine x_aload (pc' := 1) rfl rfl rfl ?_
  refine x_aload (pc' := 2) rfl rfl rfl ?_
  refine x_getI (j := 0) (pc' := 5) rfl rfl rfl (tw_lt h2) (tw_tg h2) (tw_l h2 (by decide)) rfl rfl ?_
  refine x_putI (j := 0) (pc' := 8) rfl rfl rfl (tw_lt h1) (tw_tg h1) (tw_l h1 (by decide)) rfl rfl ?_
  refine x_aload (pc' := 9) rfl rfl rfl ?_
  refine x_aload (pc' := 10) rfl rfl rfl ?_
  refine x_getI (j := 1) (pc' := 13) rfl rfl rfl (tw_lt h2) (tw_tg h2) (tw_l h2 (by decide)) rfl rfl ?_
  simp only [bh_up2_ne _ _ _ (Ne.symm hne)]
  refine x_putI (j := 1) (pc' := 16) rfl rfl rfl (tw_lt h1) (tw_tg h1) (tw_l h1 (by decide)) rfl rfl ?_
  refine x_aload (pc' := 17) rfl rfl rfl ?_
  refine x_aload (pc' := 18) rfl rfl rfl ?_
  refine x_getI (j := 2) (pc' := 21) rfl rfl rfl (tw_lt h2) (tw_tg h2) (tw_l h2 (by decide)) rfl rfl ?_
  simp only [bh_up2_ne _ _ _ (Ne.symm hne)]
  refine x_putI (j := 2) (pc' := 24) rfl rfl rfl (tw_lt h1) (tw_tg h1) (tw_l h1 (by decide)) rfl rfl ?_
  refine x_aload (pc' := 25) rfl rfl rfl ?_
  refine x_aload (pc' := 26) rfl rfl rfl ?_
  refine x_getI (j := 3) (pc' := 29) rfl rfl rfl (tw_lt h2) (tw_tg h2) (tw_l h2 (by decide)) rfl rfl ?_
  simp only [bh_up2_ne _ _ _ (Ne.symm hne)]
  refine x_putI (j := 3) (pc' := 32) rfl rfl rfl (tw_lt h1) (tw_tg h1) (tw_l h1 (by decide)) rfl rfl ?_
  refine x_aload (pc' := 33) rfl rfl rfl ?_
  refine x_aload (pc' := 34) rfl rfl rfl ?_
  refine x_getI (j := 4) (pc' := 37) rfl rfl rfl (tw_lt h2) (tw_tg h2) (tw_l h2 (by decide)) rfl rfl ?_
  simp only [bh_up2_ne _ _ _ (Ne.symm hne)]
  refine x_putI (j := 4) (pc' := 40) rfl rfl rfl (tw_lt h1) (tw_tg h1) (tw_l h1 (by decide)) rfl rfl ?_
  refine x_aload (pc' := 41) rfl rfl rfl ?_
  refine x_aload (pc' := 42) rfl rfl rfl ?_
  refine x_getI (j := 5) (pc' := 45) rfl rfl rfl (tw_lt h2) (tw_tg h2) (tw_l h2 (by decide)) rfl rfl ?_
  simp only [bh_up2_ne _ _ _ (Ne.symm hne)]
  refine x_putI (j := 5) (pc' := 48) rfl rfl rfl (tw_lt h1) (tw_tg h1) (tw_l h1 (by decide)) rfl rfl ?_
  have hne : t ≠ u := hne
  have p1 : Cp D (bh_up2 (bh_up2 (bh_up2 (bh_up2 (bh_up2 (bh_up2 D t 0 (D u 0)) t 1 (D u 1)) t 2 (D u 2)) t 3 (D u 3)) t 4 (D u 4)) t 5 (D u 5)) t u 1 := by
    refine ⟨fun j hj i hi => ?_, fun k hk => ?_⟩
    · have e : j = 0 := by omega
      subst e
      have hi6 : i < 6 := hi
      show bh_up2 _ t 5 _ t i = D u i
      simp only [bh_up2_k]
      have hz : i = 0 ∨ i = 1 ∨ i = 2 ∨ i = 3 ∨ i = 4 ∨ i = 5 := by omega
      rcases hz with rfl | rfl | rfl | rfl | rfl | rfl <;> rfl
    · have hkt : k ≠ t := by omega
      rw [bh_up2_ne _ _ _ hkt, bh_up2_ne _ _ _ hkt, bh_up2_ne _ _ _ hkt, bh_up2_ne _ _ _ hkt, bh_up2_ne _ _ _ hkt, bh_up2_ne _ _ _ hkt]
  generalize bh_up2 (bh_up2 (bh_up2 (bh_up2 (bh_up2 (bh_up2 D t 0 (D u 0)) t 1 (D u 1)) t 2 (D u 2)) t 3 (D u 3)) t 4 (D u 4)) t 5 (D u 5) = D0 at p1 ⊢
  refine x_aload (pc' := 49) rfl rfl rfl ?_
  refine x_getR (pc' := 52) rfl rfl rfl (tw_lt h2) (tw_tg h2) (tw_l h2 (by decide)) rfl (tw_R h2 0 (by decide)) ?_
  refine x_aload (pc' := 53) rfl rfl rfl ?_
  refine x_getR (pc' := 56) rfl rfl rfl (tw_lt h1) (tw_tg h1) (tw_l h1 (by decide)) rfl (tw_R h1 0 (by decide)) ?_
  refine x_callS (pc' := 59) (d1 := 1) (As := [_, _]) rfl rfl rfl rfl (by decide) rfl rfl (Nat.le_of_ble_eq_true rfl) ⟨rfl, rfl⟩ (by decide) ?_
  refine w_X7_copyRow (tw_alt h2 0 (by decide)) (tw_alt h1 0 (by decide)) (tw_a h2 0 (by decide)).1 (tw_a h1 0 (by decide)).1 (tw_a h2 0 (by decide)).2 (tw_a h1 0 (by decide)).2 (by decide) (by omega) (fun D1 g1 f1 => ?_)
  have p2 := p1.step hf (by decide) g1 f1
  refine ⟨rfl, ?_⟩
  refine x_aload (pc' := 60) rfl rfl rfl ?_
  refine x_getR (pc' := 63) rfl rfl rfl (tw_lt h2) (tw_tg h2) (tw_l h2 (by decide)) rfl (tw_R h2 1 (by decide)) ?_
  refine x_aload (pc' := 64) rfl rfl rfl ?_
  refine x_getR (pc' := 67) rfl rfl rfl (tw_lt h1) (tw_tg h1) (tw_l h1 (by decide)) rfl (tw_R h1 1 (by decide)) ?_
  refine x_callS (pc' := 70) (d1 := 1) (As := [_, _]) rfl rfl rfl rfl (by decide) rfl rfl (Nat.le_of_ble_eq_true rfl) ⟨rfl, rfl⟩ (by decide) ?_
  refine w_X7_copyRow (tw_alt h2 1 (by decide)) (tw_alt h1 1 (by decide)) (tw_a h2 1 (by decide)).1 (tw_a h1 1 (by decide)).1 (tw_a h2 1 (by decide)).2 (tw_a h1 1 (by decide)).2 (by decide) (by omega) (fun D2 g2 f2 => ?_)
  have p3 := p2.step hf (by decide) g2 f2
  refine ⟨rfl, ?_⟩
  refine x_aload (pc' := 71) rfl rfl rfl ?_
  refine x_getR (pc' := 74) rfl rfl rfl (tw_lt h2) (tw_tg h2) (tw_l h2 (by decide)) rfl (tw_R h2 2 (by decide)) ?_
  refine x_aload (pc' := 75) rfl rfl rfl ?_
  refine x_getR (pc' := 78) rfl rfl rfl (tw_lt h1) (tw_tg h1) (tw_l h1 (by decide)) rfl (tw_R h1 2 (by decide)) ?_
  refine x_callS (pc' := 81) (d1 := 1) (As := [_, _]) rfl rfl rfl rfl (by decide) rfl rfl (Nat.le_of_ble_eq_true rfl) ⟨rfl, rfl⟩ (by decide) ?_
  refine w_X7_copyRow (tw_alt h2 2 (by decide)) (tw_alt h1 2 (by decide)) (tw_a h2 2 (by decide)).1 (tw_a h1 2 (by decide)).1 (tw_a h2 2 (by decide)).2 (tw_a h1 2 (by decide)).2 (by decide) (by omega) (fun D3 g3 f3 => ?_)
  have p4 := p3.step hf (by decide) g3 f3
  refine ⟨rfl, ?_⟩
  refine x_aload (pc' := 82) rfl rfl rfl ?_
  refine x_getR (pc' := 85) rfl rfl rfl (tw_lt h2) (tw_tg h2) (tw_l h2 (by decide)) rfl (tw_R h2 3 (by decide)) ?_
  refine x_aload (pc' := 86) rfl rfl rfl ?_
  refine x_getR (pc' := 89) rfl rfl rfl (tw_lt h1) (tw_tg h1) (tw_l h1 (by decide)) rfl (tw_R h1 3 (by decide)) ?_
  refine x_callS (pc' := 92) (d1 := 1) (As := [_, _]) rfl rfl rfl rfl (by decide) rfl rfl (Nat.le_of_ble_eq_true rfl) ⟨rfl, rfl⟩ (by decide) ?_
  refine w_X7_copyRow (tw_alt h2 3 (by decide)) (tw_alt h1 3 (by decide)) (tw_a h2 3 (by decide)).1 (tw_a h1 3 (by decide)).1 (tw_a h2 3 (by decide)).2 (tw_a h1 3 (by decide)).2 (by decide) (by omega) (fun D4 g4 f4 => ?_)
  have p5 := p4.step hf (by decide) g4 f4
  refine ⟨rfl, ?_⟩
  refine x_aload (pc' := 93) rfl rfl rfl ?_
  refine x_getR (pc' := 96) rfl rfl rfl (tw_lt h2) (tw_tg h2) (tw_l h2 (by decide)) rfl (tw_R h2 4 (by decide)) ?_
  refine x_aload (pc' := 97) rfl rfl rfl ?_
  refine x_getR (pc' := 100) rfl rfl rfl (tw_lt h1) (tw_tg h1) (tw_l h1 (by decide)) rfl (tw_R h1 4 (by decide)) ?_
  refine x_callS (pc' := 103) (d1 := 1) (As := [_, _]) rfl rfl rfl rfl (by decide) rfl rfl (Nat.le_of_ble_eq_true rfl) ⟨rfl, rfl⟩ (by decide) ?_
  refine w_X7_copyRow (tw_alt h2 4 (by decide)) (tw_alt h1 4 (by decide)) (tw_a h2 4 (by decide)).1 (tw_a h1 4 (by decide)).1 (tw_a h2 4 (by decide)).2 (tw_a h1 4 (by decide)).2 (by decide) (by omega) (fun D5 g5 f5 => ?_)
  have p6 := p5.step hf (by decide) g5 f5
  refine ⟨rfl, ?_⟩
  refine x_aload (pc' := 104) rfl rfl rfl ?_
  refine x_getR (pc' := 107) rfl rfl rfl (tw_lt h2) (tw_tg h2) (tw_l h2 (by decide)) rfl (tw_R h2 5 (by decide)) ?_
  refine x_aload (pc' := 108) rfl rfl rfl ?_
  refine x_getR (pc' := 111) rfl rfl rfl (tw_lt h1) (tw_tg h1) (tw_l h1 (by decide)) rfl (tw_R h1 5 (by decide)) ?_
  refine x_callS (pc' := 114) (d1 := 1) (As := [_, _]) rfl rfl rfl rfl (by decide) rfl rfl (Nat.le_of_ble_eq_true rfl) ⟨rfl, rfl⟩ (by decide) ?_
  refine w_X7_copyRow (tw_alt h2 5 (by decide)) (tw_alt h1 5 (by decide)) (tw_a h2 5 (by decide)).1 (tw_a h1 5 (by decide)).1 (tw_a h2 5 (by decide)).2 (tw_a h1 5 (by decide)).2 (by decide) (by omega) (fun D6 g6 f6 => ?_)
  have p7 := p6.step hf (by decide) g6 f6
  refine ⟨rfl, ?_⟩
  refine x_aload (pc' := 115) rfl rfl rfl ?_
  refine x_getR (pc' := 118) rfl rfl rfl (tw_lt h2) (tw_tg h2) (tw_l h2 (by decide)) rfl (tw_R h2 6 (by decide)) ?_
  refine x_aload (pc' := 119) rfl rfl rfl ?_
  refine x_getR (pc' := 122) rfl rfl rfl (tw_lt h1) (tw_tg h1) (tw_l h1 (by decide)) rfl (tw_R h1 6 (by decide)) ?_
  refine x_callS (pc' := 125) (d1 := 1) (As := [_, _]) rfl rfl rfl rfl (by decide) rfl rfl (Nat.le_of_ble_eq_true rfl) ⟨rfl, rfl⟩ (by decide) ?_
  refine w_X7_copyRow (tw_alt h2 6 (by decide)) (tw_alt h1 6 (by decide)) (tw_a h2 6 (by decide)).1 (tw_a h1 6 (by decide)).1 (tw_a h2 6 (by decide)).2 (tw_a h1 6 (by decide)).2 (by decide) (by omega) (fun D7 g7 f7 => ?_)
  have p8 := p7.step hf (by decide) g7 f7
  refine ⟨rfl, ?_⟩
  refine x_aload (pc' := 126) rfl rfl rfl ?_
  refine x_getR (pc' := 129) rfl rfl rfl (tw_lt h2) (tw_tg h2) (tw_l h2 (by decide)) rfl (tw_R h2 7 (by decide)) ?_
  refine x_aload (pc' := 130) rfl rfl rfl ?_
  refine x_getR (pc' := 133) rfl rfl rfl (tw_lt h1) (tw_tg h1) (tw_l h1 (by decide)) rfl (tw_R h1 7 (by decide)) ?_
  refine x_callS (pc' := 136) (d1 := 1) (As := [_, _]) rfl rfl rfl rfl (by decide) rfl rfl (Nat.le_of_ble_eq_true rfl) ⟨rfl, rfl⟩ (by decide) ?_
  refine w_X7_copyRow (tw_alt h2 7 (by decide)) (tw_alt h1 7 (by decide)) (tw_a h2 7 (by decide)).1 (tw_a h1 7 (by decide)).1 (tw_a h2 7 (by decide)).2 (tw_a h1 7 (by decide)).2 (by decide) (by omega) (fun D8 g8 f8 => ?_)
  have p9 := p8.step hf (by decide) g8 f8
  refine ⟨rfl, ?_⟩
  refine x_aload (pc' := 137) rfl rfl rfl ?_
  refine x_getR (pc' := 140) rfl rfl rfl (tw_lt h2) (tw_tg h2) (tw_l h2 (by decide)) rfl (tw_R h2 8 (by decide)) ?_
  refine x_aload (pc' := 141) rfl rfl rfl ?_
  refine x_getR (pc' := 144) rfl rfl rfl (tw_lt h1) (tw_tg h1) (tw_l h1 (by decide)) rfl (tw_R h1 8 (by decide)) ?_
  refine x_callS (pc' := 147) (d1 := 1) (As := [_, _]) rfl rfl rfl rfl (by decide) rfl rfl (Nat.le_of_ble_eq_true rfl) ⟨rfl, rfl⟩ (by decide) ?_
  refine w_X7_copyRow (tw_alt h2 8 (by decide)) (tw_alt h1 8 (by decide)) (tw_a h2 8 (by decide)).1 (tw_a h1 8 (by decide)).1 (tw_a h2 8 (by decide)).2 (tw_a h1 8 (by decide)).2 (by decide) (by omega) (fun D9 g9 f9 => ?_)
  have p10 := p9.step hf (by decide) g9 f9
  refine ⟨rfl, ?_⟩
  refine x_aload (pc' := 148) rfl rfl rfl ?_
  refine x_getR (pc' := 151) rfl rfl rfl (tw_lt h2) (tw_tg h2) (tw_l h2 (by decide)) rfl (tw_R h2 9 (by decide)) ?_
  refine x_aload (pc' := 152) rfl rfl rfl ?_
  refine x_getR (pc' := 155) rfl rfl rfl (tw_lt h1) (tw_tg h1) (tw_l h1 (by decide)) rfl (tw_R h1 9 (by decide)) ?_
  refine x_callS (pc' := 158) (d1 := 1) (As := [_, _]) rfl rfl rfl rfl (by decide) rfl rfl (Nat.le_of_ble_eq_true rfl) ⟨rfl, rfl⟩ (by decide) ?_
  refine w_X7_copyRow (tw_alt h2 9 (by decide)) (tw_alt h1 9 (by decide)) (tw_a h2 9 (by decide)).1 (tw_a h1 9 (by decide)).1 (tw_a h2 9 (by decide)).2 (tw_a h1 9 (by decide)).2 (by decide) (by omega) (fun D10 g10 f10 => ?_)
  have p11 := p10.step hf (by decide) g10 f10
  refine ⟨rfl, ?_⟩
  refine x_aload (pc' := 159) rfl rfl rfl ?_
  refine x_getR (pc' := 162) rfl rfl rfl (tw_lt h2) (tw_tg h2) (tw_l h2 (by decide)) rfl (tw_R h2 10 (by decide)) ?_
  refine x_aload (pc' := 163) rfl rfl rfl ?_
  refine x_getR (pc' := 166) rfl rfl rfl (tw_lt h1) (tw_tg h1) (tw_l h1 (by decide)) rfl (tw_R h1 10 (by decide)) ?_
  refine x_callS (pc' := 169) (d1 := 1) (As := [_, _]) rfl rfl rfl rfl (by decide) rfl rfl (Nat.le_of_ble_eq_true rfl) ⟨rfl, rfl⟩ (by decide) ?_
  refine w_X7_copyRow (tw_alt h2 10 (by decide)) (tw_alt h1 10 (by decide)) (tw_a h2 10 (by decide)).1 (tw_a h1 10 (by decide)).1 (tw_a h2 10 (by decide)).2 (tw_a h1 10 (by decide)).2 (by decide) (by omega) (fun D11 g11 f11 => ?_)
  have p12 := p11.step hf (by decide) g11 f11
  refine ⟨rfl, ?_⟩
  refine x_aload (pc' := 170) rfl rfl rfl ?_
  refine x_getR (pc' := 173) rfl rfl rfl (tw_lt h2) (tw_tg h2) (tw_l h2 (by decide)) rfl (tw_R h2 11 (by decide)) ?_
  refine x_aload (pc' := 174) rfl rfl rfl ?_
  refine x_getR (pc' := 177) rfl rfl rfl (tw_lt h1) (tw_tg h1) (tw_l h1 (by decide)) rfl (tw_R h1 11 (by decide)) ?_
  refine x_callS (pc' := 180) (d1 := 1) (As := [_, _]) rfl rfl rfl rfl (by decide) rfl rfl (Nat.le_of_ble_eq_true rfl) ⟨rfl, rfl⟩ (by decide) ?_
  refine w_X7_copyRow (tw_alt h2 11 (by decide)) (tw_alt h1 11 (by decide)) (tw_a h2 11 (by decide)).1 (tw_a h1 11 (by decide)).1 (tw_a h2 11 (by decide)).2 (tw_a h1 11 (by decide)).2 (by decide) (by omega) (fun D12 g12 f12 => ?_)
  have p13 := p12.step hf (by decide) g12 f12
  refine ⟨rfl, ?_⟩
  refine x_vret rfl rfl ?_
  exact k1 _ p13
end
section
/-! ===== towns with the same rows ===== -/
def TE (T T' : TW) : Prop := ∀ j, j < 13 → ∀ i, i < tl j → T' j i = T j i
def tvt (D : Nat → Nat → Int32) (t : Nat) : TW := fun j i => if j < 13 then D (t + j) i else 0
theorem tvt1 (D : Nat → Nat → Int32) : tvt D 1 = tv D := rfl
theorem Cp.te {D D' : Nat → Nat → Int32} {t u : Nat} (h : Cp D D' t u 13) : TE (tvt D u) (tvt D' t) := by
  intro j hj i hi
  unfold tvt
  rw [if_pos hj, if_pos hj]
  exact h.1 j hj i hi
theorem TE.rf {T : TW} : TE T T := fun _ _ _ _ => rfl
theorem TE.tr {T T1 T2 : TW} (h1 : TE T T1) (h2 : TE T1 T2) : TE T T2 := fun j hj i hi => (h2 j hj i hi).trans (h1 j hj i hi)
theorem TE.sy {T T1 : TW} (h1 : TE T T1) : TE T1 T := fun j hj i hi => (h1 j hj i hi).symm
theorem te_nw {T T' : TW} (h : TE T T') : nw T' = nw T := by unfold nw; rw [h 0 (by decide) 0 (by decide)]
theorem te_nb {T T' : TW} (h : TE T T') : nb T' = nb T := by unfold nb; rw [h 0 (by decide) 1 (by decide)]
theorem te_ns {T T' : TW} (h : TE T T') : ns T' = ns T := by unfold ns; rw [h 0 (by decide) 2 (by decide)]
theorem te_mo {T T' : TW} (h : TE T T') : mo T' = mo T := by unfold mo; rw [h 0 (by decide) 4 (by decide)]
theorem te_de {T T' : TW} (h : TE T T') : de T' = de T := by unfold de; rw [h 0 (by decide) 5 (by decide)]
theorem te_row {T T' : TW} (h : TE T T') {w : Nat} (hw : w < 12) (j : Nat) (hj : 1 ≤ j ∧ j ≤ 8) : T' j w = T j w := by
  refine h j (by omega) w ?_
  have : tl j = 12 := by
    have : j = 1 ∨ j = 2 ∨ j = 3 ∨ j = 4 ∨ j = 5 ∨ j = 6 ∨ j = 7 ∨ j = 8 := by omega
    rcases this with rfl | rfl | rfl | rfl | rfl | rfl | rfl | rfl <;> rfl
  rw [this]
  exact hw
theorem te_pu {T T' : TW} (h : TE T T') {w : Nat} (hw : w < 12) : pu T' w = pu T w := by unfold pu; rw [te_row h hw 1 (by decide)]
theorem te_kd {T T' : TW} (h : TE T T') {w : Nat} (hw : w < 12) : kd T' w = kd T w := by unfold kd; rw [te_row h hw 2 (by decide)]
theorem te_fa {T T' : TW} (h : TE T T') {w : Nat} (hw : w < 12) : fa T' w = fa T w := by unfold fa; rw [te_row h hw 3 (by decide)]
theorem te_fb {T T' : TW} (h : TE T T') {w : Nat} (hw : w < 12) : fb T' w = fb T w := by unfold fb; rw [te_row h hw 4 (by decide)]
theorem te_un {T T' : TW} (h : TE T T') {w : Nat} (hw : w < 12) : un T' w = un T w := by unfold un; rw [te_row h hw 5 (by decide)]
theorem te_sk {T T' : TW} (h : TE T T') {w : Nat} (hw : w < 12) : sk T' w = sk T w := by unfold sk; rw [te_row h hw 8 (by decide)]
theorem te_lng {T T' : TW} (h : TE T T') {b : Nat} (hb : b < 4) : lng T' b = lng T b := by unfold lng; rw [h 9 (by decide) b hb]
theorem te_isM {T T' : TW} (h : TE T T') (w : Nat) : isM T' w = isM T w := by unfold isM; rw [te_mo h]
theorem te_isD {T T' : TW} (h : TE T T') (w : Nat) : isD T' w = isD T w := by unfold isD; rw [te_de h]
theorem te_wf {T T' : TW} (h : TE T T') (hW : WF T) : WF T' := by
  have h12 := hW.nwl
  have h4 := hW.nbl
  have h16 := hW.nsl
  refine ⟨⟨?_, ?_, ?_, ?_, ?_⟩, fun w hw => ?_, fun b hb => ?_, fun w b q hw hb hq hs => ?_, fun i hi => ?_⟩
  · rw [h 0 (by decide) 0 (by decide)]; exact hW.1.1
  · rw [h 0 (by decide) 1 (by decide)]; exact hW.1.2.1
  · rw [h 0 (by decide) 2 (by decide)]; exact hW.1.2.2.1
  · rw [h 0 (by decide) 4 (by decide), te_nw h]; exact hW.1.2.2.2.1
  · rw [h 0 (by decide) 5 (by decide), te_nw h]; exact hW.1.2.2.2.2
  · rw [te_nw h] at hw
    have hw2 : w < 12 := by omega
    rw [te_row h hw2 1 (by decide), te_row h hw2 2 (by decide), te_row h hw2 3 (by decide), te_row h hw2 4 (by decide), te_row h hw2 8 (by decide), te_row h hw2 5 (by decide), te_kd h hw2, te_fa h hw2, te_fb h hw2, te_nb h, te_nw h, te_pu h hw2, te_un h hw2]
    obtain ⟨a1, a2, a3, a4, a5, a6, a7⟩ := hW.2.1 w hw
    refine ⟨a1, a2, a3, a4, a5, a6, ?_⟩
    rcases a7 with e | ⟨e1, e2⟩
    · exact Or.inl e
    · refine Or.inr ⟨e1, ?_⟩
      have : un T w < 12 := by have := e1.2; unfold un; omega
      rw [te_pu h this]
      exact e2
  · rw [te_nb h] at hb
    have hb2 : b < 4 := by omega
    rw [h 9 (by decide) b hb2, te_lng h hb2]
    have h8 := hW.lngl hb
    obtain ⟨a1, a2, a3⟩ := hW.2.2.1 b hb
    refine ⟨a1, a2, fun q hq => ?_⟩
    rw [h 10 (by decide) (b * 8 + q) (show b * 8 + q < 32 by omega)]
    exact a3 q hq
  · rw [te_nw h] at hw
    rw [te_nb h] at hb
    rw [te_lng h (by omega)] at hq
    rw [te_sk h (by omega)] at hs
    have h8 := hW.lngl hb
    rw [h 11 (by decide) ((w * 4 + b) * 8 + q) (show (w * 4 + b) * 8 + q < 384 by omega)]
    exact hW.2.2.2.1 w b q hw hb hq hs
  · rw [te_ns h] at hi
    rw [h 12 (by decide) i (show i < 16 by omega)]
    exact hW.2.2.2.2 i hi
theorem te_rn {T T' : TW} {N : Nat → Int32} (h : TE T T') (hW : WF T) (hR : Rn T N) : Rn T' N := by
  have h12 := hW.nwl
  have h4 := hW.nbl
  have h16 := hW.nsl
  refine ⟨⟨?_, ?_, ?_, ?_⟩, fun w hw => ?_, fun b hb => ?_, fun w b q hw hb hq hs => ?_, fun i hi => ?_⟩
  · rw [h 0 (by decide) 0 (by decide)]; exact hR.1.1
  · rw [h 0 (by decide) 1 (by decide)]; exact hR.1.2.1
  · rw [h 0 (by decide) 2 (by decide)]; exact hR.1.2.2.1
  · rw [h 0 (by decide) 3 (by decide)]; exact hR.1.2.2.2
  · rw [te_nw h] at hw
    have hw2 : w < 12 := by omega
    unfold Rw
    rw [te_row h hw2 1 (by decide), te_row h hw2 2 (by decide), te_row h hw2 3 (by decide), te_row h hw2 4 (by decide), te_row h hw2 8 (by decide), te_row h hw2 5 (by decide), te_row h hw2 6 (by decide), te_row h hw2 7 (by decide), te_kd h hw2, te_isM h, te_isD h]
    exact hR.2.1 w hw
  · rw [te_nb h] at hb
    have hb2 : b < 4 := by omega
    rw [h 9 (by decide) b hb2, te_lng h hb2]
    have h8 := hW.lngl hb
    refine ⟨(hR.2.2.1 b hb).1, fun q hq => ?_⟩
    rw [h 10 (by decide) (b * 8 + q) (show b * 8 + q < 32 by omega)]
    exact (hR.2.2.1 b hb).2 q hq
  · rw [te_nw h] at hw
    rw [te_nb h] at hb
    rw [te_lng h (by omega)] at hq
    rw [te_sk h (by omega)] at hs
    have h8 := hW.lngl hb
    rw [h 11 (by decide) ((w * 4 + b) * 8 + q) (show (w * 4 + b) * 8 + q < 384 by omega)]
    exact hR.2.2.2.1 w b q hw hb hq hs
  · rw [te_ns h] at hi
    rw [h 12 (by decide) i (show i < 16 by omega)]
    exact hR.2.2.2.2 i hi
/-- the reference's row may go on behind its 560 places -/
theorem rn_row {T : TW} {N N' : Nat → Int32} (hW : WF T) (h : ∀ k, k < 560 → N' k = N k) (hR : Rn T N) : Rn T N' := by
  have h12 := hW.nwl
  have h4 := hW.nbl
  have h16 := hW.nsl
  refine ⟨⟨?_, ?_, ?_, ?_⟩, fun w hw => ?_, fun b hb => ?_, fun w b q hw hb hq hs => ?_, fun i hi => ?_⟩
  · rw [h 0 (by decide)]; exact hR.1.1
  · rw [h 1 (by decide)]; exact hR.1.2.1
  · rw [h 2 (by decide)]; exact hR.1.2.2.1
  · rw [h 3 (by decide)]; exact hR.1.2.2.2
  · unfold Rw
    rw [h (4 + 10 * w + 0) (by omega), h (4 + 10 * w + 1) (by omega), h (4 + 10 * w + 2) (by omega), h (4 + 10 * w + 3) (by omega), h (4 + 10 * w + 4) (by omega), h (4 + 10 * w + 5) (by omega), h (4 + 10 * w + 6) (by omega), h (4 + 10 * w + 7) (by omega), h (4 + 10 * w + 8) (by omega), h (4 + 10 * w + 9) (by omega)]
    exact hR.2.1 w hw
  · have h8 := hW.lngl hb
    rw [h (508 + 9 * b) (by omega)]
    refine ⟨(hR.2.2.1 b hb).1, fun q hq => ?_⟩
    rw [h (508 + 9 * b + 1 + q) (by omega)]
    exact (hR.2.2.1 b hb).2 q hq
  · have h8 := hW.lngl hb
    rw [h (124 + 8 * (4 * w + b) + q) (by omega)]
    exact hR.2.2.2.1 w b q hw hb hq hs
  · rw [h (544 + i) (by omega)]
    exact hR.2.2.2.2 i hi
end
section
/-! ===== what was, what is kept: the class ===== -/
def tz : TW := fun _ _ => 0
def HC (D : Nat → Nat → Int32) (ps : List TW) : Prop := ps.length ≤ 10 ∧ D 0 14 = nI ps.length ∧ ∃ e, e < 10 ∧ D 0 13 = nI e ∧ ∀ j, j < ps.length → TE (ps.getD j tz) (tvt D (49 + 13 * ((e + 9 - j) % 10)))
def KC (D : Nat → Nat → Int32) (sh : Nat → Option TW) : Prop := ∃ kp, kp < 4 ∧ D 0 15 = nI kp ∧ ∀ s, s < 2 → kp.testBit s = (sh s).isSome ∧ ∀ T, sh s = some T → TE T (tvt D (179 + 13 * s))
def FrC (D D' : Nat → Nat → Int32) : Prop := ∀ k, k ≠ 0 → (k < 49 ∨ 179 ≤ k) → D' k = D k
theorem tvt_off {D D' : Nat → Nat → Int32} {t : Nat} (h : ∀ j, j < 13 → D' (t + j) = D (t + j)) : tvt D' t = tvt D t := by
  funext j i
  unfold tvt
  split
  next hj => rw [h j hj]
  next => rfl
theorem er : ∀ e, e < 10 → bh_R0 29 e = some (49 + 13 * e) ∧ 49 + 13 * e ∈ bh_tws := by decide +kernel
theorem sr : ∀ s, s < 2 → bh_R0 30 s = some (179 + 13 * s) ∧ 179 + 13 * s ∈ bh_tws := by decide +kernel
theorem min10 {u : Nat} (h : u ≤ 10) : (if nI 10 < nI (u + 1) then nI 10 else nI (u + 1)) = nI (min (u + 1) 10) := by
  by_cases e : u = 10
  · subst e; decide
  · rw [if_neg (nI_nlt (by omega) (by decide)), Nat.min_eq_left (by omega)]
theorem take10_len {ps : List TW} {T : TW} : ((T :: ps).take 10).length = min (ps.length + 1) 10 := by rw [List.length_take, List.length_cons, Nat.min_comm]
theorem take10_get {ps : List TW} {T : TW} {j : Nat} (h : j + 1 < ((T :: ps).take 10).length) : ((T :: ps).take 10).getD (j + 1) tz = ps.getD j tz := by
  have h2 : j + 1 < 10 := by rw [List.length_take] at h; omega
  rw [List.getD_eq_getElem?_getD, List.getElem?_take_of_lt h2, List.getElem?_cons_succ, ← List.getD_eq_getElem?_getD]
set_option maxRecDepth 20000 in
set_option maxHeartbeats 1000000 in
theorem w_X9_remember {D : Nat → Nat → Int32} {L : Nat → Nat → Int64} {Q : bh_Q} {ps : List TW} (hH : HC D ps) (k1 : ∀ D', FrC D D' → D' 0 15 = D 0 15 → HC D' ((tv D :: ps).take 10) → Q none (hp D' L)) : bh_wc 3 m_X9_remember [.ref 0] (hp D L) Q := by
  refine x_start (lv0 := [_]) (Nat.le_of_ble_eq_true rfl) rfl ?_
  obtain ⟨hu0, hu, e, he0, he, hps⟩ := hH
  have ht := (er e he0).2
  refine x_aload (pc' := 1) rfl rfl rfl ?_
  refine x_getR (pc' := 4) rfl rfl rfl (by decide) rfl (by decide) rfl rfl ?_
  refine x_aload (pc' := 5) rfl rfl rfl ?_
  refine x_getI (j := 13) (pc' := 8) rfl rfl rfl (by decide) rfl (by decide) rfl rfl ?_
  refine x_top (he) ?_
  refine x_aald (pc' := 9) rfl rfl (by decide) rfl (by decide) (show _ < 10 by omega) (er e he0).1 ?_
  refine x_aload (pc' := 10) rfl rfl rfl ?_
  refine x_getR (pc' := 13) rfl rfl rfl (by decide) rfl (by decide) rfl rfl ?_
  refine x_callV (pc' := 16) (d1 := 2) (Bs := [_]) rfl rfl rfl rfl rfl rfl rfl (Nat.le_of_ble_eq_true rfl) ⟨rfl, rfl⟩ (tw_lt ht) (tw_tg ht) (by decide) ?_
  refine w_X7_copyFrom ht (by decide) (by omega) (fun D1 c1 => ?_)
  have he1 : D1 0 13 = nI e := by rw [c1.2 0 (by omega)]; exact he
  have hu1 : D1 0 14 = nI ps.length := by rw [c1.2 0 (by omega)]; exact hu
  refine ⟨rfl, ?_⟩
  refine x_aload (pc' := 17) rfl rfl rfl ?_
  refine x_aload (pc' := 18) rfl rfl rfl ?_
  refine x_getI (j := 13) (pc' := 21) rfl rfl rfl (by decide) rfl (by decide) rfl rfl ?_
  refine x_top (he1) ?_
  refine x_int (pc' := 22) (v := nI 1) rfl rfl rfl ?_
  refine y_iadd (pc' := 23) rfl rfl ?_
  refine x_int (pc' := 25) (v := nI 10) rfl rfl rfl ?_
  refine y_irem (pc' := 26) rfl rfl (by omega) (by omega) (by omega) ?_
  refine x_putI (j := 13) (pc' := 29) rfl rfl rfl (by decide) rfl (by decide) rfl rfl ?_
  refine x_aload (pc' := 30) rfl rfl rfl ?_
  refine x_aload (pc' := 31) rfl rfl rfl ?_
  refine x_getI (j := 14) (pc' := 34) rfl rfl rfl (by decide) rfl (by decide) rfl rfl ?_
  refine x_top (hu1) ?_
  refine x_int (pc' := 35) (v := nI 1) rfl rfl rfl ?_
  refine y_iadd (pc' := 36) rfl rfl ?_
  refine x_int (pc' := 38) (v := nI 10) rfl rfl rfl ?_
  refine x_min (pc' := 41) rfl rfl (Nat.le_of_ble_eq_true rfl) (min10 hu0) ?_
  refine x_putI (j := 14) (pc' := 44) rfl rfl rfl (by decide) rfl (by decide) rfl rfl ?_
  refine x_vret rfl rfl ?_
  refine k1 _ (fun k hk0 hk => ?_) ?_ ⟨?_, ?_, (e + 1) % 10, by omega, ?_, fun j hj => ?_⟩
  · rw [bh_up2_ne _ _ _ hk0, bh_up2_ne _ _ _ hk0, c1.2 k (by omega)]
  · show D1 0 15 = _
    rw [c1.2 0 (by omega)]
  · rw [take10_len]; omega
  · show nI (min (ps.length + 1) 10) = _
    rw [take10_len]
  · rfl
  · have hlen : j < min (ps.length + 1) 10 := by rw [take10_len] at hj; exact hj
    have hoff : ∀ t, 1 ≤ t → tvt (bh_up2 (bh_up2 D1 0 13 (nI ((e + 1) % 10))) 0 14 (nI (min (ps.length + 1) 10))) t = tvt D1 t := fun t ht1 => tvt_off (fun j _ => by rw [bh_up2_ne _ _ _ (by omega), bh_up2_ne _ _ _ (by omega)])
    rw [hoff _ (by omega)]
    cases j with
    | zero =>
      have e1 : ((e + 1) % 10 + 9 - 0) % 10 = e := by omega
      rw [e1]
      exact c1.te
    | succ j =>
      have e1 : ((e + 1) % 10 + 9 - (j + 1)) % 10 = (e + 9 - j) % 10 := by omega
      have e2 : (e + 9 - j) % 10 ≠ e := by omega
      rw [e1, take10_get hj, tvt_off (D := D) (fun i hi => c1.2 _ (by omega))]
      exact hps j (by omega)
set_option maxRecDepth 20000 in
set_option maxHeartbeats 1000000 in
theorem w_X9_undo {D : Nat → Nat → Int32} {L : Nat → Nat → Int64} {Q : bh_Q} {ps : List TW} (hH : HC D ps) (k0 : ps = [] → Q (some (.int (-1))) (hp D L)) (k1 : ∀ T qs, ps = T :: qs → ∀ D', (∀ k, (14 ≤ k) → D' k = D k) → D' 0 15 = D 0 15 → TE T (tv D') → HC D' qs → Q (some (.int (nI (ps.length - 1)))) (hp D' L)) : bh_wc 3 m_X9_undo [.ref 0] (hp D L) Q := by
  refine x_start (lv0 := [_]) (Nat.le_of_ble_eq_true rfl) rfl ?_
  obtain ⟨hu0, hu, e, he0, he, hps⟩ := hH
  refine x_aload (pc' := 1) rfl rfl rfl ?_
  refine x_getI (j := 14) (pc' := 4) rfl rfl rfl (by decide) rfl (by decide) rfl rfl ?_
  refine x_top (hu) ?_
  refine y_if_ne (pc' := 7) rfl rfl (by omega) (fun c4 => ?_) (fun c4 => ?_)
  · have ht := (er ((e + 10 - 1) % 10) (Nat.mod_lt _ (by decide))).2
    have he2 : (bh_up2 (bh_up2 D 0 14 (nI (ps.length - 1))) 0 13 (nI ((e + 10 - 1) % 10))) 0 13 = nI ((e + 10 - 1) % 10) := rfl
    refine x_aload (pc' := 10) rfl rfl rfl ?_
    refine x_dup (pc' := 11) rfl rfl rfl ?_
    refine x_getI (j := 14) (pc' := 14) rfl rfl rfl (by decide) rfl (by decide) rfl rfl ?_
    refine x_top (hu) ?_
    refine x_int (pc' := 15) (v := nI 1) rfl rfl rfl ?_
    refine y_isub (pc' := 16) rfl rfl (by omega) ?_
    refine x_putI (j := 14) (pc' := 19) rfl rfl rfl (by decide) rfl (by decide) rfl rfl ?_
    refine x_aload (pc' := 20) rfl rfl rfl ?_
    refine x_aload (pc' := 21) rfl rfl rfl ?_
    refine x_getI (j := 13) (pc' := 24) rfl rfl rfl (by decide) rfl (by decide) rfl rfl ?_
    refine x_top (he) ?_
    refine x_int (pc' := 26) (v := nI 10) rfl rfl rfl ?_
    refine y_iadd (pc' := 27) rfl rfl ?_
    refine x_int (pc' := 28) (v := nI 1) rfl rfl rfl ?_
    refine y_isub (pc' := 29) rfl rfl (by omega) ?_
    refine x_int (pc' := 31) (v := nI 10) rfl rfl rfl ?_
    refine y_irem (pc' := 32) rfl rfl (by omega) (by omega) (by omega) ?_
    refine x_putI (j := 13) (pc' := 35) rfl rfl rfl (by decide) rfl (by decide) rfl rfl ?_
    refine x_aload (pc' := 36) rfl rfl rfl ?_
    refine x_getR (pc' := 39) rfl rfl rfl (by decide) rfl (by decide) rfl rfl ?_
    refine x_aload (pc' := 40) rfl rfl rfl ?_
    refine x_getR (pc' := 43) rfl rfl rfl (by decide) rfl (by decide) rfl rfl ?_
    refine x_aload (pc' := 44) rfl rfl rfl ?_
    refine x_getI (j := 13) (pc' := 47) rfl rfl rfl (by decide) rfl (by decide) rfl rfl ?_
    refine x_top (he2) ?_
    refine x_aald (pc' := 48) rfl rfl (by decide) rfl (by decide) (show _ < 10 from Nat.mod_lt _ (by decide)) (er _ (Nat.mod_lt _ (by decide))).1 ?_
    refine x_callV (pc' := 51) (d1 := 2) (Bs := [_]) rfl rfl rfl rfl rfl rfl rfl (Nat.le_of_ble_eq_true rfl) ⟨rfl, rfl⟩ (by decide) rfl (by decide) ?_
    refine w_X7_copyFrom (by decide) ht (by omega) (fun D1 c1 => ?_)
    have hu3 : D1 0 14 = nI (ps.length - 1) := by rw [c1.2 0 (by omega)]; rfl
    refine ⟨rfl, ?_⟩
    refine x_aload (pc' := 52) rfl rfl rfl ?_
    refine x_getI (j := 14) (pc' := 55) rfl rfl rfl (by decide) rfl (by decide) rfl rfl ?_
    refine x_top (hu3) ?_
    refine x_iret rfl rfl ?_
    obtain ⟨T, qs, rfl⟩ : ∃ T qs, ps = T :: qs := by
      cases ps with
      | nil => exact absurd rfl c4
      | cons T qs => exact ⟨T, qs, rfl⟩
    have hoff : ∀ t, 14 ≤ t → tvt D1 t = tvt D t := fun t ht1 => tvt_off (fun j _ => by rw [c1.2 _ (by omega), bh_up2_ne _ _ _ (by omega), bh_up2_ne _ _ _ (by omega)])
    have hoff0 : tvt (bh_up2 (bh_up2 D 0 14 (nI ((T :: qs).length - 1))) 0 13 (nI ((e + 10 - 1) % 10))) (49 + 13 * ((e + 10 - 1) % 10)) = tvt D (49 + 13 * ((e + 10 - 1) % 10)) := tvt_off (fun j _ => by rw [bh_up2_ne _ _ _ (by omega), bh_up2_ne _ _ _ (by omega)])
    refine k1 T qs rfl D1 (fun k hk => ?_) ?_ ?_ ⟨?_, ?_, (e + 10 - 1) % 10, Nat.mod_lt _ (by decide), ?_, fun j hj => ?_⟩
    · rw [c1.2 k (by omega), bh_up2_ne _ _ _ (by omega), bh_up2_ne _ _ _ (by omega)]
    · rw [c1.2 0 (by omega)]; rfl
    · have t1 := hps 0 (by simp)
      have t2 := c1.te
      rw [hoff0] at t2
      rw [show (e + 10 - 1) % 10 = (e + 9 - 0) % 10 by omega] at t2
      exact t1.tr t2
    · rw [List.length_cons] at hu0; omega
    · rw [hu3]; simp
    · rw [c1.2 0 (by omega)]; rfl
    · rw [hoff _ (by omega)]
      have hu9 : qs.length ≤ 9 := by simpa using hu0
      have e1 : ((e + 10 - 1) % 10 + 9 - j) % 10 = (e + 9 - (j + 1)) % 10 := by omega
      rw [e1]
      exact hps (j + 1) (by simp; omega)
  · refine x_int (pc' := 8) (v := (-1)) rfl rfl rfl ?_
    refine x_iret rfl rfl ?_
    exact k0 (List.length_eq_zero_iff.mp c4)
set_option maxRecDepth 20000 in
set_option maxHeartbeats 1000000 in
theorem w_X9_keep {D : Nat → Nat → Int32} {L : Nat → Nat → Int64} {Q : bh_Q} {sh : Nat → Option TW} {x : Int32} (hW : WF (tv D)) (hK : KC D sh) (k0 : ¬ okN 2 x → Q (some (.int (-1))) (hp D L)) (k1 : ∀ s, s < 2 → x = nI s → ∀ D', (∀ k, k ≠ 0 → (k < 179 ∨ 205 ≤ k) → D' k = D k) → D' 0 13 = D 0 13 → D' 0 14 = D 0 14 → KC D' (fun i => if i = s then some (tv D) else sh i) → Q (some (.int (nI (nw (tv D))))) (hp D' L)) : bh_wc 3 m_X9_keep [.ref 0, .int x] (hp D L) Q := by
  refine x_start (lv0 := [_, _]) (Nat.le_of_ble_eq_true rfl) rfl ?_
  obtain ⟨kp, hkp, hk, hks⟩ := hK
  refine x_iload (pc' := 1) rfl rfl rfl ?_
  refine x_callS (pc' := 4) (d1 := 1) (As := [_]) rfl rfl rfl rfl (by decide) rfl rfl (Nat.le_of_ble_eq_true rfl) ⟨rfl, rfl⟩ (by decide) ?_
  refine w_X9_isShelf (fun s hs e => ?_) (fun h1 => ?_)
  · subst e
    have ht := (sr s hs).2
    refine ⟨rfl, ?_⟩
    refine x_if_ne (pc' := 7) rfl rfl (fun _ => ?_) (fun c4 => absurd c4 (by decide))
    refine x_aload (pc' := 10) rfl rfl rfl ?_
    refine x_getR (pc' := 13) rfl rfl rfl (by decide) rfl (by decide) rfl rfl ?_
    refine x_iload (pc' := 14) rfl rfl rfl ?_
    refine x_aald (pc' := 15) rfl rfl (by decide) rfl (by decide) hs (sr s hs).1 ?_
    refine x_aload (pc' := 16) rfl rfl rfl ?_
    refine x_getR (pc' := 19) rfl rfl rfl (by decide) rfl (by decide) rfl rfl ?_
    refine x_callV (pc' := 22) (d1 := 2) (Bs := [_]) rfl rfl rfl rfl rfl rfl rfl (Nat.le_of_ble_eq_true rfl) ⟨rfl, rfl⟩ (tw_lt ht) (tw_tg ht) (by decide) ?_
    refine w_X7_copyFrom ht (by decide) (by omega) (fun D1 c1 => ?_)
    have hk1 : D1 0 15 = nI kp := by rw [c1.2 0 (by omega)]; exact hk
    have hw1 : D1 1 0 = nI (nw (tv D)) := by rw [c1.2 1 (by omega)]; exact hW.enw
    refine ⟨rfl, ?_⟩
    refine x_aload (pc' := 23) rfl rfl rfl ?_
    refine x_dup (pc' := 24) rfl rfl rfl ?_
    refine x_getI (j := 15) (pc' := 27) rfl rfl rfl (by decide) rfl (by decide) rfl rfl ?_
    refine x_top (hk1) ?_
    refine x_int (pc' := 28) (v := nI 1) rfl rfl rfl ?_
    refine x_iload (pc' := 29) rfl rfl rfl ?_
    refine y_ishl (pc' := 30) rfl rfl (by omega) ?_
    refine y_ior (pc' := 31) rfl rfl ?_
    refine x_putI (j := 15) (pc' := 34) rfl rfl rfl (by decide) rfl (by decide) rfl rfl ?_
    refine x_aload (pc' := 35) rfl rfl rfl ?_
    refine x_getR (pc' := 38) rfl rfl rfl (by decide) rfl (by decide) rfl rfl ?_
    refine x_getI (j := 0) (pc' := 41) rfl rfl rfl (by decide) rfl (by decide) rfl rfl ?_
    refine x_top (hw1) ?_
    refine x_iret rfl rfl ?_
    refine k1 s hs rfl _ (fun k hk0 hk => ?_) ?_ ?_ ⟨kp ||| (1 <<< s), ?_, rfl, fun s2 hs2 => ⟨?_, fun T hT => ?_⟩⟩
    · rw [bh_up2_ne _ _ _ hk0, c1.2 k (by omega)]
    · show D1 0 13 = _
      rw [c1.2 0 (by omega)]
    · show D1 0 14 = _
      rw [c1.2 0 (by omega)]
    · show _ < 2 ^ 2
      exact Nat.or_lt_two_pow hkp (by rw [Nat.one_shiftLeft]; exact Nat.pow_lt_pow_right (by decide) hs)
    · dsimp only
      rw [Nat.testBit_or, one_shl_bit]
      by_cases e : s2 = s
      · subst e; rw [if_pos rfl]; simp
      · have e2 : ¬ s = s2 := fun q => e q.symm
        rw [if_neg e, (hks s2 hs2).1]; simp [e2]
    · rw [tvt_off (D := D1) (fun j _ => bh_up2_ne _ _ _ (by omega))]
      dsimp only at hT
      by_cases e : s2 = s
      · subst e
        rw [if_pos rfl] at hT
        cases hT
        exact c1.te
      · rw [if_neg e] at hT
        rw [tvt_off (D := D) (fun j hj => c1.2 _ (by omega))]
        exact (hks s2 hs2).2 T hT
  · refine ⟨rfl, ?_⟩
    refine x_if_ne (pc' := 7) rfl rfl (fun c4 => absurd (by decide) c4) (fun _ => ?_)
    refine x_int (pc' := 8) (v := (-1)) rfl rfl rfl ?_
    refine x_iret rfl rfl ?_
    exact k0 h1
set_option maxRecDepth 20000 in
set_option maxHeartbeats 1000000 in
theorem w_X9_back {D : Nat → Nat → Int32} {L : Nat → Nat → Int64} {Q : bh_Q} {sh : Nat → Option TW} {x : Int32} (hK : KC D sh) (hG : ∀ s, s < 2 → ∀ T, sh s = some T → WF T) (k0 : ¬ okN 2 x → Q (some (.int (-1))) (hp D L)) (k2 : ∀ s, s < 2 → x = nI s → sh s = none → Q (some (.int (-2))) (hp D L)) (k1 : ∀ s, s < 2 → x = nI s → ∀ T, sh s = some T → ∀ D', (∀ k, k ≠ 0 → 14 ≤ k → D' k = D k) → D' 0 15 = D 0 15 → D' 0 14 = nI 0 → TE T (tv D') → Q (some (.int (nI (nw T)))) (hp D' L)) : bh_wc 3 m_X9_back [.ref 0, .int x] (hp D L) Q := by
  refine x_start (lv0 := [_, _]) (Nat.le_of_ble_eq_true rfl) rfl ?_
  obtain ⟨kp, hkp, hk, hks⟩ := hK
  refine x_iload (pc' := 1) rfl rfl rfl ?_
  refine x_callS (pc' := 4) (d1 := 1) (As := [_]) rfl rfl rfl rfl (by decide) rfl rfl (Nat.le_of_ble_eq_true rfl) ⟨rfl, rfl⟩ (by decide) ?_
  refine w_X9_isShelf (fun s hs e => ?_) (fun h1 => ?_)
  · subst e
    have ht := (sr s hs).2
    refine ⟨rfl, ?_⟩
    refine x_if_ne (pc' := 7) rfl rfl (fun _ => ?_) (fun c4 => absurd c4 (by decide))
    refine x_aload (pc' := 10) rfl rfl rfl ?_
    refine x_getI (j := 15) (pc' := 13) rfl rfl rfl (by decide) rfl (by decide) rfl rfl ?_
    refine x_top (hk) ?_
    refine x_iload (pc' := 14) rfl rfl rfl ?_
    refine y_ishr (pc' := 15) rfl rfl (by omega) (by omega) ?_
    refine x_int (pc' := 16) (v := nI 1) rfl rfl rfl ?_
    refine y_iand (pc' := 17) rfl rfl ?_
    refine y_if_ne (pc' := 20) rfl rfl (and1 _) (fun c17 => ?_) (fun c17 => ?_)
    · have hbs : (sh s).isSome = true := by rw [← (hks s hs).1, ← Bool.not_eq_false]; exact fun e => c17 (tb0.mpr e)
      obtain ⟨T, hT⟩ := Option.isSome_iff_exists.mp hbs
      refine x_aload (pc' := 24) rfl rfl rfl ?_
      refine x_getR (pc' := 27) rfl rfl rfl (by decide) rfl (by decide) rfl rfl ?_
      refine x_aload (pc' := 28) rfl rfl rfl ?_
      refine x_getR (pc' := 31) rfl rfl rfl (by decide) rfl (by decide) rfl rfl ?_
      refine x_iload (pc' := 32) rfl rfl rfl ?_
      refine x_aald (pc' := 33) rfl rfl (by decide) rfl (by decide) hs (sr s hs).1 ?_
      refine x_callV (pc' := 36) (d1 := 2) (Bs := [_]) rfl rfl rfl rfl rfl rfl rfl (Nat.le_of_ble_eq_true rfl) ⟨rfl, rfl⟩ (by decide) rfl (by decide) ?_
      refine w_X7_copyFrom (by decide) ht (by omega) (fun D1 c1 => ?_)
      refine ⟨rfl, ?_⟩
      have hte : TE T (tv D1) := ((hks s hs).2 T hT).tr c1.te
      have hw1 : (bh_up2 D1 0 14 (nI 0)) 1 0 = nI (nw T) := (hte 0 (by decide) 0 (by decide)).trans (hG s hs T hT).enw
      refine x_aload (pc' := 37) rfl rfl rfl ?_
      refine x_int (pc' := 38) (v := nI 0) rfl rfl rfl ?_
      refine x_putI (j := 14) (pc' := 41) rfl rfl rfl (by decide) rfl (by decide) rfl rfl ?_
      refine x_aload (pc' := 42) rfl rfl rfl ?_
      refine x_getR (pc' := 45) rfl rfl rfl (by decide) rfl (by decide) rfl rfl ?_
      refine x_getI (j := 0) (pc' := 48) rfl rfl rfl (by decide) rfl (by decide) rfl rfl ?_
      refine x_top (hw1) ?_
      refine x_iret rfl rfl ?_
      refine k1 s hs rfl T hT _ (fun k hk0 hk => ?_) ?_ ?_ (by rw [show tv (bh_up2 D1 0 14 (nI 0)) = tv D1 from tvt_off (t := 1) (fun j _ => bh_up2_ne _ _ _ (by omega))]; exact hte)
      · rw [bh_up2_ne _ _ _ hk0, c1.2 k (by omega)]
      · show D1 0 15 = _
        rw [c1.2 0 (by omega)]
      · rfl
    · refine x_int (pc' := 22) (v := (-2)) rfl rfl rfl ?_
      refine x_iret rfl rfl ?_
      refine k2 s hs rfl ?_
      have := (hks s hs).1
      rw [tb0.mp c17] at this
      cases h : sh s with
      | none => rfl
      | some T => rw [h] at this; cases this
  · refine ⟨rfl, ?_⟩
    refine x_if_ne (pc' := 7) rfl rfl (fun c4 => absurd (by decide) c4) (fun _ => ?_)
    refine x_int (pc' := 8) (v := (-1)) rfl rfl rfl ?_
    refine x_iret rfl rfl ?_
    exact k0 h1
end
section
/-! ===== what was, what is kept: the reference ===== -/
def HM (D : Nat → Nat → Int32) (ps : List TW) : Prop := ps.length ≤ 10 ∧ D 205 5 = nI ps.length ∧ ∀ j, j < ps.length → Rn (ps.getD j tz) (fun k => D 208 (560 * (ps.length - 1 - j) + k))
def b01 (b : Bool) : Nat := match b with
  | true => 1
  | false => 0
theorem b01_le (b : Bool) : b01 b ≤ 1 := by cases b <;> decide
def KM (D : Nat → Nat → Int32) (sh : Nat → Option TW) : Prop := ∀ s, s < 2 → D 210 s = nI (b01 (sh s).isSome) ∧ ∀ T, sh s = some T → Rn T (fun k => D 209 (560 * s + k))
def GP (ps : List TW) : Prop := ∀ j, j < ps.length → WF (ps.getD j tz)
def GS (sh : Nat → Option TW) : Prop := ∀ s, s < 2 → ∀ T, sh s = some T → WF T
/-- 560 places of one row come into another -/
def Mv (D D' : Nat → Nat → Int32) (x a y b : Nat) : Prop := (∀ j, j < 560 → D' y (b + j) = D x (a + j)) ∧ (∀ j, (j < b ∨ b + 560 ≤ j) → D' y j = D y j) ∧ ∀ k, k ≠ y → D' k = D k
set_option maxRecDepth 20000 in
theorem l_X10_moves {D : Nat → Nat → Int32} {L : Nat → Nat → Int64} {Q : bh_Q} {x a y b d : Nat} (hx : x < 228) (hy : y < 228) (tx : bh_tg x = 20) (ty : bh_tg y = 20) (lx : a + 560 ≤ bh_ln x) (ly : b + 560 ≤ bh_ln y) (mx : bh_ln x ≤ 10000) (my : bh_ln y ≤ 10000) (hne : x ≠ y) : ∀ (n i : Nat) (D1 : Nat → Nat → Int32), i + n = 560 → (∀ j, j < i → D1 y (b + j) = D x (a + j)) → (∀ j, (j < b ∨ b + i ≤ j) → D1 y j = D y j) → (∀ k, k ≠ y → D1 k = D k) → (∀ D', Mv D D' x a y b → Q none (hp D' L)) → bw m_X10_moves d Q 3 [.ref x, .int (nI a), .ref y, .int (nI b), .int (nI i)] [] D1 L := by
  intro n
  induction n with
  | zero =>
    intro i D1 hi g1 g2 g3 k1
    refine x_iload (pc' := 5) rfl rfl rfl ?_
    refine x_int (pc' := 8) (v := nI 560) rfl rfl rfl ?_
    refine y_ic_ge (pc' := 11) rfl rfl (by omega) (by omega) (fun c8 => ?_) (fun c8 => ?_)
    · refine x_vret rfl rfl ?_
      refine k1 D1 ⟨fun j hj => g1 j (by omega), fun j hj => g2 j (by omega), g3⟩
    · exact absurd c8 (by omega)
  | succ n ih =>
    intro i D1 hi g1 g2 g3 k1
    refine x_iload (pc' := 5) rfl rfl rfl ?_
    refine x_int (pc' := 8) (v := nI 560) rfl rfl rfl ?_
    refine y_ic_ge (pc' := 11) rfl rfl (by omega) (by omega) (fun c8 => ?_) (fun c8 => ?_)
    · exact absurd c8 (by omega)
    · refine x_aload (pc' := 12) rfl rfl rfl ?_
      refine x_iload (pc' := 13) rfl rfl rfl ?_
      refine x_iload (pc' := 15) rfl rfl rfl ?_
      refine y_iadd (pc' := 16) rfl rfl ?_
      refine x_aload (pc' := 17) rfl rfl rfl ?_
      refine x_iload (pc' := 18) rfl rfl rfl ?_
      refine x_iload (pc' := 20) rfl rfl rfl ?_
      refine y_iadd (pc' := 21) rfl rfl ?_
      refine x_iald (pc' := 22) rfl rfl hx tx (by omega) (by omega) ?_
      refine x_iast (pc' := 23) rfl rfl hy ty (by omega) (by omega) ?_
      refine y_inc (pc' := 26) (lv' := [_, _, _, _, _]) rfl rfl rfl (by decide) rfl ?_
      refine x_goto rfl ?_
      refine ih (i + 1) _ (by omega) (fun j hj => ?_) (fun j hj => ?_) (fun k hk => ?_) k1
      · rw [bh_up2_k]
        dsimp only
        by_cases e : j = i
        · rw [if_pos (by omega), g3 x hne, e]
        · rw [if_neg (by omega)]; exact g1 j (by omega)
      · rw [bh_up2_k]
        dsimp only
        rw [if_neg (by omega)]
        exact g2 j (by omega)
      · rw [bh_up2_ne _ _ _ hk]
        exact g3 k hk
set_option maxRecDepth 20000 in
set_option maxHeartbeats 1000000 in
theorem w_X10_moves {D : Nat → Nat → Int32} {L : Nat → Nat → Int64} {Q : bh_Q} {x a y b : Nat} (hx : x < 228) (hy : y < 228) (tx : bh_tg x = 20) (ty : bh_tg y = 20) (lx : a + 560 ≤ bh_ln x) (ly : b + 560 ≤ bh_ln y) (mx : bh_ln x ≤ 10000) (my : bh_ln y ≤ 10000) (hne : x ≠ y) (k1 : ∀ D', Mv D D' x a y b → Q none (hp D' L)) : bh_wc 1 m_X10_moves [.ref x, .int (nI a), .ref y, .int (nI b)] (hp D L) Q := by
  refine x_start (lv0 := [_, _, _, _, _]) (Nat.le_of_ble_eq_true rfl) rfl ?_
  refine x_int (pc' := 1) (v := nI 0) rfl rfl rfl ?_
  refine x_istore (pc' := 3) (lv' := [_, _, _, _, _]) rfl rfl (by decide) rfl ?_
  exact l_X10_moves hx hy tx ty lx ly mx my hne 560 0 D rfl (fun j hj => absurd hj (Nat.not_lt_zero j)) (fun _ _ => rfl) (fun _ _ => rfl) k1
set_option maxRecDepth 20000 in
theorem l_X10_keepsPast {D : Nat → Nat → Int32} {L : Nat → Nat → Int64} {Q : bh_Q} {d : Nat} : ∀ (n i : Nat) (D1 : Nat → Nat → Int32), i + n = 5040 → (∀ j, j < i → D1 208 j = D 208 (560 + j)) → (∀ j, i ≤ j → D1 208 j = D 208 j) → (∀ k, k ≠ 208 → D1 k = D k) → (∀ D', ((∀ j, j < 5040 → D' 208 j = D 208 (560 + j)) ∧ ∀ k, k ≠ 208 → D' k = D k) → bw m_X10_keepsPast d Q 42 [.ref 205, .int (nI (560 + 5040))] [] D' L) → bw m_X10_keepsPast d Q 13 [.ref 205, .int (nI (560 + i))] [] D1 L := by
  intro n
  induction n with
  | zero =>
    intro i D1 hi g1 g2 g3 k1
    have e : i = 5040 := by omega
    subst e
    refine x_iload (pc' := 14) rfl rfl rfl ?_
    refine x_int (pc' := 17) (v := nI 5600) rfl rfl rfl ?_
    refine y_ic_ge (pc' := 20) rfl rfl (by omega) (by omega) (fun c17 => ?_) (fun c17 => ?_)
    · refine k1 D1 ⟨fun j hj => g1 j (by omega), g3⟩
    · exact absurd c17 (by omega)
  | succ n ih =>
    intro i D1 hi g1 g2 g3 k1
    refine x_iload (pc' := 14) rfl rfl rfl ?_
    refine x_int (pc' := 17) (v := nI 5600) rfl rfl rfl ?_
    refine y_ic_ge (pc' := 20) rfl rfl (by omega) (by omega) (fun c17 => ?_) (fun c17 => ?_)
    · exact absurd c17 (by omega)
    · refine x_aload (pc' := 21) rfl rfl rfl ?_
      refine x_getR (pc' := 24) rfl rfl rfl (by decide) rfl (by decide) rfl rfl ?_
      refine x_iload (pc' := 25) rfl rfl rfl ?_
      refine x_int (pc' := 28) (v := nI 560) rfl rfl rfl ?_
      refine y_isub (pc' := 29) rfl rfl (by omega) ?_
      refine x_aload (pc' := 30) rfl rfl rfl ?_
      refine x_getR (pc' := 33) rfl rfl rfl (by decide) rfl (by decide) rfl rfl ?_
      refine x_iload (pc' := 34) rfl rfl rfl ?_
      refine x_iald (pc' := 35) rfl rfl (by decide) rfl (by decide) (show _ < 5600 by omega) ?_
      refine x_iast (pc' := 36) rfl rfl (by decide) rfl (by decide) (show _ < 5600 by omega) ?_
      refine y_inc (pc' := 39) (lv' := [_, _]) rfl rfl rfl (by decide) rfl ?_
      refine x_goto rfl ?_
      refine ih (i + 1) _ (by omega) (fun j hj => ?_) (fun j hj => ?_) (fun k hk => ?_) k1
      · rw [bh_up2_k]
        dsimp only
        by_cases e : j = i
        · rw [if_pos (by omega), g2 _ (by omega), e]
        · rw [if_neg (by omega)]; exact g1 j (by omega)
      · rw [bh_up2_k]
        dsimp only
        rw [if_neg (by omega)]
        exact g2 j (by omega)
      · rw [bh_up2_ne _ _ _ hk]
        exact g3 k hk
set_option maxRecDepth 20000 in
theorem l2_X10_keepsPast {D : Nat → Nat → Int32} {L : Nat → Nat → Int64} {Q : bh_Q} {u : Nat} {x : Value} (hu0 : u < 10) (hu : D 205 5 = nI u) (k1 : ∀ D2, Mv D D2 206 0 208 (560 * u) → Q none (hp (bh_up2 D2 205 5 (nI (u + 1))) L)) : bw m_X10_keepsPast 1 Q 52 [.ref 205, x] [] D L := by
  refine x_aload (pc' := 53) rfl rfl rfl ?_
  refine x_getR (pc' := 56) rfl rfl rfl (by decide) rfl (by decide) rfl rfl ?_
  refine x_int (pc' := 57) (v := nI 0) rfl rfl rfl ?_
  refine x_aload (pc' := 58) rfl rfl rfl ?_
  refine x_getR (pc' := 61) rfl rfl rfl (by decide) rfl (by decide) rfl rfl ?_
  refine x_int (pc' := 64) (v := nI 560) rfl rfl rfl ?_
  refine x_aload (pc' := 65) rfl rfl rfl ?_
  refine x_getI (j := 5) (pc' := 68) rfl rfl rfl (by decide) rfl (by decide) rfl rfl ?_
  refine x_top (hu) ?_
  refine y_imul (pc' := 69) rfl rfl ?_
  refine x_callS (pc' := 72) (d1 := 1) (As := [_, _, _, _]) rfl rfl rfl rfl (by decide) rfl rfl (Nat.le_of_ble_eq_true rfl) ⟨rfl, rfl⟩ (by decide) ?_
  refine w_X10_moves (by decide) (by decide) rfl rfl (by decide) (show 560 * u + 560 ≤ 5600 by omega) (by decide) (by decide) (by decide) (fun D2 v2 => ?_)
  have hu2 : D2 205 5 = nI u := by rw [v2.2.2 205 (by decide)]; exact hu
  refine ⟨rfl, ?_⟩
  refine x_aload (pc' := 73) rfl rfl rfl ?_
  refine x_dup (pc' := 74) rfl rfl rfl ?_
  refine x_getI (j := 5) (pc' := 77) rfl rfl rfl (by decide) rfl (by decide) rfl rfl ?_
  refine x_top (hu2) ?_
  refine x_int (pc' := 78) (v := nI 1) rfl rfl rfl ?_
  refine y_iadd (pc' := 79) rfl rfl ?_
  refine x_putI (j := 5) (pc' := 82) rfl rfl rfl (by decide) rfl (by decide) rfl rfl ?_
  refine x_vret rfl rfl ?_
  exact k1 D2 v2
set_option maxRecDepth 20000 in
set_option maxHeartbeats 1000000 in
theorem w_X10_keepsPast {D : Nat → Nat → Int32} {L : Nat → Nat → Int64} {Q : bh_Q} {T : TW} (hW : WF T) (hR : Rn T (D 206)) {ps : List TW} (hH : HM D ps) (hG : GP ps) (k1 : ∀ D', OffL [205, 208] D D' → (∀ j, j ≠ 5 → D' 205 j = D 205 j) → HM D' ((T :: ps).take 10) → Q none (hp D' L)) : bh_wc 2 m_X10_keepsPast [.ref 205] (hp D L) Q := by
  refine x_start (lv0 := [_, _]) (Nat.le_of_ble_eq_true rfl) rfl ?_
  obtain ⟨hu0, hu, hps⟩ := hH
  have fin2 : ¬ ps.length = 10 → ∀ D2, Mv D D2 206 0 208 (560 * ps.length) → Q none (hp (bh_up2 D2 205 5 (nI (ps.length + 1))) L) := by
    intro h10 D2 v2
    have hl : ((T :: ps).take 10).length = ps.length + 1 := by rw [take10_len, Nat.min_eq_left (by omega)]
    refine k1 _ (fun k hk => ?_) (fun j hj => ?_) ⟨by omega, by rw [hl]; rfl, fun j hj => ?_⟩
    · rw [bh_up2_ne _ _ _ (fun e => hk (by rw [e]; decide)), v2.2.2 k (fun e => hk (by rw [e]; decide))]
    · rw [bh_up2_k]
      dsimp only
      rw [if_neg hj, v2.2.2 205 (by decide)]
    · rw [hl] at hj ⊢
      show Rn _ (fun k => D2 208 _)
      cases j with
      | zero =>
        refine rn_row hW (fun k hk => ?_) hR
        show D2 208 (560 * (ps.length + 1 - 1 - 0) + k) = D 206 k
        rw [show 560 * (ps.length + 1 - 1 - 0) + k = 560 * ps.length + k by omega, v2.1 k hk, Nat.zero_add]
      | succ j =>
        rw [take10_get (by omega)]
        refine rn_row (hG j (by omega)) (fun k hk => ?_) (hps j (by omega))
        show D2 208 (560 * (ps.length + 1 - 1 - (j + 1)) + k) = D 208 (560 * (ps.length - 1 - j) + k)
        rw [show ps.length + 1 - 1 - (j + 1) = ps.length - 1 - j by omega, v2.2.1 _ (by omega)]
  have fin1 : ∀ D1, ((∀ j, j < 5040 → D1 208 j = D 208 (560 + j)) ∧ ∀ k, k ≠ 208 → D1 k = D k) → ps.length = 10 → ∀ D2, Mv (bh_up2 D1 205 5 (nI 9)) D2 206 0 208 (560 * 9) → Q none (hp (bh_up2 D2 205 5 (nI (9 + 1))) L) := by
    intro D1 s1 h10 D2 v2
    have hl : ((T :: ps).take 10).length = 10 := by rw [take10_len, h10]; decide
    refine k1 _ (fun k hk => ?_) (fun j hj => ?_) ⟨by omega, by rw [hl]; rfl, fun j hj => ?_⟩
    · have a1 : k ≠ 205 := fun e => hk (by rw [e]; decide)
      have a2 : k ≠ 208 := fun e => hk (by rw [e]; decide)
      rw [bh_up2_ne _ _ _ a1, v2.2.2 k a2, bh_up2_ne _ _ _ a1, s1.2 k a2]
    · rw [bh_up2_k]
      dsimp only
      rw [if_neg hj, v2.2.2 205 (by decide), bh_up2_k]
      dsimp only
      rw [if_neg hj, s1.2 205 (by decide)]
    · rw [hl] at hj ⊢
      show Rn _ (fun k => D2 208 _)
      cases j with
      | zero =>
        refine rn_row hW (fun k hk => ?_) hR
        show D2 208 (560 * (10 - 1 - 0) + k) = D 206 k
        rw [show 560 * (10 - 1 - 0) + k = 560 * 9 + k by omega, v2.1 k hk, Nat.zero_add]
        show D1 206 k = _
        rw [s1.2 206 (by decide)]
      | succ j =>
        rw [take10_get (by omega)]
        refine rn_row (hG j (by omega)) (fun k hk => ?_) (hps j (by omega))
        show D2 208 (560 * (10 - 1 - (j + 1)) + k) = D 208 (560 * (ps.length - 1 - j) + k)
        rw [v2.2.1 _ (by omega)]
        show D1 208 _ = _
        rw [s1.1 _ (by omega), h10]
        congr 1
        omega
  refine x_aload (pc' := 1) rfl rfl rfl ?_
  refine x_getI (j := 5) (pc' := 4) rfl rfl rfl (by decide) rfl (by decide) rfl rfl ?_
  refine x_top (hu) ?_
  refine x_int (pc' := 6) (v := nI 10) rfl rfl rfl ?_
  refine y_ic_ne (pc' := 9) rfl rfl (by omega) (by omega) (fun c6 => ?_) (fun c6 => ?_)
  · refine l2_X10_keepsPast (u := ps.length) (by omega) hu (fun D2 v2 => ?_)
    exact fin2 c6 D2 v2
  · refine x_int (pc' := 12) (v := nI 560) rfl rfl rfl ?_
    refine x_istore (pc' := 13) (lv' := [_, _]) rfl rfl (by decide) rfl ?_
    refine l_X10_keepsPast 5040 0 D rfl (fun j hj => absurd hj (Nat.not_lt_zero j)) (fun _ _ => rfl) (fun _ _ => rfl) (fun D1 s1 => ?_)
    have hu1 : D1 205 5 = nI 10 := by rw [s1.2 205 (by decide), hu, c6]
    refine x_aload (pc' := 43) rfl rfl rfl ?_
    refine x_dup (pc' := 44) rfl rfl rfl ?_
    refine x_getI (j := 5) (pc' := 47) rfl rfl rfl (by decide) rfl (by decide) rfl rfl ?_
    refine x_top (hu1) ?_
    refine x_int (pc' := 48) (v := nI 1) rfl rfl rfl ?_
    refine y_isub (pc' := 49) rfl rfl (by omega) ?_
    refine x_putI (j := 5) (pc' := 52) rfl rfl rfl (by decide) rfl (by decide) rfl rfl ?_
    refine l2_X10_keepsPast (u := 9) (D := bh_up2 D1 205 5 (nI 9)) (by decide) rfl (fun D2 v2 => ?_)
    exact fin1 D1 s1 c6 D2 v2
end
section
/-! ===== the reference: undo, keep, back ===== -/
theorem okN_in1 {x : Int32} (h : ¬ (nI 0 ≤ x ∧ x ≤ nI 1)) : ¬ okN 2 x := okN_inL (n := 1) (by decide) h
theorem in1_okN {x : Int32} (h1 : nI 0 ≤ x) (h2 : x ≤ nI 1) : ∃ j : Nat, j < 2 ∧ x = nI j := in_okL (n := 1) (by decide) h1 h2
set_option maxRecDepth 20000 in
set_option maxHeartbeats 1000000 in
theorem w_X10_undo {D : Nat → Nat → Int32} {L : Nat → Nat → Int64} {Q : bh_Q} {ps : List TW} (hH : HM D ps) (hG : GP ps) (k0 : ps = [] → Q (some (.int (-1))) (hp D L)) (k1 : ∀ T qs, ps = T :: qs → ∀ D', OffL [205, 206] D D' → (∀ j, j ≠ 5 → D' 205 j = D 205 j) → Rn T (D' 206) → HM D' qs → Q (some (.int (nI (ps.length - 1)))) (hp D' L)) : bh_wc 2 m_X10_undo [.ref 205] (hp D L) Q := by
  refine x_start (lv0 := [_]) (Nat.le_of_ble_eq_true rfl) rfl ?_
  obtain ⟨hu0, hu, hps⟩ := hH
  refine x_aload (pc' := 1) rfl rfl rfl ?_
  refine x_getI (j := 5) (pc' := 4) rfl rfl rfl (by decide) rfl (by decide) rfl rfl ?_
  refine x_top (hu) ?_
  refine y_if_ne (pc' := 7) rfl rfl (by omega) (fun c4 => ?_) (fun c4 => ?_)
  · have hu1 : (bh_up2 D 205 5 (nI (ps.length - 1))) 205 5 = nI (ps.length - 1) := rfl
    refine x_aload (pc' := 10) rfl rfl rfl ?_
    refine x_dup (pc' := 11) rfl rfl rfl ?_
    refine x_getI (j := 5) (pc' := 14) rfl rfl rfl (by decide) rfl (by decide) rfl rfl ?_
    refine x_top (hu) ?_
    refine x_int (pc' := 15) (v := nI 1) rfl rfl rfl ?_
    refine y_isub (pc' := 16) rfl rfl (by omega) ?_
    refine x_putI (j := 5) (pc' := 19) rfl rfl rfl (by decide) rfl (by decide) rfl rfl ?_
    refine x_aload (pc' := 20) rfl rfl rfl ?_
    refine x_getR (pc' := 23) rfl rfl rfl (by decide) rfl (by decide) rfl rfl ?_
    refine x_int (pc' := 26) (v := nI 560) rfl rfl rfl ?_
    refine x_aload (pc' := 27) rfl rfl rfl ?_
    refine x_getI (j := 5) (pc' := 30) rfl rfl rfl (by decide) rfl (by decide) rfl rfl ?_
    refine x_top (hu1) ?_
    refine y_imul (pc' := 31) rfl rfl ?_
    refine x_aload (pc' := 32) rfl rfl rfl ?_
    refine x_getR (pc' := 35) rfl rfl rfl (by decide) rfl (by decide) rfl rfl ?_
    refine x_int (pc' := 36) (v := nI 0) rfl rfl rfl ?_
    refine x_callS (pc' := 39) (d1 := 1) (As := [_, _, _, _]) rfl rfl rfl rfl (by decide) rfl rfl (Nat.le_of_ble_eq_true rfl) ⟨rfl, rfl⟩ (by decide) ?_
    refine w_X10_moves (by decide) (by decide) rfl rfl (show 560 * (ps.length - 1) + 560 ≤ 5600 by omega) (by decide) (by decide) (by decide) (by decide) (fun D2 v2 => ?_)
    have hu2 : D2 205 5 = nI (ps.length - 1) := by rw [v2.2.2 205 (by decide)]; exact hu1
    refine ⟨rfl, ?_⟩
    refine x_aload (pc' := 40) rfl rfl rfl ?_
    refine x_getI (j := 5) (pc' := 43) rfl rfl rfl (by decide) rfl (by decide) rfl rfl ?_
    refine x_top (hu2) ?_
    refine x_iret rfl rfl ?_
    obtain ⟨T, qs, rfl⟩ : ∃ T qs, ps = T :: qs := by
      cases ps with
      | nil => exact absurd rfl c4
      | cons T qs => exact ⟨T, qs, rfl⟩
    have hl : (T :: qs).length = qs.length + 1 := List.length_cons
    refine k1 T qs rfl D2 (fun k hk => ?_) (fun j hj => ?_) ?_ ⟨by omega, by rw [hu2, hl]; rfl, fun j hj => ?_⟩
    · have a1 : k ≠ 205 := fun e => hk (by rw [e]; decide)
      have a2 : k ≠ 206 := fun e => hk (by rw [e]; decide)
      rw [v2.2.2 k a2, bh_up2_ne _ _ _ a1]
    · rw [v2.2.2 205 (by decide), bh_up2_k]
      dsimp only
      rw [if_neg hj]
    · refine rn_row (hG 0 (by omega)) (fun k hk => ?_) (hps 0 (by omega))
      have := v2.1 k hk
      rw [Nat.zero_add] at this
      rw [this]
      show D 208 _ = D 208 (560 * ((T :: qs).length - 1 - 0) + k)
      rw [Nat.sub_zero]
    · have r1 := hps (j + 1) (by omega)
      have e1 : (fun k => D2 208 (560 * (qs.length - 1 - j) + k)) = fun k => D 208 (560 * ((T :: qs).length - 1 - (j + 1)) + k) := by
        funext k
        rw [v2.2.2 208 (by decide), hl, show qs.length + 1 - 1 - (j + 1) = qs.length - 1 - j by omega]
        rfl
      rw [e1]
      exact r1
  · refine x_int (pc' := 8) (v := (-1)) rfl rfl rfl ?_
    refine x_iret rfl rfl ?_
    exact k0 (List.length_eq_zero_iff.mp c4)
set_option maxRecDepth 20000 in
set_option maxHeartbeats 1000000 in
theorem w_X10_keep {D : Nat → Nat → Int32} {L : Nat → Nat → Int64} {Q : bh_Q} {T : TW} (hW : WF T) (hR : Rn T (D 206)) {sh : Nat → Option TW} {x : Int32} (hK : KM D sh) (hG : GS sh) (k0 : ¬ okN 2 x → Q (some (.int (-1))) (hp D L)) (k1 : ∀ s, s < 2 → x = nI s → ∀ D', OffL [209, 210] D D' → KM D' (fun i => if i = s then some T else sh i) → Q (some (.int (nI (nw T)))) (hp D' L)) : bh_wc 2 m_X10_keep [.ref 205, .int x] (hp D L) Q := by
  refine x_start (lv0 := [_, _]) (Nat.le_of_ble_eq_true rfl) rfl ?_
  refine x_iload (pc' := 1) rfl rfl rfl ?_
  refine x_i2l (pc' := 2) rfl rfl ?_
  refine x_long (pc' := 3) (v := (nI 0).toInt64) rfl rfl (by decide) ?_
  refine x_long (pc' := 4) (v := (nI 1).toInt64) rfl rfl (by decide) ?_
  refine x_callS (pc' := 7) (d1 := 1) (As := [_, _, _]) rfl rfl rfl rfl (by decide) rfl rfl (Nat.le_of_ble_eq_true rfl) ⟨rfl, rfl⟩ (by decide) ?_
  refine w_X10_in (fun h4a h4b => ?_) (fun h4 => ?_)
  · obtain ⟨s, hs, e⟩ := in1_okN h4a h4b
    subst e
    refine ⟨rfl, ?_⟩
    refine x_if_ne (pc' := 10) rfl rfl (fun _ => ?_) (fun c7 => absurd c7 (by decide))
    refine x_aload (pc' := 13) rfl rfl rfl ?_
    refine x_getR (pc' := 16) rfl rfl rfl (by decide) rfl (by decide) rfl rfl ?_
    refine x_int (pc' := 17) (v := nI 0) rfl rfl rfl ?_
    refine x_aload (pc' := 18) rfl rfl rfl ?_
    refine x_getR (pc' := 21) rfl rfl rfl (by decide) rfl (by decide) rfl rfl ?_
    refine x_int (pc' := 24) (v := nI 560) rfl rfl rfl ?_
    refine x_iload (pc' := 25) rfl rfl rfl ?_
    refine y_imul (pc' := 26) rfl rfl ?_
    refine x_callS (pc' := 29) (d1 := 1) (As := [_, _, _, _]) rfl rfl rfl rfl (by decide) rfl rfl (Nat.le_of_ble_eq_true rfl) ⟨rfl, rfl⟩ (by decide) ?_
    refine w_X10_moves (by decide) (by decide) rfl rfl (by decide) (show 560 * s + 560 ≤ 1120 by omega) (by decide) (by decide) (by decide) (fun D2 v2 => ?_)
    have hw2 : D2 206 0 = nI (nw T) := by rw [v2.2.2 206 (by decide)]; exact hR.1.1.trans hW.enw
    refine ⟨rfl, ?_⟩
    refine x_aload (pc' := 30) rfl rfl rfl ?_
    refine x_getR (pc' := 33) rfl rfl rfl (by decide) rfl (by decide) rfl rfl ?_
    refine x_iload (pc' := 34) rfl rfl rfl ?_
    refine x_int (pc' := 35) (v := nI 1) rfl rfl rfl ?_
    refine x_zast (pc' := 36) rfl rfl (by decide) rfl (by decide) (show _ < 2 by omega) ?_
    refine x_aload (pc' := 37) rfl rfl rfl ?_
    refine x_getR (pc' := 40) rfl rfl rfl (by decide) rfl (by decide) rfl rfl ?_
    refine x_int (pc' := 41) (v := nI 0) rfl rfl rfl ?_
    refine x_iald (pc' := 42) rfl rfl (by decide) rfl (by decide) (show _ < 560 by omega) ?_
    refine x_top (hw2) ?_
    refine x_iret rfl rfl ?_
    refine k1 s hs rfl _ (fun k hk => ?_) ?_
    · have a1 : k ≠ 209 := fun e => hk (by rw [e]; decide)
      have a2 : k ≠ 210 := fun e => hk (by rw [e]; decide)
      rw [bh_up2_ne _ _ _ a2, v2.2.2 k a1]
    · intro s2 hs2
      dsimp only
      by_cases e : s2 = s
      · subst e
        rw [if_pos rfl]
        refine ⟨by rw [bh_up2_self]; show vp_nar .boolean (nI 1) = nI 1; decide, fun T2 hT2 => ?_⟩
        cases hT2
        exact rn_row hW (fun k hk => by have := v2.1 k hk; rw [Nat.zero_add] at this; exact this) hR
      · rw [if_neg e]
        refine ⟨?_, fun T2 hT2 => ?_⟩
        · rw [bh_up2_k]
          dsimp only
          rw [if_neg e, v2.2.2 210 (by decide)]
          exact (hK s2 hs2).1
        · refine rn_row (hG s2 hs2 T2 hT2) (fun k hk => ?_) ((hK s2 hs2).2 T2 hT2)
          exact v2.2.1 _ (by omega)
  · refine ⟨rfl, ?_⟩
    refine x_if_ne (pc' := 10) rfl rfl (fun c7 => absurd (by decide) c7) (fun _ => ?_)
    refine x_int (pc' := 11) (v := (-1)) rfl rfl rfl ?_
    refine x_iret rfl rfl ?_
    exact k0 (okN_in1 h4)
set_option maxRecDepth 20000 in
set_option maxHeartbeats 1000000 in
theorem w_X10_back {D : Nat → Nat → Int32} {L : Nat → Nat → Int64} {Q : bh_Q} {sh : Nat → Option TW} {x : Int32} (hK : KM D sh) (hG : GS sh) (k0 : ¬ okN 2 x → Q (some (.int (-1))) (hp D L)) (k2 : ∀ s, s < 2 → x = nI s → sh s = none → Q (some (.int (-2))) (hp D L)) (k1 : ∀ s, s < 2 → x = nI s → ∀ T, sh s = some T → ∀ D', OffL [205, 206] D D' → (∀ j, j ≠ 5 → D' 205 j = D 205 j) → D' 205 5 = nI 0 → Rn T (D' 206) → Q (some (.int (nI (nw T)))) (hp D' L)) : bh_wc 2 m_X10_back [.ref 205, .int x] (hp D L) Q := by
  refine x_start (lv0 := [_, _]) (Nat.le_of_ble_eq_true rfl) rfl ?_
  refine x_iload (pc' := 1) rfl rfl rfl ?_
  refine x_i2l (pc' := 2) rfl rfl ?_
  refine x_long (pc' := 3) (v := (nI 0).toInt64) rfl rfl (by decide) ?_
  refine x_long (pc' := 4) (v := (nI 1).toInt64) rfl rfl (by decide) ?_
  refine x_callS (pc' := 7) (d1 := 1) (As := [_, _, _]) rfl rfl rfl rfl (by decide) rfl rfl (Nat.le_of_ble_eq_true rfl) ⟨rfl, rfl⟩ (by decide) ?_
  refine w_X10_in (fun h4a h4b => ?_) (fun h4 => ?_)
  · obtain ⟨s, hs, e⟩ := in1_okN h4a h4b
    subst e
    refine ⟨rfl, ?_⟩
    refine x_if_ne (pc' := 10) rfl rfl (fun _ => ?_) (fun c7 => absurd c7 (by decide))
    refine x_aload (pc' := 13) rfl rfl rfl ?_
    refine x_getR (pc' := 16) rfl rfl rfl (by decide) rfl (by decide) rfl rfl ?_
    refine x_iload (pc' := 17) rfl rfl rfl ?_
    refine x_bald (pc' := 18) rfl rfl (by decide) (Or.inr rfl) (by decide) (show _ < 2 by omega) ?_
    refine x_top ((hK s hs).1) ?_
    refine y_if_ne (pc' := 21) rfl rfl (by first | omega | (have := b01_le (sh s).isSome; omega)) (fun c18 => ?_) (fun c18 => ?_)
    · obtain ⟨T, hT⟩ : ∃ T, sh s = some T := by
        cases h : sh s with
        | none => rw [h] at c18; exact absurd rfl c18
        | some T => exact ⟨T, rfl⟩
      refine x_aload (pc' := 25) rfl rfl rfl ?_
      refine x_getR (pc' := 28) rfl rfl rfl (by decide) rfl (by decide) rfl rfl ?_
      refine x_int (pc' := 31) (v := nI 560) rfl rfl rfl ?_
      refine x_iload (pc' := 32) rfl rfl rfl ?_
      refine y_imul (pc' := 33) rfl rfl ?_
      refine x_aload (pc' := 34) rfl rfl rfl ?_
      refine x_getR (pc' := 37) rfl rfl rfl (by decide) rfl (by decide) rfl rfl ?_
      refine x_int (pc' := 38) (v := nI 0) rfl rfl rfl ?_
      refine x_callS (pc' := 41) (d1 := 1) (As := [_, _, _, _]) rfl rfl rfl rfl (by decide) rfl rfl (Nat.le_of_ble_eq_true rfl) ⟨rfl, rfl⟩ (by decide) ?_
      refine w_X10_moves (by decide) (by decide) rfl rfl (show 560 * s + 560 ≤ 1120 by omega) (by decide) (by decide) (by decide) (by decide) (fun D2 v2 => ?_)
      have hR2 : Rn T (D2 206) := rn_row (hG s hs T hT) (fun k hk => by have := v2.1 k hk; rw [Nat.zero_add] at this; exact this) ((hK s hs).2 T hT)
      have hw2 : D2 206 0 = nI (nw T) := hR2.1.1.trans (hG s hs T hT).enw
      refine ⟨rfl, ?_⟩
      refine x_aload (pc' := 42) rfl rfl rfl ?_
      refine x_int (pc' := 43) (v := nI 0) rfl rfl rfl ?_
      refine x_putI (j := 5) (pc' := 46) rfl rfl rfl (by decide) rfl (by decide) rfl rfl ?_
      refine x_aload (pc' := 47) rfl rfl rfl ?_
      refine x_getR (pc' := 50) rfl rfl rfl (by decide) rfl (by decide) rfl rfl ?_
      refine x_int (pc' := 51) (v := nI 0) rfl rfl rfl ?_
      refine x_iald (pc' := 52) rfl rfl (by decide) rfl (by decide) (show _ < 560 by omega) ?_
      refine x_top (hw2) ?_
      refine x_iret rfl rfl ?_
      refine k1 s hs rfl T hT _ (fun k hk => ?_) (fun j hj => ?_) rfl hR2
      · have a1 : k ≠ 205 := fun e => hk (by rw [e]; decide)
        have a2 : k ≠ 206 := fun e => hk (by rw [e]; decide)
        rw [bh_up2_ne _ _ _ a1, v2.2.2 k a2]
      · rw [bh_up2_k]
        dsimp only
        rw [if_neg hj, v2.2.2 205 (by decide)]
    · refine x_int (pc' := 23) (v := (-2)) rfl rfl rfl ?_
      refine x_iret rfl rfl ?_
      refine k2 s hs rfl ?_
      cases h : sh s with
      | none => rfl
      | some T => rw [h] at c18; cases c18
  · refine ⟨rfl, ?_⟩
    refine x_if_ne (pc' := 10) rfl rfl (fun c7 => absurd (by decide) c7) (fun _ => ?_)
    refine x_int (pc' := 11) (v := (-1)) rfl rfl rfl ?_
    refine x_iret rfl rfl ?_
    exact k0 (okN_in1 h4)
end
section
/-! ===== the state of both, and what an act does to it ===== -/
/-- a number below n, or none -/
def dN (n : Nat) (x : Int32) : Option Nat := if 0 ≤ x.toInt ∧ x.toInt < n then some x.toNatClampNeg else none
theorem dN_some {n j : Nat} (h : j < n) (hn : n < 2 ^ 31) : dN n (nI j) = some j := by
  unfold dN
  rw [nI_toInt (by omega), nI_clamp (by omega), if_pos (by omega)]
theorem dN_none {n : Nat} {x : Int32} (hn : n < 2 ^ 31) (h : ¬ okN n x) : dN n x = none := by
  unfold dN
  refine if_neg (fun q => h ?_)
  have h1 : vp_in x n := vp_in_iff.mpr q
  exact vp_in_of h1 hn
/-- tape -/
def PC (D : Nat → Nat → Int32) (tp : List Nat) : Prop := tp.length ≤ 400 ∧ D 27 1 = nI tp.length ∧ ∀ i, i < tp.length → tp.getD i 0 < 256 ∧ D 28 i = nI (tp.getD i 0)
def PM (D : Nat → Nat → Int32) (tp : List Nat) : Prop := D 205 7 = nI tp.length ∧ ∀ i, i < tp.length → D 211 i = (nI (tp.getD i 0)).toInt8.toInt32
def InvC (D : Nat → Nat → Int32) (ps : List TW) (sh : Nat → Option TW) (tp : List Nat) : Prop := HC D ps ∧ KC D sh ∧ PC D tp
def InvM (D : Nat → Nat → Int32) (T : TW) (ps : List TW) (sh : Nat → Option TW) (tp : List Nat) : Prop := Rn T (D 206) ∧ HM D ps ∧ KM D sh ∧ PM D tp
def Good (T : TW) (ps : List TW) (sh : Nat → Option TW) : Prop := WF T ∧ GP ps ∧ GS sh
def nxT (T : TW) (n : Option TW) : TW := n.getD T
def nxP (T : TW) (ps : List TW) (n : Option TW) : List TW := match n with
  | none => ps
  | some _ => (T :: ps).take 10
theorem gp_next {T : TW} {ps : List TW} (hW : WF T) (h : GP ps) : GP ((T :: ps).take 10) := by
  intro j hj
  cases j with
  | zero => exact hW
  | succ j => rw [take10_get hj]; exact h j (by rw [List.length_take, List.length_cons] at hj; omega)
/-- the class's side of the heap is as it was, but for its scratch rows and its town -/
theorem invC_off {D D' : Nat → Nat → Int32} {ps : List TW} {sh : Nat → Option TW} {tp : List Nat} (h : InvC D ps sh tp) (h0 : D' 0 = D 0) (h1 : ∀ k, 27 ≤ k → (k < 31 ∨ 49 ≤ k) → k < 205 → D' k = D k) : InvC D' ps sh tp := by
  obtain ⟨⟨a1, a2, e, a3, a4, a5⟩, ⟨kp, b1, b2, b3⟩, c1, c2, c3⟩ := h
  refine ⟨⟨a1, by rw [h0]; exact a2, e, a3, by rw [h0]; exact a4, fun j hj => ?_⟩, ⟨kp, b1, by rw [h0]; exact b2, fun s hs => ⟨(b3 s hs).1, fun T hT => ?_⟩⟩, c1, by rw [h1 27 (by decide) (by decide) (by decide)]; exact c2, by rw [h1 28 (by decide) (by decide) (by decide)]; exact c3⟩
  · rw [tvt_off (D := D) (fun i hi => h1 _ (by omega) (by omega) (by omega))]
    exact a5 j hj
  · rw [tvt_off (D := D) (fun i hi => h1 _ (by omega) (by omega) (by omega))]
    exact (b3 s hs).2 T hT
/-- behind remember() -/
theorem invC_rem {D D1 : Nat → Nat → Int32} {ps ps1 : List TW} {sh : Nat → Option TW} {tp : List Nat} (h : InvC D ps sh tp) (f1 : FrC D D1) (g1 : D1 0 15 = D 0 15) (hH : HC D1 ps1) : InvC D1 ps1 sh tp := by
  obtain ⟨-, ⟨kp, b1, b2, b3⟩, c1, c2, c3⟩ := h
  refine ⟨hH, ⟨kp, b1, by rw [g1]; exact b2, fun s hs => ⟨(b3 s hs).1, fun T hT => ?_⟩⟩, c1, by rw [f1 27 (by decide) (by decide)]; exact c2, by rw [f1 28 (by decide) (by decide)]; exact c3⟩
  rw [tvt_off (D := D) (fun i hi => f1 _ (by omega) (by omega))]
  exact (b3 s hs).2 T hT
theorem frc_tv {D D1 : Nat → Nat → Int32} (f1 : FrC D D1) : tv D1 = tv D := tvt_off (t := 1) (fun j hj => f1 _ (by omega) (by omega))
theorem tv_up {D : Nat → Nat → Int32} {k i j : Nat} {x : Int32} (hk : k = 1 + j) (hj : j < 13) : tv (bh_up2 D k i x) = bh_up2 (tv D) j i x := by
  subst hk
  funext a b
  show (if a < 13 then bh_up2 D (1 + j) i x (1 + a) b else 0) = bh_up2 (tv D) j i x a b
  by_cases e : a = j
  · subst e
    rw [if_pos hj, bh_up2_k, bh_up2_k]
    dsimp only
    have e2 : tv D a b = D (1 + a) b := if_pos hj
    rw [e2]
  · rw [bh_up2_ne _ _ _ e, bh_up2_ne _ _ _ (by omega)]
/-- the reference's side -/
theorem invM_off {D D' : Nat → Nat → Int32} {T : TW} {ps : List TW} {sh : Nat → Option TW} {tp : List Nat} (h : InvM D T ps sh tp) (h1 : ∀ k, 206 ≤ k → k ≤ 211 → k ≠ 207 → D' k = D k) (h5 : D' 205 5 = D 205 5) (h7 : D' 205 7 = D 205 7) : InvM D' T ps sh tp := by
  obtain ⟨a, ⟨b1, b2, b3⟩, c, e1, e2⟩ := h
  refine ⟨by rw [h1 206 (by decide) (by decide) (by decide)]; exact a, ⟨b1, by rw [h5]; exact b2, by rw [h1 208 (by decide) (by decide) (by decide)]; exact b3⟩, fun s hs => ?_, by rw [h7]; exact e1, by rw [h1 211 (by decide) (by decide) (by decide)]; exact e2⟩
  rw [h1 210 (by decide) (by decide) (by decide), h1 209 (by decide) (by decide) (by decide)]
  exact c s hs
/-- behind keepsPast(), and a new row -/
theorem invM_rem {D D1 D2 : Nat → Nat → Int32} {T T1 : TW} {ps ps1 : List TW} {sh : Nat → Option TW} {tp : List Nat} (h : InvM D T ps sh tp) (f1 : OffL [205, 208] D D1) (g1 : ∀ j, j ≠ 5 → D1 205 j = D 205 j) (hH : HM D1 ps1) (o2 : ∀ k, k ≠ 206 → k ≠ 205 → k < 212 → D2 k = D1 k) (o3 : ∀ j, j < 8 → D2 205 j = D1 205 j) (hR : Rn T1 (D2 206)) : InvM D2 T1 ps1 sh tp := by
  obtain ⟨-, -, c, e1, e2⟩ := h
  obtain ⟨b1, b2, b3⟩ := hH
  refine ⟨hR, ⟨b1, by rw [o3 5 (by decide)]; exact b2, by rw [o2 208 (by decide) (by decide) (by decide)]; exact b3⟩, fun s hs => ?_, by rw [o3 7 (by decide), g1 7 (by decide)]; exact e1, by rw [o2 211 (by decide) (by decide) (by decide), f1 211 (by decide)]; exact e2⟩
  rw [o2 210 (by decide) (by decide) (by decide), o2 209 (by decide) (by decide) (by decide), f1 210 (by decide), f1 209 (by decide)]
  exact c s hs

theorem rn_up5 {T : TW} {N : Nat → Int32} (hW : WF T) (hR : Rn T N) {w : Nat} (hw : w < nw T) (x : Int32) : Rn (bh_up2 T 5 w x) (fun k => if k = 4 + 10 * w + 4 then x else N k) := by
  have h12 := hW.nwl
  have h4 := hW.nbl
  have h16 := hW.nsl
  refine ⟨⟨(if_neg (by omega)).trans hR.1.1, (if_neg (by omega)).trans hR.1.2.1, (if_neg (by omega)).trans hR.1.2.2.1, (if_neg (by omega)).trans hR.1.2.2.2⟩, fun w2 hw2 => ?_, fun b hb => ⟨(if_neg (by have : b < nb T := hb; omega)).trans (hR.2.2.1 b hb).1, fun q hq => (if_neg (by have : b < nb T := hb; omega)).trans ((hR.2.2.1 b hb).2 q hq)⟩, fun w2 b q hw2 hb hq hs => (if_neg (by have := hW.lngl hb; have : w2 < nw T := hw2; have : b < nb T := hb; have : q < lng T b := hq; omega)).trans (hR.2.2.2.1 w2 b q hw2 hb hq hs), fun i hi => (if_neg (by have : i < ns T := hi; omega)).trans (hR.2.2.2.2 i hi)⟩
  have h := hR.2.1 w2 hw2
  have hw3 : w2 < nw T := hw2
  refine ⟨(if_neg (by omega)).trans (h.1), (if_neg (by omega)).trans (h.2.1), fun hk => (if_neg (by omega)).trans (h.2.2.1 hk), fun hk => (if_neg (by omega)).trans (h.2.2.2.1 hk), ?_, (if_neg (by omega)).trans (h.2.2.2.2.2.1), (if_neg (by omega)).trans (h.2.2.2.2.2.2.1), (if_neg (by omega)).trans (h.2.2.2.2.2.2.2.1), (if_neg (by omega)).trans (h.2.2.2.2.2.2.2.2.1), (if_neg (by omega)).trans (h.2.2.2.2.2.2.2.2.2)⟩
  show (if 4 + 10 * w2 + 4 = 4 + 10 * w + 4 then x else N (4 + 10 * w2 + 4)) = (bh_up2 T 5 w x) 5 w2
  rw [bh_up2_k]
  dsimp only
  by_cases e : w2 = w
  · rw [if_pos (by omega), if_pos e]
  · rw [if_neg (by omega), if_neg e]
    exact (h.2.2.2.2.1)
theorem rn_up6 {T : TW} {N : Nat → Int32} (hW : WF T) (hR : Rn T N) {w : Nat} (hw : w < nw T) (x : Int32) : Rn (bh_up2 T 6 w x) (fun k => if k = 4 + 10 * w + 5 then x else N k) := by
  have h12 := hW.nwl
  have h4 := hW.nbl
  have h16 := hW.nsl
  refine ⟨⟨(if_neg (by omega)).trans hR.1.1, (if_neg (by omega)).trans hR.1.2.1, (if_neg (by omega)).trans hR.1.2.2.1, (if_neg (by omega)).trans hR.1.2.2.2⟩, fun w2 hw2 => ?_, fun b hb => ⟨(if_neg (by have : b < nb T := hb; omega)).trans (hR.2.2.1 b hb).1, fun q hq => (if_neg (by have : b < nb T := hb; omega)).trans ((hR.2.2.1 b hb).2 q hq)⟩, fun w2 b q hw2 hb hq hs => (if_neg (by have := hW.lngl hb; have : w2 < nw T := hw2; have : b < nb T := hb; have : q < lng T b := hq; omega)).trans (hR.2.2.2.1 w2 b q hw2 hb hq hs), fun i hi => (if_neg (by have : i < ns T := hi; omega)).trans (hR.2.2.2.2 i hi)⟩
  have h := hR.2.1 w2 hw2
  have hw3 : w2 < nw T := hw2
  refine ⟨(if_neg (by omega)).trans (h.1), (if_neg (by omega)).trans (h.2.1), fun hk => (if_neg (by omega)).trans (h.2.2.1 hk), fun hk => (if_neg (by omega)).trans (h.2.2.2.1 hk), (if_neg (by omega)).trans (h.2.2.2.2.1), ?_, (if_neg (by omega)).trans (h.2.2.2.2.2.2.1), (if_neg (by omega)).trans (h.2.2.2.2.2.2.2.1), (if_neg (by omega)).trans (h.2.2.2.2.2.2.2.2.1), (if_neg (by omega)).trans (h.2.2.2.2.2.2.2.2.2)⟩
  show (if 4 + 10 * w2 + 5 = 4 + 10 * w + 5 then x else N (4 + 10 * w2 + 5)) = (bh_up2 T 6 w x) 6 w2
  rw [bh_up2_k]
  dsimp only
  by_cases e : w2 = w
  · rw [if_pos (by omega), if_pos e]
  · rw [if_neg (by omega), if_neg e]
    exact (h.2.2.2.2.2.1)
theorem rn_up7 {T : TW} {N : Nat → Int32} (hW : WF T) (hR : Rn T N) {w : Nat} (hw : w < nw T) (x : Int32) : Rn (bh_up2 T 7 w x) (fun k => if k = 4 + 10 * w + 6 then x else N k) := by
  have h12 := hW.nwl
  have h4 := hW.nbl
  have h16 := hW.nsl
  refine ⟨⟨(if_neg (by omega)).trans hR.1.1, (if_neg (by omega)).trans hR.1.2.1, (if_neg (by omega)).trans hR.1.2.2.1, (if_neg (by omega)).trans hR.1.2.2.2⟩, fun w2 hw2 => ?_, fun b hb => ⟨(if_neg (by have : b < nb T := hb; omega)).trans (hR.2.2.1 b hb).1, fun q hq => (if_neg (by have : b < nb T := hb; omega)).trans ((hR.2.2.1 b hb).2 q hq)⟩, fun w2 b q hw2 hb hq hs => (if_neg (by have := hW.lngl hb; have : w2 < nw T := hw2; have : b < nb T := hb; have : q < lng T b := hq; omega)).trans (hR.2.2.2.1 w2 b q hw2 hb hq hs), fun i hi => (if_neg (by have : i < ns T := hi; omega)).trans (hR.2.2.2.2 i hi)⟩
  have h := hR.2.1 w2 hw2
  have hw3 : w2 < nw T := hw2
  refine ⟨(if_neg (by omega)).trans (h.1), (if_neg (by omega)).trans (h.2.1), fun hk => (if_neg (by omega)).trans (h.2.2.1 hk), fun hk => (if_neg (by omega)).trans (h.2.2.2.1 hk), (if_neg (by omega)).trans (h.2.2.2.2.1), (if_neg (by omega)).trans (h.2.2.2.2.2.1), ?_, (if_neg (by omega)).trans (h.2.2.2.2.2.2.2.1), (if_neg (by omega)).trans (h.2.2.2.2.2.2.2.2.1), (if_neg (by omega)).trans (h.2.2.2.2.2.2.2.2.2)⟩
  show (if 4 + 10 * w2 + 6 = 4 + 10 * w + 6 then x else N (4 + 10 * w2 + 6)) = (bh_up2 T 7 w x) 7 w2
  rw [bh_up2_k]
  dsimp only
  by_cases e : w2 = w
  · rw [if_pos (by omega), if_pos e]
  · rw [if_neg (by omega), if_neg e]
    exact (h.2.2.2.2.2.2.1)
theorem wf_un {T : TW} (hW : WF T) {w : Nat} (hw : w < nw T) {x : Int32} (hx : x = -1 ∨ (is x (nw T) ∧ pu T x.toNatClampNeg < pu T w)) : WF (bh_up2 T 5 w x) := by
  refine ⟨hW.1, fun w2 hw2 => ?_, hW.2.2.1, hW.2.2.2.1, hW.2.2.2.2⟩
  obtain ⟨a1, a2, a3, a4, a5, a6, a7⟩ := hW.2.1 w2 hw2
  refine ⟨a1, a2, a3, a4, a5, a6, ?_⟩
  show (bh_up2 T 5 w x) 5 w2 = -1 ∨ (is ((bh_up2 T 5 w x) 5 w2) (nw T) ∧ pu T ((bh_up2 T 5 w x) 5 w2).toNatClampNeg < pu T w2)
  rw [bh_up2_k]
  dsimp only
  by_cases e : w2 = w
  · rw [if_pos e, e]; exact hx
  · rw [if_neg e]; exact a7
theorem wf_67 {T : TW} (hW : WF T) {w j : Nat} (hj : j = 6 ∨ j = 7) (x : Int32) : WF (bh_up2 T j w x) := by
  rcases hj with rfl | rfl <;> exact hW
set_option maxRecDepth 20000 in
set_option maxHeartbeats 1000000 in
theorem w_X10_puts_ {D : Nat → Nat → Int32} {L : Nat → Nat → Int64} {Q : bh_Q} {w j : Nat} {x : Int32} (hw : w < 12) (hj : j < 10) (k1 : Q none (hp (bh_up2 D 206 (4 + 10 * w + j) x) L)) : bh_wc 1 m_X10_puts_ [.ref 205, .int (nI w), .int (nI j), .int x] (hp D L) Q := by
  refine x_start (lv0 := [_, _, _, _]) (Nat.le_of_ble_eq_true rfl) rfl ?_
  refine x_aload (pc' := 1) rfl rfl rfl ?_
  refine x_getR (pc' := 4) rfl rfl rfl (by decide) rfl (by decide) rfl rfl ?_
  refine x_int (pc' := 5) (v := nI 4) rfl rfl rfl ?_
  refine x_int (pc' := 7) (v := nI 10) rfl rfl rfl ?_
  refine x_iload (pc' := 8) rfl rfl rfl ?_
  refine y_imul (pc' := 9) rfl rfl ?_
  refine y_iadd (pc' := 10) rfl rfl ?_
  refine x_iload (pc' := 11) rfl rfl rfl ?_
  refine y_iadd (pc' := 12) rfl rfl ?_
  refine x_iload (pc' := 13) rfl rfl rfl ?_
  refine x_iast (pc' := 14) rfl rfl (by decide) rfl (by decide) (show _ < 560 by omega) ?_
  refine x_vret rfl rfl ?_
  exact k1
set_option maxRecDepth 20000 in
set_option maxHeartbeats 1000000 in
theorem w_X2_listFrom {D : Nat → Nat → Int32} {L : Nat → Nat → Int64} {Q : bh_Q} (hW : WF (tv D)) {w : Nat} (hw : w < nw (tv D)) (k1 : ∀ D', OffH D D' → HdL D' (ch (tv D) w) → Q none (hp D' L)) : bh_wc 2 m_X2_listFrom [.ref 31, .ref 1, .int (nI w)] (hp D L) Q := by
  refine x_start (lv0 := [_, _, _]) (Nat.le_of_ble_eq_true rfl) rfl ?_
  refine x_aload (pc' := 1) rfl rfl rfl ?_
  refine x_aload (pc' := 2) rfl rfl rfl ?_
  refine x_iload (pc' := 3) rfl rfl rfl ?_
  refine x_int (pc' := 4) (v := nI 0) rfl rfl rfl ?_
  refine x_callV (pc' := 7) (d1 := 1) (Bs := [_, _, _]) rfl rfl rfl rfl rfl rfl rfl (Nat.le_of_ble_eq_true rfl) ⟨rfl, rfl⟩ (by decide) rfl (by decide) ?_
  refine w_X2_listUntilDead (dd := 0) hW (by decide) (isH_of hW hw) (fun D1 o1 hH => ?_)
  have e1 : (ch (tv D) w).takeWhile (fun y => !Nat.testBit 0 y) = ch (tv D) w := by
    have : ∀ l : List Nat, l.takeWhile (fun y => !Nat.testBit 0 y) = l := by
      intro l
      induction l with
      | nil => rfl
      | cons a l ih =>
        have e0 : (!Nat.testBit 0 a) = true := by simp
        rw [List.takeWhile_cons, if_pos e0, ih]
    exact this _
  rw [e1] at hH
  refine ⟨rfl, ?_⟩
  refine x_pop (pc' := 8) rfl rfl rfl ?_
  refine x_vret rfl rfl ?_
  exact k1 D1 o1 hH
set_option maxRecDepth 20000 in
set_option maxHeartbeats 1000000 in
theorem w_X9_handsOf {D : Nat → Nat → Int32} {L : Nat → Nat → Int64} {Q : bh_Q} (hW : WF (tv D)) {w : Nat} (hw : w < nw (tv D)) (k1 : ∀ D', OffH D D' → HdL D' (ch (tv D) w) → Q (some (.int (nI (ch (tv D) w).length))) (hp D' L)) : bh_wc 3 m_X9_handsOf [.ref 0, .int (nI w)] (hp D L) Q := by
  refine x_start (lv0 := [_, _]) (Nat.le_of_ble_eq_true rfl) rfl ?_
  refine x_aload (pc' := 1) rfl rfl rfl ?_
  refine x_getR (pc' := 4) rfl rfl rfl (by decide) rfl (by decide) rfl rfl ?_
  refine x_aload (pc' := 5) rfl rfl rfl ?_
  refine x_getR (pc' := 8) rfl rfl rfl (by decide) rfl (by decide) rfl rfl ?_
  refine x_iload (pc' := 9) rfl rfl rfl ?_
  refine x_callV (pc' := 12) (d1 := 2) (Bs := [_, _]) rfl rfl rfl rfl rfl rfl rfl (Nat.le_of_ble_eq_true rfl) ⟨rfl, rfl⟩ (by decide) rfl (by decide) ?_
  refine w_X2_listFrom hW hw (fun D1 o1 hH => ?_)
  refine ⟨rfl, ?_⟩
  refine x_aload (pc' := 13) rfl rfl rfl ?_
  refine x_getR (pc' := 16) rfl rfl rfl (by decide) rfl (by decide) rfl rfl ?_
  refine x_getI (j := 1) (pc' := 19) rfl rfl rfl (by decide) rfl (by decide) rfl rfl ?_
  refine x_top (hH.1) ?_
  refine x_iret rfl rfl ?_
  exact k1 D1 o1 hH
end
section
/-! ===== acts: what they answer, what they make of the town ===== -/
def hireR (T : TW) (x y : Int32) : Int32 × Option TW := match dN (nw T) x, dN (nw T) y with
  | some w, some u => if isD T w = true ∨ isD T u = true then (-4, none) else if T 5 w = nI u then (-2, none) else if pu T w ≤ pu T u then (-3, none) else (nI (ch (bh_up2 T 5 w (nI u)) w).length, some (bh_up2 T 5 w (nI u)))
  | _, _ => (-1, none)
def sackR (T : TW) (x : Int32) : Int32 × Option TW := match dN (nw T) x with
  | some w => if isD T w = true then (-4, none) else if T 5 w = -1 then (-2, none) else (T 5 w, some (bh_up2 T 5 w (-1)))
  | _ => (-1, none)
def gift (x : Int32) : Option Nat := match dN 10000 x with
  | some n => if n = 0 then none else some n
  | none => none
theorem gift_some {n : Nat} (h1 : 1 ≤ n) (h2 : n ≤ 9999) : gift (nI n) = some n := by
  unfold gift
  rw [dN_some (by omega) (by decide)]
  dsimp only
  rw [if_neg (by omega)]
theorem gift_none {x : Int32} (h : ¬ okG x) : gift x = none := by
  unfold gift
  cases hd : dN 10000 x with
  | none => rfl
  | some n =>
    dsimp only
    by_cases e : n = 0
    · rw [if_pos e]
    · exfalso
      unfold dN at hd
      split at hd
      next hq =>
        obtain ⟨j, hj, hx⟩ := vp_in_of (vp_in_iff.mpr hq) (by decide)
        cases hd
        refine h ⟨j, ?_, by omega, hx⟩
        rw [hx, nI_clamp (by omega)] at e
        omega
      next => cases hd
def blameR (T : TW) (x y : Int32) : Int32 × Option TW := match dN (nw T) x, gift y with
  | some w, some _ => (T 6 w - y, some (bh_up2 T 6 w (T 6 w - y)))
  | _, _ => (-1, none)
def seeR (T : TW) (x : Int32) : Int32 × Option TW := match dN 65536 x with
  | some _ => if ns T = 16 then (-3, none) else (nI (ns T + 1), some (bh_up2 (bh_up2 T 12 (ns T) x) 0 2 (nI (ns T + 1))))
  | _ => (-1, none)
def forgetR (T : TW) : Int32 × Option TW := if ns T = 0 then (-1, none) else (nI (ns T), some (bh_up2 T 0 2 (nI 0)))
theorem nd2 {a b : Bool} (ha : a = false) (hb : b = false) : ¬ (a = true ∨ b = true) := by rintro (h | h) <;> simp_all
theorem toI_gift {x : Int32} (h1 : (nI 1) ≤ x) (h2 : x ≤ nI 9999) : ∃ j : Nat, 1 ≤ j ∧ j ≤ 9999 ∧ x = nI j := by
  obtain ⟨j, hj, rfl⟩ := in_okL (n := 9999) (by decide) (Int32.le_trans (by decide) h1) h2
  exact ⟨j, (nI_leI (a := 1) (by decide) (by omega)).mp h1, by omega, rfl⟩
theorem gift_in {x : Int32} (h : ¬ (nI 1 ≤ x ∧ x ≤ nI 9999)) : ¬ okG x := by
  rintro ⟨j, h1, h2, rfl⟩
  exact h ⟨nI_le h1 (by omega), nI_le h2 (by decide)⟩
set_option maxRecDepth 20000 in
set_option maxHeartbeats 1000000 in
theorem w_X9_hire {D : Nat → Nat → Int32} {L : Nat → Nat → Int64} {Q : bh_Q} {ps : List TW} {sh : Nat → Option TW} {tp : List Nat} (hI : InvC D ps sh tp) (hG : Good (tv D) ps sh) {x y : Int32} (k1 : ∀ D1, (∀ k, 205 ≤ k → D1 k = D k) → tv D1 = nxT (tv D) (hireR (tv D) x y).2 → InvC D1 (nxP (tv D) ps (hireR (tv D) x y).2) sh tp → Q (some (.int (hireR (tv D) x y).1)) (hp D1 L)) : bh_wc 4 m_X9_hire [.ref 0, .int x, .int y] (hp D L) Q := by
  refine x_start (lv0 := [_, _, _]) (Nat.le_of_ble_eq_true rfl) rfl ?_
  have hW := hG.1
  have h12 := hW.nwl
  have hH := hI.1
  refine x_aload (pc' := 1) rfl rfl rfl ?_
  refine x_getR (pc' := 4) rfl rfl rfl (by decide) rfl (by decide) rfl rfl ?_
  refine x_iload (pc' := 5) rfl rfl rfl ?_
  refine x_callV (pc' := 8) (d1 := 1) (Bs := [_]) rfl rfl rfl rfl rfl rfl rfl (Nat.le_of_ble_eq_true rfl) ⟨rfl, rfl⟩ (by decide) rfl (by decide) ?_
  refine w_X7_isWriter hW (fun h5w h5l e => ?_) (fun h5 => ?_)
  · subst e
    refine ⟨rfl, ?_⟩
    refine x_if_eq (pc' := 11) rfl rfl (fun c8 => absurd c8 (by decide)) (fun _ => ?_)
    refine x_aload (pc' := 12) rfl rfl rfl ?_
    refine x_getR (pc' := 15) rfl rfl rfl (by decide) rfl (by decide) rfl rfl ?_
    refine x_iload (pc' := 16) rfl rfl rfl ?_
    refine x_callV (pc' := 19) (d1 := 1) (Bs := [_]) rfl rfl rfl rfl rfl rfl rfl (Nat.le_of_ble_eq_true rfl) ⟨rfl, rfl⟩ (by decide) rfl (by decide) ?_
    refine w_X7_isWriter hW (fun h16w h16l e => ?_) (fun h16 => ?_)
    · subst e
      refine ⟨rfl, ?_⟩
      refine x_if_ne (pc' := 22) rfl rfl (fun _ => ?_) (fun c19 => absurd c19 (by decide))
      refine x_aload (pc' := 25) rfl rfl rfl ?_
      refine x_getR (pc' := 28) rfl rfl rfl (by decide) rfl (by decide) rfl rfl ?_
      refine x_iload (pc' := 29) rfl rfl rfl ?_
      refine x_callV (pc' := 32) (d1 := 1) (Bs := [_]) rfl rfl rfl rfl rfl rfl rfl (Nat.le_of_ble_eq_true rfl) ⟨rfl, rfl⟩ (by decide) rfl (by decide) ?_
      refine w_X7_isDead hW (by assumption) (fun h29 => ?_) (fun h29 => ?_)
      · refine ⟨rfl, ?_⟩
        refine x_if_ne (pc' := 35) rfl rfl (fun _ => ?_) (fun c32 => absurd c32 (by decide))
        refine x_int (pc' := 48) (v := (-4)) rfl rfl rfl ?_
        refine x_iret rfl rfl ?_
        first
          | (have e : hireR (tv D) (nI h5w) (nI h16w) = (-4, none) := by unfold hireR; rw [dN_some h5l (by omega), dN_some h16l (by omega)]; dsimp only; rw [if_pos (Or.inl h29)]
             rw [e] at k1
             exact k1 D (fun _ _ => rfl) rfl hI)
          | (have e : hireR (tv D) (nI h5w) (nI h16w) = (-4, none) := by unfold hireR; rw [dN_some h5l (by omega), dN_some h16l (by omega)]; dsimp only; rw [if_pos (Or.inr h40)]
             rw [e] at k1
             exact k1 D (fun _ _ => rfl) rfl hI)
      · refine ⟨rfl, ?_⟩
        refine x_if_ne (pc' := 35) rfl rfl (fun c32 => absurd (by decide) c32) (fun _ => ?_)
        refine x_aload (pc' := 36) rfl rfl rfl ?_
        refine x_getR (pc' := 39) rfl rfl rfl (by decide) rfl (by decide) rfl rfl ?_
        refine x_iload (pc' := 40) rfl rfl rfl ?_
        refine x_callV (pc' := 43) (d1 := 1) (Bs := [_]) rfl rfl rfl rfl rfl rfl rfl (Nat.le_of_ble_eq_true rfl) ⟨rfl, rfl⟩ (by decide) rfl (by decide) ?_
        refine w_X7_isDead hW (by assumption) (fun h40 => ?_) (fun h40 => ?_)
        · refine ⟨rfl, ?_⟩
          refine x_if_eq (pc' := 46) rfl rfl (fun c43 => absurd c43 (by decide)) (fun _ => ?_)
          refine x_int (pc' := 48) (v := (-4)) rfl rfl rfl ?_
          refine x_iret rfl rfl ?_
          first
            | (have e : hireR (tv D) (nI h5w) (nI h16w) = (-4, none) := by unfold hireR; rw [dN_some h5l (by omega), dN_some h16l (by omega)]; dsimp only; rw [if_pos (Or.inl h29)]
               rw [e] at k1
               exact k1 D (fun _ _ => rfl) rfl hI)
            | (have e : hireR (tv D) (nI h5w) (nI h16w) = (-4, none) := by unfold hireR; rw [dN_some h5l (by omega), dN_some h16l (by omega)]; dsimp only; rw [if_pos (Or.inr h40)]
               rw [e] at k1
               exact k1 D (fun _ _ => rfl) rfl hI)
        · refine ⟨rfl, ?_⟩
          refine x_if_eq (pc' := 46) rfl rfl (fun _ => ?_) (fun c43 => absurd (by decide) c43)
          refine x_aload (pc' := 50) rfl rfl rfl ?_
          refine x_getR (pc' := 53) rfl rfl rfl (by decide) rfl (by decide) rfl rfl ?_
          refine x_getR (pc' := 56) rfl rfl rfl (by decide) rfl (by decide) rfl rfl ?_
          refine x_iload (pc' := 57) rfl rfl rfl ?_
          refine x_iald (pc' := 58) rfl rfl (by decide) rfl (by decide) (show _ < 12 by omega) ?_
          refine x_iload (pc' := 59) rfl rfl rfl ?_
          refine x_ic_ne (pc' := 62) rfl rfl (fun c59 => ?_) (fun c59 => ?_)
          · refine x_aload (pc' := 66) rfl rfl rfl ?_
            refine x_getR (pc' := 69) rfl rfl rfl (by decide) rfl (by decide) rfl rfl ?_
            refine x_getR (pc' := 72) rfl rfl rfl (by decide) rfl (by decide) rfl rfl ?_
            refine x_iload (pc' := 73) rfl rfl rfl ?_
            refine x_iald (pc' := 74) rfl rfl (by decide) rfl (by decide) (show _ < 12 by omega) ?_
            refine x_top (hW.epu (by assumption)) ?_
            refine x_aload (pc' := 75) rfl rfl rfl ?_
            refine x_getR (pc' := 78) rfl rfl rfl (by decide) rfl (by decide) rfl rfl ?_
            refine x_getR (pc' := 81) rfl rfl rfl (by decide) rfl (by decide) rfl rfl ?_
            refine x_iload (pc' := 82) rfl rfl rfl ?_
            refine x_iald (pc' := 83) rfl rfl (by decide) rfl (by decide) (show _ < 12 by omega) ?_
            refine x_top (hW.epu (by assumption)) ?_
            refine y_ic_lt (pc' := 86) rfl rfl (by first | omega | (have := hW.pul h5l; have := hW.pul h16l; omega)) (by first | omega | (have := hW.pul h5l; have := hW.pul h16l; omega)) (fun c83 => ?_) (fun c83 => ?_)
            · refine x_aload (pc' := 90) rfl rfl rfl ?_
              refine x_callV (pc' := 93) (d1 := 3) (Bs := []) rfl rfl rfl rfl rfl rfl rfl (Nat.le_of_ble_eq_true rfl) ⟨rfl, rfl⟩ (by decide) rfl (by decide) ?_
              refine w_X9_remember hH (fun D1 f1 g1 hH1 => ?_)
              refine ⟨rfl, ?_⟩
              refine x_aload (pc' := 94) rfl rfl rfl ?_
              refine x_getR (pc' := 97) rfl rfl rfl (by decide) rfl (by decide) rfl rfl ?_
              refine x_getR (pc' := 100) rfl rfl rfl (by decide) rfl (by decide) rfl rfl ?_
              refine x_iload (pc' := 101) rfl rfl rfl ?_
              refine x_iload (pc' := 102) rfl rfl rfl ?_
              refine x_iast (pc' := 103) rfl rfl (by decide) rfl (by decide) (show _ < 12 by omega) ?_
              have e2 : tv (bh_up2 D1 6 h5w (nI h16w)) = bh_up2 (tv D) 5 h5w (nI h16w) := by rw [tv_up (j := 5) rfl (by decide), frc_tv f1]
              have hW2 : WF (tv (bh_up2 D1 6 h5w (nI h16w))) := by rw [e2]; exact wf_un hW h5l (Or.inr ⟨is_nI h16l (by omega), by rw [nI_clamp (by omega)]; exact c83⟩)
              refine x_aload (pc' := 104) rfl rfl rfl ?_
              refine x_iload (pc' := 105) rfl rfl rfl ?_
              refine x_callV (pc' := 108) (d1 := 3) (Bs := [_]) rfl rfl rfl rfl rfl rfl rfl (Nat.le_of_ble_eq_true rfl) ⟨rfl, rfl⟩ (by decide) rfl (by decide) ?_
              refine w_X9_handsOf (D := bh_up2 D1 6 h5w (nI h16w)) hW2 (by rw [e2]; exact h5l) (fun D3 o3 h3 => ?_)
              refine ⟨rfl, ?_⟩
              refine x_iret rfl rfl ?_
              have e : hireR (tv D) (nI h5w) (nI h16w) = (nI (ch (bh_up2 (tv D) 5 h5w (nI h16w)) h5w).length, some (bh_up2 (tv D) 5 h5w (nI h16w))) := by unfold hireR; rw [dN_some h5l (by omega), dN_some h16l (by omega)]; dsimp only; rw [if_neg (nd2 h29 h40)]; exact (if_neg c59).trans (if_neg (by omega))
              rw [e] at k1
              rw [e2]
              refine k1 D3 (fun k hk => ?_) (by rw [o3.tv, e2]; rfl) (invC_off (invC_rem hI f1 g1 hH1) (by rw [o3 0 (by decide) (by decide)]; rfl) (fun k h1 h2 h3 => by rw [o3 k (by omega) (by omega), bh_up2_ne _ _ _ (by omega)]))
              rw [o3 k (by omega) (by omega), bh_up2_ne _ _ _ (by omega), f1 k (by omega) (by omega)]
            · refine x_int (pc' := 88) (v := (-3)) rfl rfl rfl ?_
              refine x_iret rfl rfl ?_
              have e : hireR (tv D) (nI h5w) (nI h16w) = (-3, none) := by unfold hireR; rw [dN_some h5l (by omega), dN_some h16l (by omega)]; dsimp only; rw [if_neg (nd2 h29 h40)]; exact (if_neg c59).trans (if_pos c83)
              rw [e] at k1
              exact k1 D (fun _ _ => rfl) rfl hI
          · refine x_int (pc' := 64) (v := (-2)) rfl rfl rfl ?_
            refine x_iret rfl rfl ?_
            have e : hireR (tv D) (nI h5w) (nI h16w) = (-2, none) := by unfold hireR; rw [dN_some h5l (by omega), dN_some h16l (by omega)]; dsimp only; rw [if_neg (nd2 h29 h40)]; exact if_pos c59
            rw [e] at k1
            exact k1 D (fun _ _ => rfl) rfl hI
    · refine ⟨rfl, ?_⟩
      refine x_if_ne (pc' := 22) rfl rfl (fun c19 => absurd (by decide) c19) (fun _ => ?_)
      refine x_int (pc' := 23) (v := (-1)) rfl rfl rfl ?_
      refine x_iret rfl rfl ?_
      first
        | (have e : hireR (tv D) x y = (-1, none) := by unfold hireR; rw [dN_none (by omega) h5]
           rw [e] at k1
           exact k1 D (fun _ _ => rfl) rfl hI)
        | (have e : hireR (tv D) (nI h5w) y = (-1, none) := by unfold hireR; rw [dN_some h5l (by omega), dN_none (by omega) h16]
           rw [e] at k1
           exact k1 D (fun _ _ => rfl) rfl hI)
  · refine ⟨rfl, ?_⟩
    refine x_if_eq (pc' := 11) rfl rfl (fun _ => ?_) (fun c8 => absurd (by decide) c8)
    refine x_int (pc' := 23) (v := (-1)) rfl rfl rfl ?_
    refine x_iret rfl rfl ?_
    first
      | (have e : hireR (tv D) x y = (-1, none) := by unfold hireR; rw [dN_none (by omega) h5]
         rw [e] at k1
         exact k1 D (fun _ _ => rfl) rfl hI)
      | (have e : hireR (tv D) (nI h5w) y = (-1, none) := by unfold hireR; rw [dN_some h5l (by omega), dN_none (by omega) h16]
         rw [e] at k1
         exact k1 D (fun _ _ => rfl) rfl hI)
set_option maxRecDepth 20000 in
set_option maxHeartbeats 1000000 in
theorem w_X10_hire {D : Nat → Nat → Int32} {L : Nat → Nat → Int64} {Q : bh_Q} {T : TW} {ps : List TW} {sh : Nat → Option TW} {tp : List Nat} (hI : InvM D T ps sh tp) (hG : Good T ps sh) {x y : Int32} (k1 : ∀ D1, (∀ k, (k < 205 ∨ 228 ≤ k) → D1 k = D k) → InvM D1 (nxT T (hireR T x y).2) (nxP T ps (hireR T x y).2) sh tp → Q (some (.int (hireR T x y).1)) (hp D1 L)) : bh_wc 4 m_X10_hire [.ref 205, .int x, .int y] (hp D L) Q := by
  refine x_start (lv0 := [_, _, _]) (Nat.le_of_ble_eq_true rfl) rfl ?_
  have hW := hG.1
  have h12 := hW.nwl
  have hR := hI.1
  refine x_aload (pc' := 1) rfl rfl rfl ?_
  refine x_iload (pc' := 2) rfl rfl rfl ?_
  refine x_callV (pc' := 5) (d1 := 2) (Bs := [_]) rfl rfl rfl rfl rfl rfl rfl (Nat.le_of_ble_eq_true rfl) ⟨rfl, rfl⟩ (by decide) rfl (by decide) ?_
  refine w_X10_isWriter hW hR (fun h2w h2l e => ?_) (fun h2 => ?_)
  · subst e
    refine ⟨rfl, ?_⟩
    refine x_if_eq (pc' := 8) rfl rfl (fun c5 => absurd c5 (by decide)) (fun _ => ?_)
    refine x_aload (pc' := 9) rfl rfl rfl ?_
    refine x_iload (pc' := 10) rfl rfl rfl ?_
    refine x_callV (pc' := 13) (d1 := 2) (Bs := [_]) rfl rfl rfl rfl rfl rfl rfl (Nat.le_of_ble_eq_true rfl) ⟨rfl, rfl⟩ (by decide) rfl (by decide) ?_
    refine w_X10_isWriter hW hR (fun h10w h10l e => ?_) (fun h10 => ?_)
    · subst e
      refine ⟨rfl, ?_⟩
      refine x_if_ne (pc' := 16) rfl rfl (fun _ => ?_) (fun c13 => absurd c13 (by decide))
      refine x_aload (pc' := 19) rfl rfl rfl ?_
      refine x_iload (pc' := 20) rfl rfl rfl ?_
      refine x_callV (pc' := 23) (d1 := 2) (Bs := [_]) rfl rfl rfl rfl rfl rfl rfl (Nat.le_of_ble_eq_true rfl) ⟨rfl, rfl⟩ (by decide) rfl (by decide) ?_
      refine w_X10_isDead hW hR (by assumption) (fun h20 => ?_) (fun h20 => ?_)
      · refine ⟨rfl, ?_⟩
        refine x_if_ne (pc' := 26) rfl rfl (fun _ => ?_) (fun c23 => absurd c23 (by decide))
        refine x_int (pc' := 36) (v := (-4)) rfl rfl rfl ?_
        refine x_iret rfl rfl ?_
        first
          | (have e : hireR T (nI h2w) (nI h10w) = (-4, none) := by unfold hireR; rw [dN_some h2l (by omega), dN_some h10l (by omega)]; dsimp only; rw [if_pos (Or.inl h20)]
             rw [e] at k1
             exact k1 D (fun _ _ => rfl) hI)
          | (have e : hireR T (nI h2w) (nI h10w) = (-4, none) := by unfold hireR; rw [dN_some h2l (by omega), dN_some h10l (by omega)]; dsimp only; rw [if_pos (Or.inr h28)]
             rw [e] at k1
             exact k1 D (fun _ _ => rfl) hI)
      · refine ⟨rfl, ?_⟩
        refine x_if_ne (pc' := 26) rfl rfl (fun c23 => absurd (by decide) c23) (fun _ => ?_)
        refine x_aload (pc' := 27) rfl rfl rfl ?_
        refine x_iload (pc' := 28) rfl rfl rfl ?_
        refine x_callV (pc' := 31) (d1 := 2) (Bs := [_]) rfl rfl rfl rfl rfl rfl rfl (Nat.le_of_ble_eq_true rfl) ⟨rfl, rfl⟩ (by decide) rfl (by decide) ?_
        refine w_X10_isDead hW hR (by assumption) (fun h28 => ?_) (fun h28 => ?_)
        · refine ⟨rfl, ?_⟩
          refine x_if_eq (pc' := 34) rfl rfl (fun c31 => absurd c31 (by decide)) (fun _ => ?_)
          refine x_int (pc' := 36) (v := (-4)) rfl rfl rfl ?_
          refine x_iret rfl rfl ?_
          first
            | (have e : hireR T (nI h2w) (nI h10w) = (-4, none) := by unfold hireR; rw [dN_some h2l (by omega), dN_some h10l (by omega)]; dsimp only; rw [if_pos (Or.inl h20)]
               rw [e] at k1
               exact k1 D (fun _ _ => rfl) hI)
            | (have e : hireR T (nI h2w) (nI h10w) = (-4, none) := by unfold hireR; rw [dN_some h2l (by omega), dN_some h10l (by omega)]; dsimp only; rw [if_pos (Or.inr h28)]
               rw [e] at k1
               exact k1 D (fun _ _ => rfl) hI)
        · refine ⟨rfl, ?_⟩
          refine x_if_eq (pc' := 34) rfl rfl (fun _ => ?_) (fun c31 => absurd (by decide) c31)
          refine x_aload (pc' := 38) rfl rfl rfl ?_
          refine x_iload (pc' := 39) rfl rfl rfl ?_
          refine x_callV (pc' := 42) (d1 := 2) (Bs := [_]) rfl rfl rfl rfl rfl rfl rfl (Nat.le_of_ble_eq_true rfl) ⟨rfl, rfl⟩ (by decide) rfl (by decide) ?_
          refine w_X10_under hW hR (by assumption) ?_
          refine ⟨rfl, ?_⟩
          refine x_iload (pc' := 43) rfl rfl rfl ?_
          refine x_ic_ne (pc' := 46) rfl rfl (fun c43 => ?_) (fun c43 => ?_)
          · refine x_aload (pc' := 50) rfl rfl rfl ?_
            refine x_iload (pc' := 51) rfl rfl rfl ?_
            refine x_int (pc' := 52) (v := nI 0) rfl rfl rfl ?_
            refine x_callV (pc' := 55) (d1 := 1) (Bs := [_, _]) rfl rfl rfl rfl rfl rfl rfl (Nat.le_of_ble_eq_true rfl) ⟨rfl, rfl⟩ (by decide) rfl (by decide) ?_
            refine w_X10_of (by omega) (by omega) ?_
            refine ⟨rfl, ?_⟩
            refine x_top ((hR.rpu h10l).trans (hW.epu h10l)) ?_
            refine x_aload (pc' := 56) rfl rfl rfl ?_
            refine x_iload (pc' := 57) rfl rfl rfl ?_
            refine x_int (pc' := 58) (v := nI 0) rfl rfl rfl ?_
            refine x_callV (pc' := 61) (d1 := 1) (Bs := [_, _]) rfl rfl rfl rfl rfl rfl rfl (Nat.le_of_ble_eq_true rfl) ⟨rfl, rfl⟩ (by decide) rfl (by decide) ?_
            refine w_X10_of (by omega) (by omega) ?_
            refine ⟨rfl, ?_⟩
            refine x_top ((hR.rpu h2l).trans (hW.epu h2l)) ?_
            refine y_ic_lt (pc' := 64) rfl rfl (by first | omega | (have := hW.pul h2l; have := hW.pul h10l; omega)) (by first | omega | (have := hW.pul h2l; have := hW.pul h10l; omega)) (fun c61 => ?_) (fun c61 => ?_)
            · refine x_aload (pc' := 68) rfl rfl rfl ?_
              refine x_callV (pc' := 71) (d1 := 2) (Bs := []) rfl rfl rfl rfl rfl rfl rfl (Nat.le_of_ble_eq_true rfl) ⟨rfl, rfl⟩ (by decide) rfl (by decide) ?_
              refine w_X10_keepsPast hW hR hI.2.1 hG.2.1 (fun D1 f1 g1 hH1 => ?_)
              refine ⟨rfl, ?_⟩
              refine x_aload (pc' := 72) rfl rfl rfl ?_
              refine x_iload (pc' := 73) rfl rfl rfl ?_
              refine x_int (pc' := 74) (v := nI 4) rfl rfl rfl ?_
              refine x_iload (pc' := 75) rfl rfl rfl ?_
              refine x_callV (pc' := 78) (d1 := 1) (Bs := [_, _, _]) rfl rfl rfl rfl rfl rfl rfl (Nat.le_of_ble_eq_true rfl) ⟨rfl, rfl⟩ (by decide) rfl (by decide) ?_
              refine w_X10_puts_ (by omega) (by decide) ?_
              refine ⟨rfl, ?_⟩
              have hR2 : Rn (bh_up2 T 5 h2w (nI h10w)) ((bh_up2 D1 206 (4 + 10 * h2w + 4) (nI h10w)) 206) := by rw [bh_up2_k, f1 206 (by decide)]; exact rn_up5 hW hR h2l _
              have hW2 : WF (bh_up2 T 5 h2w (nI h10w)) := wf_un hW h2l (Or.inr ⟨is_nI h10l (by omega), by rw [nI_clamp (by omega)]; exact c61⟩)
              refine x_aload (pc' := 79) rfl rfl rfl ?_
              refine x_iload (pc' := 80) rfl rfl rfl ?_
              refine x_callV (pc' := 83) (d1 := 3) (Bs := [_]) rfl rfl rfl rfl rfl rfl rfl (Nat.le_of_ble_eq_true rfl) ⟨rfl, rfl⟩ (by decide) rfl (by decide) ?_
              refine w_X10_hands (D := bh_up2 D1 206 (4 + 10 * h2w + 4) (nI h10w)) hW2 hR2 h2l (fun D3 o3 h3 => ?_)
              refine ⟨rfl, ?_⟩
              refine x_iret rfl rfl ?_
              have e : hireR T (nI h2w) (nI h10w) = (nI (ch (bh_up2 T 5 h2w (nI h10w)) h2w).length, some (bh_up2 T 5 h2w (nI h10w))) := by unfold hireR; rw [dN_some h2l (by omega), dN_some h10l (by omega)]; dsimp only; rw [if_neg (nd2 h20 h28)]; exact (if_neg c43).trans (if_neg (by omega))
              rw [e] at k1
              refine k1 D3 (fun k hk => ?_) (invM_rem hI f1 g1 hH1 (fun k h1 h2 h3 => by rw [o3 k (fun q => by rw [List.mem_singleton] at q; omega), bh_up2_ne _ _ _ h1]) (fun j hj => by rw [o3 205 (by decide)]; rfl) (by rw [o3 206 (by decide)]; exact hR2))
              rw [o3 k (fun q => by rw [List.mem_singleton] at q; omega), bh_up2_ne _ _ _ (by omega), f1 k (fun q => by simp at q; omega)]
            · refine x_int (pc' := 66) (v := (-3)) rfl rfl rfl ?_
              refine x_iret rfl rfl ?_
              have e : hireR T (nI h2w) (nI h10w) = (-3, none) := by unfold hireR; rw [dN_some h2l (by omega), dN_some h10l (by omega)]; dsimp only; rw [if_neg (nd2 h20 h28)]; exact (if_neg c43).trans (if_pos c61)
              rw [e] at k1
              exact k1 D (fun _ _ => rfl) hI
          · refine x_int (pc' := 48) (v := (-2)) rfl rfl rfl ?_
            refine x_iret rfl rfl ?_
            have e : hireR T (nI h2w) (nI h10w) = (-2, none) := by unfold hireR; rw [dN_some h2l (by omega), dN_some h10l (by omega)]; dsimp only; rw [if_neg (nd2 h20 h28)]; exact if_pos c43
            rw [e] at k1
            exact k1 D (fun _ _ => rfl) hI
    · refine ⟨rfl, ?_⟩
      refine x_if_ne (pc' := 16) rfl rfl (fun c13 => absurd (by decide) c13) (fun _ => ?_)
      refine x_int (pc' := 17) (v := (-1)) rfl rfl rfl ?_
      refine x_iret rfl rfl ?_
      first
        | (have e : hireR T x y = (-1, none) := by unfold hireR; rw [dN_none (by omega) h2]
           rw [e] at k1
           exact k1 D (fun _ _ => rfl) hI)
        | (have e : hireR T (nI h2w) y = (-1, none) := by unfold hireR; rw [dN_some h2l (by omega), dN_none (by omega) h10]
           rw [e] at k1
           exact k1 D (fun _ _ => rfl) hI)
  · refine ⟨rfl, ?_⟩
    refine x_if_eq (pc' := 8) rfl rfl (fun _ => ?_) (fun c5 => absurd (by decide) c5)
    refine x_int (pc' := 17) (v := (-1)) rfl rfl rfl ?_
    refine x_iret rfl rfl ?_
    first
      | (have e : hireR T x y = (-1, none) := by unfold hireR; rw [dN_none (by omega) h2]
         rw [e] at k1
         exact k1 D (fun _ _ => rfl) hI)
      | (have e : hireR T (nI h2w) y = (-1, none) := by unfold hireR; rw [dN_some h2l (by omega), dN_none (by omega) h10]
         rw [e] at k1
         exact k1 D (fun _ _ => rfl) hI)
end
section
/-! ===== acts: sack, blame, see, forget ===== -/
theorem actC {D D1 D2 : Nat → Nat → Int32} {L : Nat → Nat → Int64} {Q : bh_Q} {ps : List TW} {sh : Nat → Option TW} {tp : List Nat} {R : Int32 × Option TW} {v : Int32} {T2 : TW} (hI : InvC D ps sh tp) (f1 : FrC D D1) (g1 : D1 0 15 = D 0 15) (hH1 : HC D1 ((tv D :: ps).take 10)) (k1 : ∀ D1, (∀ k, 205 ≤ k → D1 k = D k) → tv D1 = nxT (tv D) R.2 → InvC D1 (nxP (tv D) ps R.2) sh tp → Q (some (.int R.1)) (hp D1 L)) (e : R = (v, some T2)) (h0 : D2 0 = D1 0) (h1 : ∀ k, 14 ≤ k → (k < 31 ∨ 49 ≤ k) → D2 k = D1 k) (ht : tv D2 = T2) : Q (some (.int v)) (hp D2 L) := by
  subst e
  exact k1 D2 (fun k hk => by rw [h1 k (by omega) (by omega), f1 k (by omega) (by omega)]) ht (invC_off (invC_rem hI f1 g1 hH1) h0 (fun k a b _ => h1 k (by omega) b))
theorem actM {D D1 D2 : Nat → Nat → Int32} {L : Nat → Nat → Int64} {Q : bh_Q} {T T2 : TW} {ps : List TW} {sh : Nat → Option TW} {tp : List Nat} {R : Int32 × Option TW} {v : Int32} (hI : InvM D T ps sh tp) (f1 : OffL [205, 208] D D1) (g1 : ∀ j, j ≠ 5 → D1 205 j = D 205 j) (hH : HM D1 ((T :: ps).take 10)) (k1 : ∀ D1, (∀ k, (k < 205 ∨ 228 ≤ k) → D1 k = D k) → InvM D1 (nxT T R.2) (nxP T ps R.2) sh tp → Q (some (.int R.1)) (hp D1 L)) (e : R = (v, some T2)) (o2 : ∀ k, k ≠ 206 → k ≠ 205 → (k < 212 ∨ 228 ≤ k) → D2 k = D1 k) (o3 : ∀ j, j < 8 → D2 205 j = D1 205 j) (hR : Rn T2 (D2 206)) : Q (some (.int v)) (hp D2 L) := by
  subst e
  exact k1 D2 (fun k hk => by rw [o2 k (by omega) (by omega) (by omega), f1 k (fun q => by simp at q; omega)]) (invM_rem hI f1 g1 hH (fun k a b c => o2 k a b (Or.inl c)) o3 hR)
theorem good_nx {T : TW} {ps : List TW} {sh : Nat → Option TW} {n : Option TW} (hG : Good T ps sh) (h : ∀ T', n = some T' → WF T') : Good (nxT T n) (nxP T ps n) sh := by
  cases n with
  | none => exact hG
  | some T' => exact ⟨h T' rfl, gp_next hG.1 hG.2.1, hG.2.2⟩
theorem kc {c : Prop} {Q : Prop} (h : c) (k : c → Q) : Q := k h
theorem dN_lt {n j : Nat} {x : Int32} (hn : n < 2 ^ 31) (h : dN n x = some j) : j < n ∧ x = nI j := by
  unfold dN at h
  split at h
  next hq =>
    obtain ⟨i, hi, hx⟩ := vp_in_of (vp_in_iff.mpr hq) hn
    cases h
    rw [hx, nI_clamp (by omega)]
    exact ⟨hi, rfl⟩
  next => cases h
theorem hire_good {T : TW} {ps : List TW} {sh : Nat → Option TW} (x y : Int32) (hG : Good T ps sh) : Good (nxT T (hireR T x y).2) (nxP T ps (hireR T x y).2) sh := by
  refine good_nx hG (fun T' h => ?_)
  have h12 := hG.1.nwl
  unfold hireR at h
  split at h
  next w u hw hu =>
    obtain ⟨lw, ex⟩ := dN_lt (by omega) hw
    obtain ⟨lu, ey⟩ := dN_lt (by omega) hu
    split at h
    · cases h
    split at h
    · cases h
    split at h
    · cases h
    · cases h
      exact wf_un hG.1 lw (Or.inr ⟨is_nI lu (by omega), by rw [nI_clamp (by omega)]; omega⟩)
  next => cases h
theorem sack_good {T : TW} {ps : List TW} {sh : Nat → Option TW} (x : Int32) (hG : Good T ps sh) : Good (nxT T (sackR T x).2) (nxP T ps (sackR T x).2) sh := by
  refine good_nx hG (fun T' h => ?_)
  have h12 := hG.1.nwl
  unfold sackR at h
  split at h
  next w hw =>
    obtain ⟨lw, ex⟩ := dN_lt (by omega) hw
    split at h
    · cases h
    split at h
    · cases h
    · cases h
      exact wf_un hG.1 lw (Or.inl rfl)
  next => cases h
theorem blame_good {T : TW} {ps : List TW} {sh : Nat → Option TW} (x y : Int32) (hG : Good T ps sh) : Good (nxT T (blameR T x y).2) (nxP T ps (blameR T x y).2) sh := by
  refine good_nx hG (fun T' h => ?_)
  unfold blameR at h
  split at h
  · cases h
    exact wf_67 hG.1 (Or.inl rfl) _
  next => cases h
theorem see_wf {T : TW} (hW : WF T) {j n : Nat} (hj : j < 65536) (hn : ns T = n) (h16 : n ≠ 16) : WF (bh_up2 (bh_up2 T 12 n (nI j)) 0 2 (nI (n + 1))) := by
  have h1 := hW.nsl
  refine ⟨⟨hW.1.1, hW.1.2.1, is_nI (by omega) (by decide), hW.1.2.2.2.1, hW.1.2.2.2.2⟩, hW.2.1, hW.2.2.1, hW.2.2.2.1, fun i hi => ?_⟩
  have hi2 : i < (nI (n + 1)).toNatClampNeg := hi
  rw [nI_clamp (by omega)] at hi2
  show is (bh_up2 (bh_up2 T 12 n (nI j)) 0 2 (nI (n + 1)) 12 i) 65536
  rw [bh_up2_ne _ _ _ (by decide), bh_up2_k]
  dsimp only
  by_cases e : i = n
  · rw [if_pos e]; exact is_nI hj (by decide)
  · rw [if_neg e]; exact hW.2.2.2.2 i (by omega)
theorem see_good {T : TW} {ps : List TW} {sh : Nat → Option TW} (x : Int32) (hG : Good T ps sh) : Good (nxT T (seeR T x).2) (nxP T ps (seeR T x).2) sh := by
  refine good_nx hG (fun T' h => ?_)
  unfold seeR at h
  split at h
  next j hj =>
    obtain ⟨lj, ex⟩ := dN_lt (by decide) hj
    split at h
    · cases h
    next h16 =>
      cases h
      rw [ex]
      exact see_wf hG.1 lj rfl h16
  next => cases h
theorem forget_wf {T : TW} (hW : WF T) : WF (bh_up2 T 0 2 (nI 0)) := by
  refine ⟨⟨hW.1.1, hW.1.2.1, is_nI (by decide) (by decide), hW.1.2.2.2.1, hW.1.2.2.2.2⟩, hW.2.1, hW.2.2.1, hW.2.2.2.1, fun i hi => absurd hi ?_⟩
  show ¬ i < (nI 0).toNatClampNeg
  rw [nI_clamp (by decide)]
  omega
theorem forget_good {T : TW} {ps : List TW} {sh : Nat → Option TW} (hG : Good T ps sh) : Good (nxT T (forgetR T).2) (nxP T ps (forgetR T).2) sh := by
  refine good_nx hG (fun T' h => ?_)
  unfold forgetR at h
  split at h
  · cases h
  · cases h
    exact forget_wf hG.1
theorem rn_see {T : TW} {N : Nat → Int32} (hW : WF T) (hR : Rn T N) {j n : Nat} (hn : ns T = n) (h16 : n ≠ 16) : Rn (bh_up2 (bh_up2 T 12 n (nI j)) 0 2 (nI (n + 1))) (fun k => if k = 2 then nI (n + 1) else if k = 544 + n then nI j else N k) := by
  have h1 := hW.nsl
  have h12 := hW.nwl
  have h4 := hW.nbl
  have X : ∀ k, k ≠ 2 → k ≠ 544 + n → (if k = 2 then nI (n + 1) else if k = 544 + n then nI j else N k) = N k := fun k a b => by rw [if_neg a, if_neg b]
  refine ⟨⟨(X 0 (by decide) (by omega)).trans hR.1.1, (X 1 (by decide) (by omega)).trans hR.1.2.1, if_pos rfl, (X 3 (by decide) (by omega)).trans hR.1.2.2.2⟩, fun w hw => ?_, fun b hb => ⟨(X _ (by omega) (by have : b < nb T := hb; omega)).trans (hR.2.2.1 b hb).1, fun q hq => (X _ (by omega) (by have : b < nb T := hb; have : q < lng T b := hq; have := hW.lngl hb; omega)).trans ((hR.2.2.1 b hb).2 q hq)⟩, fun w b q hw hb hq hs => (X _ (by omega) (by have : b < nb T := hb; have : w < nw T := hw; have : q < lng T b := hq; have := hW.lngl hb; omega)).trans (hR.2.2.2.1 w b q hw hb hq hs), fun i hi => ?_⟩
  · have h := hR.2.1 w hw
    have hw3 : w < nw T := hw
    refine ⟨(X _ (by omega) (by omega)).trans h.1, (X _ (by omega) (by omega)).trans h.2.1, fun hk => (X _ (by omega) (by omega)).trans (h.2.2.1 hk), fun hk => (X _ (by omega) (by omega)).trans (h.2.2.2.1 hk), (X _ (by omega) (by omega)).trans h.2.2.2.2.1, (X _ (by omega) (by omega)).trans h.2.2.2.2.2.1, (X _ (by omega) (by omega)).trans h.2.2.2.2.2.2.1, (X _ (by omega) (by omega)).trans h.2.2.2.2.2.2.2.1, (X _ (by omega) (by omega)).trans h.2.2.2.2.2.2.2.2.1, (X _ (by omega) (by omega)).trans h.2.2.2.2.2.2.2.2.2⟩
  · have hi2 : i < (nI (n + 1)).toNatClampNeg := hi
    rw [nI_clamp (by omega)] at hi2
    show (if 544 + i = 2 then nI (n + 1) else if 544 + i = 544 + n then nI j else N (544 + i)) = bh_up2 (bh_up2 T 12 n (nI j)) 0 2 (nI (n + 1)) 12 i
    rw [bh_up2_ne _ _ _ (by decide), bh_up2_k]
    dsimp only
    rw [if_neg (by omega)]
    by_cases e : i = n
    · rw [if_pos (by omega), if_pos e]
    · rw [if_neg (by omega), if_neg e]
      exact hR.2.2.2.2 i (by omega)
theorem rn_forget {T : TW} {N : Nat → Int32} (hR : Rn T N) : Rn (bh_up2 T 0 2 (nI 0)) (fun k => if k = 2 then nI 0 else N k) := by
  have X : ∀ k, k ≠ 2 → (if k = 2 then nI 0 else N k) = N k := fun k a => if_neg a
  refine ⟨⟨(X 0 (by decide)).trans hR.1.1, (X 1 (by decide)).trans hR.1.2.1, if_pos rfl, (X 3 (by decide)).trans hR.1.2.2.2⟩, fun w hw => ?_, fun b hb => ⟨(X _ (by omega)).trans (hR.2.2.1 b hb).1, fun q hq => (X _ (by omega)).trans ((hR.2.2.1 b hb).2 q hq)⟩, fun w b q hw hb hq hs => (X _ (by omega)).trans (hR.2.2.2.1 w b q hw hb hq hs), fun i hi => absurd hi ?_⟩
  · have h := hR.2.1 w hw
    refine ⟨(X _ (by omega)).trans h.1, (X _ (by omega)).trans h.2.1, fun hk => (X _ (by omega)).trans (h.2.2.1 hk), fun hk => (X _ (by omega)).trans (h.2.2.2.1 hk), (X _ (by omega)).trans h.2.2.2.2.1, (X _ (by omega)).trans h.2.2.2.2.2.1, (X _ (by omega)).trans h.2.2.2.2.2.2.1, (X _ (by omega)).trans h.2.2.2.2.2.2.2.1, (X _ (by omega)).trans h.2.2.2.2.2.2.2.2.1, (X _ (by omega)).trans h.2.2.2.2.2.2.2.2.2⟩
  · show ¬ i < (nI 0).toNatClampNeg
    rw [nI_clamp (by decide)]
    omega
set_option maxRecDepth 20000 in
set_option maxHeartbeats 1000000 in
theorem w_X9_sack {D : Nat → Nat → Int32} {L : Nat → Nat → Int64} {Q : bh_Q} {ps : List TW} {sh : Nat → Option TW} {tp : List Nat} (hI : InvC D ps sh tp) (hG : Good (tv D) ps sh) {x : Int32} (k1 : ∀ D1, (∀ k, 205 ≤ k → D1 k = D k) → tv D1 = nxT (tv D) (sackR (tv D) x).2 → InvC D1 (nxP (tv D) ps (sackR (tv D) x).2) sh tp → Q (some (.int (sackR (tv D) x).1)) (hp D1 L)) : bh_wc 4 m_X9_sack [.ref 0, .int x] (hp D L) Q := by
  refine x_start (lv0 := [_, _, _]) (Nat.le_of_ble_eq_true rfl) rfl ?_
  have hW := hG.1
  have h12 := hW.nwl
  have hH := hI.1
  refine x_aload (pc' := 1) rfl rfl rfl ?_
  refine x_getR (pc' := 4) rfl rfl rfl (by decide) rfl (by decide) rfl rfl ?_
  refine x_iload (pc' := 5) rfl rfl rfl ?_
  refine x_callV (pc' := 8) (d1 := 1) (Bs := [_]) rfl rfl rfl rfl rfl rfl rfl (Nat.le_of_ble_eq_true rfl) ⟨rfl, rfl⟩ (by decide) rfl (by decide) ?_
  refine w_X7_isWriter hW (fun h5w h5l e => ?_) (fun h5 => ?_)
  · subst e
    refine ⟨rfl, ?_⟩
    refine x_if_ne (pc' := 11) rfl rfl (fun _ => ?_) (fun c8 => absurd c8 (by decide))
    refine x_aload (pc' := 14) rfl rfl rfl ?_
    refine x_getR (pc' := 17) rfl rfl rfl (by decide) rfl (by decide) rfl rfl ?_
    refine x_iload (pc' := 18) rfl rfl rfl ?_
    refine x_callV (pc' := 21) (d1 := 1) (Bs := [_]) rfl rfl rfl rfl rfl rfl rfl (Nat.le_of_ble_eq_true rfl) ⟨rfl, rfl⟩ (by decide) rfl (by decide) ?_
    refine w_X7_isDead hW (by assumption) (fun h18 => ?_) (fun h18 => ?_)
    · refine ⟨rfl, ?_⟩
      refine x_if_eq (pc' := 24) rfl rfl (fun c21 => absurd c21 (by decide)) (fun _ => ?_)
      refine x_int (pc' := 26) (v := (-4)) rfl rfl rfl ?_
      refine x_iret rfl rfl ?_
      have e : sackR (tv D) (nI h5w) = (-4, none) := by unfold sackR; rw [dN_some h5l (by omega)]; exact if_pos h18
      rw [e] at k1
      exact k1 D (fun _ _ => rfl) rfl hI
    · refine ⟨rfl, ?_⟩
      refine x_if_eq (pc' := 24) rfl rfl (fun _ => ?_) (fun c21 => absurd (by decide) c21)
      refine x_aload (pc' := 28) rfl rfl rfl ?_
      refine x_getR (pc' := 31) rfl rfl rfl (by decide) rfl (by decide) rfl rfl ?_
      refine x_getR (pc' := 34) rfl rfl rfl (by decide) rfl (by decide) rfl rfl ?_
      refine x_iload (pc' := 35) rfl rfl rfl ?_
      refine x_iald (pc' := 36) rfl rfl (by decide) rfl (by decide) (show _ < 12 by omega) ?_
      refine x_istore (pc' := 37) (lv' := [_, _, _]) rfl rfl (by decide) rfl ?_
      refine x_iload (pc' := 38) rfl rfl rfl ?_
      refine x_int (pc' := 39) (v := (-1)) rfl rfl rfl ?_
      refine x_ic_ne (pc' := 42) rfl rfl (fun c39 => ?_) (fun c39 => ?_)
      · refine x_aload (pc' := 46) rfl rfl rfl ?_
        refine x_callV (pc' := 49) (d1 := 3) (Bs := []) rfl rfl rfl rfl rfl rfl rfl (Nat.le_of_ble_eq_true rfl) ⟨rfl, rfl⟩ (by decide) rfl (by decide) ?_
        refine w_X9_remember hH (fun D1 f1 g1 hH1 => ?_)
        refine ⟨rfl, ?_⟩
        refine x_aload (pc' := 50) rfl rfl rfl ?_
        refine x_getR (pc' := 53) rfl rfl rfl (by decide) rfl (by decide) rfl rfl ?_
        refine x_getR (pc' := 56) rfl rfl rfl (by decide) rfl (by decide) rfl rfl ?_
        refine x_iload (pc' := 57) rfl rfl rfl ?_
        refine x_int (pc' := 58) (v := (-1)) rfl rfl rfl ?_
        refine x_iast (pc' := 59) rfl rfl (by decide) rfl (by decide) (show _ < 12 by omega) ?_
        refine x_iload (pc' := 60) rfl rfl rfl ?_
        refine x_iret rfl rfl ?_
        have e : sackR (tv D) (nI h5w) = (tv D 5 h5w, some (bh_up2 (tv D) 5 h5w (-1))) := by unfold sackR; rw [dN_some h5l (by omega)]; dsimp only; rw [if_neg (by rw [h18]; decide)]; exact if_neg c39
        refine actC hI f1 g1 hH1 k1 e rfl (fun k a b => ?_) ?_
        · rw [bh_up2_ne _ _ _ (by omega)]
        · rw [tv_up (j := 5) rfl (by decide), frc_tv f1]
      · refine x_int (pc' := 44) (v := (-2)) rfl rfl rfl ?_
        refine x_iret rfl rfl ?_
        have e : sackR (tv D) (nI h5w) = (-2, none) := by unfold sackR; rw [dN_some h5l (by omega)]; dsimp only; rw [if_neg (by rw [h18]; decide)]; exact if_pos c39
        rw [e] at k1
        exact k1 D (fun _ _ => rfl) rfl hI
  · refine ⟨rfl, ?_⟩
    refine x_if_ne (pc' := 11) rfl rfl (fun c8 => absurd (by decide) c8) (fun _ => ?_)
    refine x_int (pc' := 12) (v := (-1)) rfl rfl rfl ?_
    refine x_iret rfl rfl ?_
    have e : sackR (tv D) x = (-1, none) := by unfold sackR; rw [dN_none (by omega) h5]
    rw [e] at k1
    exact k1 D (fun _ _ => rfl) rfl hI
set_option maxRecDepth 20000 in
set_option maxHeartbeats 1000000 in
theorem w_X10_sack {D : Nat → Nat → Int32} {L : Nat → Nat → Int64} {Q : bh_Q} {T : TW} {ps : List TW} {sh : Nat → Option TW} {tp : List Nat} (hI : InvM D T ps sh tp) (hG : Good T ps sh) {x : Int32} (k1 : ∀ D1, (∀ k, (k < 205 ∨ 228 ≤ k) → D1 k = D k) → InvM D1 (nxT T (sackR T x).2) (nxP T ps (sackR T x).2) sh tp → Q (some (.int (sackR T x).1)) (hp D1 L)) : bh_wc 3 m_X10_sack [.ref 205, .int x] (hp D L) Q := by
  refine x_start (lv0 := [_, _, _]) (Nat.le_of_ble_eq_true rfl) rfl ?_
  have hW := hG.1
  have h12x := hW.nwl
  have hR := hI.1
  refine x_aload (pc' := 1) rfl rfl rfl ?_
  refine x_iload (pc' := 2) rfl rfl rfl ?_
  refine x_callV (pc' := 5) (d1 := 2) (Bs := [_]) rfl rfl rfl rfl rfl rfl rfl (Nat.le_of_ble_eq_true rfl) ⟨rfl, rfl⟩ (by decide) rfl (by decide) ?_
  refine w_X10_isWriter hW hR (fun h2w h2l e => ?_) (fun h2 => ?_)
  · subst e
    refine ⟨rfl, ?_⟩
    refine x_if_ne (pc' := 8) rfl rfl (fun _ => ?_) (fun c5 => absurd c5 (by decide))
    refine x_aload (pc' := 11) rfl rfl rfl ?_
    refine x_iload (pc' := 12) rfl rfl rfl ?_
    refine x_callV (pc' := 15) (d1 := 2) (Bs := [_]) rfl rfl rfl rfl rfl rfl rfl (Nat.le_of_ble_eq_true rfl) ⟨rfl, rfl⟩ (by decide) rfl (by decide) ?_
    refine w_X10_isDead hW hR (by assumption) (fun h12 => ?_) (fun h12 => ?_)
    · refine ⟨rfl, ?_⟩
      refine x_if_eq (pc' := 18) rfl rfl (fun c15 => absurd c15 (by decide)) (fun _ => ?_)
      refine x_int (pc' := 20) (v := (-4)) rfl rfl rfl ?_
      refine x_iret rfl rfl ?_
      have e : sackR T (nI h2w) = (-4, none) := by unfold sackR; rw [dN_some h2l (by omega)]; exact if_pos h12
      rw [e] at k1
      exact k1 D (fun _ _ => rfl) hI
    · refine ⟨rfl, ?_⟩
      refine x_if_eq (pc' := 18) rfl rfl (fun _ => ?_) (fun c15 => absurd (by decide) c15)
      refine x_aload (pc' := 22) rfl rfl rfl ?_
      refine x_iload (pc' := 23) rfl rfl rfl ?_
      refine x_callV (pc' := 26) (d1 := 2) (Bs := [_]) rfl rfl rfl rfl rfl rfl rfl (Nat.le_of_ble_eq_true rfl) ⟨rfl, rfl⟩ (by decide) rfl (by decide) ?_
      refine w_X10_under hW hR h2l ?_
      refine ⟨rfl, ?_⟩
      refine x_int (pc' := 27) (v := (-1)) rfl rfl rfl ?_
      refine x_ic_ne (pc' := 30) rfl rfl (fun c27 => ?_) (fun c27 => ?_)
      · refine x_aload (pc' := 34) rfl rfl rfl ?_
        refine x_callV (pc' := 37) (d1 := 2) (Bs := []) rfl rfl rfl rfl rfl rfl rfl (Nat.le_of_ble_eq_true rfl) ⟨rfl, rfl⟩ (by decide) rfl (by decide) ?_
        refine w_X10_keepsPast hW hR hI.2.1 hG.2.1 (fun D1 f1 g1 hH1 => ?_)
        refine ⟨rfl, ?_⟩
        have hR1 : Rn T (D1 206) := by rw [f1 206 (by decide)]; exact hR
        refine x_aload (pc' := 38) rfl rfl rfl ?_
        refine x_iload (pc' := 39) rfl rfl rfl ?_
        refine x_callV (pc' := 42) (d1 := 2) (Bs := [_]) rfl rfl rfl rfl rfl rfl rfl (Nat.le_of_ble_eq_true rfl) ⟨rfl, rfl⟩ (by decide) rfl (by decide) ?_
        refine w_X10_under (D := D1) hW hR1 h2l ?_
        refine ⟨rfl, ?_⟩
        refine x_istore (pc' := 43) (lv' := [_, _, _]) rfl rfl (by decide) rfl ?_
        refine x_aload (pc' := 44) rfl rfl rfl ?_
        refine x_iload (pc' := 45) rfl rfl rfl ?_
        refine x_int (pc' := 46) (v := nI 4) rfl rfl rfl ?_
        refine x_int (pc' := 47) (v := (-1)) rfl rfl rfl ?_
        refine x_callV (pc' := 50) (d1 := 1) (Bs := [_, _, _]) rfl rfl rfl rfl rfl rfl rfl (Nat.le_of_ble_eq_true rfl) ⟨rfl, rfl⟩ (by decide) rfl (by decide) ?_
        refine w_X10_puts_ (by omega) (by decide) ?_
        refine ⟨rfl, ?_⟩
        refine x_iload (pc' := 51) rfl rfl rfl ?_
        refine x_iret rfl rfl ?_
        have e : sackR T (nI h2w) = (T 5 h2w, some (bh_up2 T 5 h2w (-1))) := by unfold sackR; rw [dN_some h2l (by omega)]; dsimp only; rw [if_neg (by rw [h12]; decide)]; exact if_neg c27
        refine actM hI f1 g1 hH1 k1 e (fun k a b c => ?_) (fun j hj => rfl) ?_
        · rw [bh_up2_ne _ _ _ a]
        · rw [bh_up2_k]; exact rn_up5 hW hR1 h2l _
      · refine x_int (pc' := 32) (v := (-2)) rfl rfl rfl ?_
        refine x_iret rfl rfl ?_
        have e : sackR T (nI h2w) = (-2, none) := by unfold sackR; rw [dN_some h2l (by omega)]; dsimp only; rw [if_neg (by rw [h12]; decide)]; exact if_pos c27
        rw [e] at k1
        exact k1 D (fun _ _ => rfl) hI
  · refine ⟨rfl, ?_⟩
    refine x_if_ne (pc' := 8) rfl rfl (fun c5 => absurd (by decide) c5) (fun _ => ?_)
    refine x_int (pc' := 9) (v := (-1)) rfl rfl rfl ?_
    refine x_iret rfl rfl ?_
    have e : sackR T x = (-1, none) := by unfold sackR; rw [dN_none (by omega) h2]
    rw [e] at k1
    exact k1 D (fun _ _ => rfl) hI
set_option maxRecDepth 20000 in
set_option maxHeartbeats 1000000 in
theorem w_X9_blame {D : Nat → Nat → Int32} {L : Nat → Nat → Int64} {Q : bh_Q} {ps : List TW} {sh : Nat → Option TW} {tp : List Nat} (hI : InvC D ps sh tp) (hG : Good (tv D) ps sh) {x y : Int32} (k1 : ∀ D1, (∀ k, 205 ≤ k → D1 k = D k) → tv D1 = nxT (tv D) (blameR (tv D) x y).2 → InvC D1 (nxP (tv D) ps (blameR (tv D) x y).2) sh tp → Q (some (.int (blameR (tv D) x y).1)) (hp D1 L)) : bh_wc 4 m_X9_blame [.ref 0, .int x, .int y] (hp D L) Q := by
  refine x_start (lv0 := [_, _, _]) (Nat.le_of_ble_eq_true rfl) rfl ?_
  have hW := hG.1
  have h12 := hW.nwl
  have hH := hI.1
  refine x_aload (pc' := 1) rfl rfl rfl ?_
  refine x_getR (pc' := 4) rfl rfl rfl (by decide) rfl (by decide) rfl rfl ?_
  refine x_iload (pc' := 5) rfl rfl rfl ?_
  refine x_callV (pc' := 8) (d1 := 1) (Bs := [_]) rfl rfl rfl rfl rfl rfl rfl (Nat.le_of_ble_eq_true rfl) ⟨rfl, rfl⟩ (by decide) rfl (by decide) ?_
  refine w_X7_isWriter hW (fun h5w h5l e => ?_) (fun h5 => ?_)
  · subst e
    refine ⟨rfl, ?_⟩
    refine x_if_eq (pc' := 11) rfl rfl (fun c8 => absurd c8 (by decide)) (fun _ => ?_)
    refine x_iload (pc' := 12) rfl rfl rfl ?_
    refine x_callS (pc' := 15) (d1 := 1) (As := [_]) rfl rfl rfl rfl (by decide) rfl rfl (Nat.le_of_ble_eq_true rfl) ⟨rfl, rfl⟩ (by decide) ?_
    refine w_X9_isGift (fun h12w h12a h12l h12e => ?_) (fun h12 => ?_)
    · subst h12e
      refine ⟨rfl, ?_⟩
      refine x_if_ne (pc' := 18) rfl rfl (fun _ => ?_) (fun c15 => absurd c15 (by decide))
      refine x_aload (pc' := 21) rfl rfl rfl ?_
      refine x_callV (pc' := 24) (d1 := 3) (Bs := []) rfl rfl rfl rfl rfl rfl rfl (Nat.le_of_ble_eq_true rfl) ⟨rfl, rfl⟩ (by decide) rfl (by decide) ?_
      refine w_X9_remember hH (fun D1 f1 g1 hH1 => ?_)
      refine ⟨rfl, ?_⟩
      refine x_aload (pc' := 25) rfl rfl rfl ?_
      refine x_getR (pc' := 28) rfl rfl rfl (by decide) rfl (by decide) rfl rfl ?_
      refine x_getR (pc' := 31) rfl rfl rfl (by decide) rfl (by decide) rfl rfl ?_
      refine x_iload (pc' := 32) rfl rfl rfl ?_
      refine x_dup2 (pc' := 33) rfl rfl rfl rfl ?_
      refine x_iald (pc' := 34) rfl rfl (by decide) rfl (by decide) (show _ < 12 by omega) ?_
      refine x_iload (pc' := 35) rfl rfl rfl ?_
      refine x_isub (pc' := 36) rfl rfl ?_
      refine x_iast (pc' := 37) rfl rfl (by decide) rfl (by decide) (show _ < 12 by omega) ?_
      refine x_aload (pc' := 38) rfl rfl rfl ?_
      refine x_getR (pc' := 41) rfl rfl rfl (by decide) rfl (by decide) rfl rfl ?_
      refine x_getR (pc' := 44) rfl rfl rfl (by decide) rfl (by decide) rfl rfl ?_
      refine x_iload (pc' := 45) rfl rfl rfl ?_
      refine x_iald (pc' := 46) rfl rfl (by decide) rfl (by decide) (show _ < 12 by omega) ?_
      refine x_iret rfl rfl ?_
      have ev : D1 7 = D 7 := f1 7 (by decide) (by decide)
      have e : blameR (tv D) (nI h5w) (nI h12w) = (tv D 6 h5w - nI h12w, some (bh_up2 (tv D) 6 h5w (tv D 6 h5w - nI h12w))) := by unfold blameR; rw [dN_some h5l (by omega), gift_some h12a h12l]
      rw [ev]
      have e3 : (bh_up2 D1 7 h5w (D 7 h5w - nI h12w)) 7 h5w = tv D 6 h5w - nI h12w := by rw [bh_up2_k]; exact if_pos rfl
      rw [e3]
      refine actC hI f1 g1 hH1 k1 e rfl (fun k a b => ?_) ?_
      · rw [bh_up2_ne _ _ _ (by omega)]
      · rw [tv_up (j := 6) rfl (by decide), frc_tv f1]; rfl
    · refine ⟨rfl, ?_⟩
      refine x_if_ne (pc' := 18) rfl rfl (fun c15 => absurd (by decide) c15) (fun _ => ?_)
      refine x_int (pc' := 19) (v := (-1)) rfl rfl rfl ?_
      refine x_iret rfl rfl ?_
      first
        | (have e : blameR (tv D) x y = (-1, none) := by unfold blameR; rw [dN_none (by omega) h5]
           rw [e] at k1
           exact k1 D (fun _ _ => rfl) rfl hI)
        | (have e : blameR (tv D) (nI h5w) y = (-1, none) := by unfold blameR; rw [dN_some h5l (by omega), gift_none h12]
           rw [e] at k1
           exact k1 D (fun _ _ => rfl) rfl hI)
  · refine ⟨rfl, ?_⟩
    refine x_if_eq (pc' := 11) rfl rfl (fun _ => ?_) (fun c8 => absurd (by decide) c8)
    refine x_int (pc' := 19) (v := (-1)) rfl rfl rfl ?_
    refine x_iret rfl rfl ?_
    first
      | (have e : blameR (tv D) x y = (-1, none) := by unfold blameR; rw [dN_none (by omega) h5]
         rw [e] at k1
         exact k1 D (fun _ _ => rfl) rfl hI)
      | (have e : blameR (tv D) (nI h5w) y = (-1, none) := by unfold blameR; rw [dN_some h5l (by omega), gift_none h12]
         rw [e] at k1
         exact k1 D (fun _ _ => rfl) rfl hI)
set_option maxRecDepth 20000 in
set_option maxHeartbeats 1000000 in
theorem w_X10_blame {D : Nat → Nat → Int32} {L : Nat → Nat → Int64} {Q : bh_Q} {T : TW} {ps : List TW} {sh : Nat → Option TW} {tp : List Nat} (hI : InvM D T ps sh tp) (hG : Good T ps sh) {x y : Int32} (k1 : ∀ D1, (∀ k, (k < 205 ∨ 228 ≤ k) → D1 k = D k) → InvM D1 (nxT T (blameR T x y).2) (nxP T ps (blameR T x y).2) sh tp → Q (some (.int (blameR T x y).1)) (hp D1 L)) : bh_wc 3 m_X10_blame [.ref 205, .int x, .int y] (hp D L) Q := by
  refine x_start (lv0 := [_, _, _]) (Nat.le_of_ble_eq_true rfl) rfl ?_
  have hW := hG.1
  have h12 := hW.nwl
  have hR := hI.1
  refine x_aload (pc' := 1) rfl rfl rfl ?_
  refine x_iload (pc' := 2) rfl rfl rfl ?_
  refine x_callV (pc' := 5) (d1 := 2) (Bs := [_]) rfl rfl rfl rfl rfl rfl rfl (Nat.le_of_ble_eq_true rfl) ⟨rfl, rfl⟩ (by decide) rfl (by decide) ?_
  refine w_X10_isWriter hW hR (fun h2w h2l e => ?_) (fun h2 => ?_)
  · subst e
    refine ⟨rfl, ?_⟩
    refine x_if_eq (pc' := 8) rfl rfl (fun c5 => absurd c5 (by decide)) (fun _ => ?_)
    refine x_iload (pc' := 9) rfl rfl rfl ?_
    refine x_i2l (pc' := 10) rfl rfl ?_
    refine x_long (pc' := 11) (v := (nI 1).toInt64) rfl rfl (by decide) ?_
    refine x_long (pc' := 14) (v := (nI 9999).toInt64) rfl rfl (by decide) ?_
    refine x_callS (pc' := 17) (d1 := 1) (As := [_, _, _]) rfl rfl rfl rfl (by decide) rfl rfl (Nat.le_of_ble_eq_true rfl) ⟨rfl, rfl⟩ (by decide) ?_
    refine w_X10_in (fun h14a h14l => ?_) (fun h14 => ?_)
    · obtain ⟨h14w, h14b, h14c, rfl⟩ := toI_gift h14a h14l
      refine ⟨rfl, ?_⟩
      refine x_if_ne (pc' := 20) rfl rfl (fun _ => ?_) (fun c17 => absurd c17 (by decide))
      refine x_aload (pc' := 23) rfl rfl rfl ?_
      refine x_callV (pc' := 26) (d1 := 2) (Bs := []) rfl rfl rfl rfl rfl rfl rfl (Nat.le_of_ble_eq_true rfl) ⟨rfl, rfl⟩ (by decide) rfl (by decide) ?_
      refine w_X10_keepsPast hW hR hI.2.1 hG.2.1 (fun D1 f1 g1 hH1 => ?_)
      refine ⟨rfl, ?_⟩
      have hR1 : Rn T (D1 206) := by rw [f1 206 (by decide)]; exact hR
      refine x_aload (pc' := 27) rfl rfl rfl ?_
      refine x_iload (pc' := 28) rfl rfl rfl ?_
      refine x_int (pc' := 29) (v := nI 5) rfl rfl rfl ?_
      refine x_aload (pc' := 30) rfl rfl rfl ?_
      refine x_iload (pc' := 31) rfl rfl rfl ?_
      refine x_int (pc' := 32) (v := nI 5) rfl rfl rfl ?_
      refine x_callV (pc' := 35) (d1 := 1) (Bs := [_, _]) rfl rfl rfl rfl rfl rfl rfl (Nat.le_of_ble_eq_true rfl) ⟨rfl, rfl⟩ (by decide) rfl (by decide) ?_
      refine w_X10_of (D := D1) (by omega) (by decide) ?_
      refine ⟨rfl, ?_⟩
      refine x_top (hR1.rfame h2l) ?_
      refine x_iload (pc' := 36) rfl rfl rfl ?_
      refine x_isub (pc' := 37) rfl rfl ?_
      refine x_callV (pc' := 40) (d1 := 1) (Bs := [_, _, _]) rfl rfl rfl rfl rfl rfl rfl (Nat.le_of_ble_eq_true rfl) ⟨rfl, rfl⟩ (by decide) rfl (by decide) ?_
      refine w_X10_puts_ (by omega) (by decide) ?_
      refine ⟨rfl, ?_⟩
      refine x_aload (pc' := 41) rfl rfl rfl ?_
      refine x_iload (pc' := 42) rfl rfl rfl ?_
      refine x_int (pc' := 43) (v := nI 5) rfl rfl rfl ?_
      refine x_callV (pc' := 46) (d1 := 1) (Bs := [_, _]) rfl rfl rfl rfl rfl rfl rfl (Nat.le_of_ble_eq_true rfl) ⟨rfl, rfl⟩ (by decide) rfl (by decide) ?_
      refine w_X10_of (by omega) (by decide) ?_
      refine ⟨rfl, ?_⟩
      refine x_iret rfl rfl ?_
      have e : blameR T (nI h2w) (nI h14w) = (T 6 h2w - nI h14w, some (bh_up2 T 6 h2w (T 6 h2w - nI h14w))) := by unfold blameR; rw [dN_some h2l (by omega), gift_some h14b h14c]
      have e3 : (bh_up2 D1 206 (4 + 10 * h2w + 5) (T 6 h2w - nI h14w)) 206 (4 + 10 * h2w + 5) = T 6 h2w - nI h14w := by rw [bh_up2_k]; exact if_pos rfl
      rw [e3]
      refine actM hI f1 g1 hH1 k1 e (fun k a b c => ?_) (fun j hj => rfl) ?_
      · rw [bh_up2_ne _ _ _ a]
      · rw [bh_up2_k]; exact rn_up6 hW hR1 h2l _
    · refine ⟨rfl, ?_⟩
      refine x_if_ne (pc' := 20) rfl rfl (fun c17 => absurd (by decide) c17) (fun _ => ?_)
      refine x_int (pc' := 21) (v := (-1)) rfl rfl rfl ?_
      refine x_iret rfl rfl ?_
      first
        | (have e : blameR T x y = (-1, none) := by unfold blameR; rw [dN_none (by omega) h2]
           rw [e] at k1
           exact k1 D (fun _ _ => rfl) hI)
        | (have e : blameR T (nI h2w) y = (-1, none) := by unfold blameR; rw [dN_some h2l (by omega), gift_none (gift_in h14)]
           rw [e] at k1
           exact k1 D (fun _ _ => rfl) hI)
  · refine ⟨rfl, ?_⟩
    refine x_if_eq (pc' := 8) rfl rfl (fun _ => ?_) (fun c5 => absurd (by decide) c5)
    refine x_int (pc' := 21) (v := (-1)) rfl rfl rfl ?_
    refine x_iret rfl rfl ?_
    first
      | (have e : blameR T x y = (-1, none) := by unfold blameR; rw [dN_none (by omega) h2]
         rw [e] at k1
         exact k1 D (fun _ _ => rfl) hI)
      | (have e : blameR T (nI h2w) y = (-1, none) := by unfold blameR; rw [dN_some h2l (by omega), gift_none (gift_in h14)]
         rw [e] at k1
         exact k1 D (fun _ _ => rfl) hI)
set_option maxRecDepth 20000 in
set_option maxHeartbeats 1000000 in
theorem w_X9_see {D : Nat → Nat → Int32} {L : Nat → Nat → Int64} {Q : bh_Q} {ps : List TW} {sh : Nat → Option TW} {tp : List Nat} (hI : InvC D ps sh tp) (hG : Good (tv D) ps sh) {x : Int32} (k1 : ∀ D1, (∀ k, 205 ≤ k → D1 k = D k) → tv D1 = nxT (tv D) (seeR (tv D) x).2 → InvC D1 (nxP (tv D) ps (seeR (tv D) x).2) sh tp → Q (some (.int (seeR (tv D) x).1)) (hp D1 L)) : bh_wc 4 m_X9_see [.ref 0, .int x] (hp D L) Q := by
  refine x_start (lv0 := [_, _]) (Nat.le_of_ble_eq_true rfl) rfl ?_
  have hW := hG.1
  have h12 := hW.nwl
  have hH := hI.1
  have h16 := hW.nsl
  refine x_iload (pc' := 1) rfl rfl rfl ?_
  refine x_callS (pc' := 4) (d1 := 1) (As := [_]) rfl rfl rfl rfl (by decide) rfl rfl (Nat.le_of_ble_eq_true rfl) ⟨rfl, rfl⟩ (by decide) ?_
  refine w_X9_isRow (fun h1w h1l h1e => ?_) (fun h1 => ?_)
  · subst h1e
    refine ⟨rfl, ?_⟩
    refine x_if_ne (pc' := 7) rfl rfl (fun _ => ?_) (fun c4 => absurd c4 (by decide))
    refine x_aload (pc' := 10) rfl rfl rfl ?_
    refine x_getR (pc' := 13) rfl rfl rfl (by decide) rfl (by decide) rfl rfl ?_
    refine x_getI (j := 2) (pc' := 16) rfl rfl rfl (by decide) rfl (by decide) rfl rfl ?_
    refine x_top (hW.ens) ?_
    refine x_int (pc' := 18) (v := nI 16) rfl rfl rfl ?_
    refine y_ic_lt (pc' := 21) rfl rfl (by omega) (by omega) (fun c18 => ?_) (fun c18 => ?_)
    · refine x_aload (pc' := 25) rfl rfl rfl ?_
      refine x_callV (pc' := 28) (d1 := 3) (Bs := []) rfl rfl rfl rfl rfl rfl rfl (Nat.le_of_ble_eq_true rfl) ⟨rfl, rfl⟩ (by decide) rfl (by decide) ?_
      refine w_X9_remember hH (fun D1 f1 g1 hH1 => ?_)
      refine ⟨rfl, ?_⟩
      refine x_aload (pc' := 29) rfl rfl rfl ?_
      refine x_getR (pc' := 32) rfl rfl rfl (by decide) rfl (by decide) rfl rfl ?_
      refine x_getR (pc' := 35) rfl rfl rfl (by decide) rfl (by decide) rfl rfl ?_
      refine x_aload (pc' := 36) rfl rfl rfl ?_
      refine x_getR (pc' := 39) rfl rfl rfl (by decide) rfl (by decide) rfl rfl ?_
      refine x_getI (j := 2) (pc' := 42) rfl rfl rfl (by decide) rfl (by decide) rfl rfl ?_
      refine x_top ((congrFun (f1 1 (by decide) (by decide)) 2).trans hW.ens) ?_
      refine x_iload (pc' := 43) rfl rfl rfl ?_
      refine x_iast (pc' := 44) rfl rfl (by decide) rfl (by decide) (show _ < 16 by omega) ?_
      refine x_aload (pc' := 45) rfl rfl rfl ?_
      refine x_getR (pc' := 48) rfl rfl rfl (by decide) rfl (by decide) rfl rfl ?_
      refine x_dup (pc' := 49) rfl rfl rfl ?_
      refine x_getI (j := 2) (pc' := 52) rfl rfl rfl (by decide) rfl (by decide) rfl rfl ?_
      refine x_top ((congrFun (f1 1 (by decide) (by decide)) 2).trans hW.ens) ?_
      refine x_int (pc' := 53) (v := nI 1) rfl rfl rfl ?_
      refine y_iadd (pc' := 54) rfl rfl ?_
      refine x_putI (j := 2) (pc' := 57) rfl rfl rfl (by decide) rfl (by decide) rfl rfl ?_
      refine x_aload (pc' := 58) rfl rfl rfl ?_
      refine x_getR (pc' := 61) rfl rfl rfl (by decide) rfl (by decide) rfl rfl ?_
      refine x_getI (j := 2) (pc' := 64) rfl rfl rfl (by decide) rfl (by decide) rfl rfl ?_
      refine x_iret rfl rfl ?_
      have e : seeR (tv D) (nI h1w) = (nI (ns (tv D) + 1), some (bh_up2 (bh_up2 (tv D) 12 (ns (tv D)) (nI h1w)) 0 2 (nI (ns (tv D) + 1)))) := by unfold seeR; rw [dN_some h1l (by decide)]; exact if_neg (by omega)
      refine actC hI f1 g1 hH1 k1 e rfl (fun k a b => ?_) ?_
      · rw [bh_up2_ne _ _ _ (by omega), bh_up2_ne _ _ _ (by omega)]
      · rw [tv_up (j := 0) rfl (by decide), tv_up (j := 12) rfl (by decide), frc_tv f1]
    · refine x_int (pc' := 23) (v := (-3)) rfl rfl rfl ?_
      refine x_iret rfl rfl ?_
      have e : seeR (tv D) (nI h1w) = (-3, none) := by unfold seeR; rw [dN_some h1l (by decide)]; exact if_pos (by have := hW.nsl; omega)
      rw [e] at k1
      exact k1 D (fun _ _ => rfl) rfl hI
  · refine ⟨rfl, ?_⟩
    refine x_if_ne (pc' := 7) rfl rfl (fun c4 => absurd (by decide) c4) (fun _ => ?_)
    refine x_int (pc' := 8) (v := (-1)) rfl rfl rfl ?_
    refine x_iret rfl rfl ?_
    have e : seeR (tv D) x = (-1, none) := by unfold seeR; rw [dN_none (by decide) h1]
    rw [e] at k1
    exact k1 D (fun _ _ => rfl) rfl hI
set_option maxRecDepth 20000 in
set_option maxHeartbeats 1000000 in
theorem w_X10_see {D : Nat → Nat → Int32} {L : Nat → Nat → Int64} {Q : bh_Q} {T : TW} {ps : List TW} {sh : Nat → Option TW} {tp : List Nat} (hI : InvM D T ps sh tp) (hG : Good T ps sh) {x : Int32} (k1 : ∀ D1, (∀ k, (k < 205 ∨ 228 ≤ k) → D1 k = D k) → InvM D1 (nxT T (seeR T x).2) (nxP T ps (seeR T x).2) sh tp → Q (some (.int (seeR T x).1)) (hp D1 L)) : bh_wc 3 m_X10_see [.ref 205, .int x] (hp D L) Q := by
  refine x_start (lv0 := [_, _]) (Nat.le_of_ble_eq_true rfl) rfl ?_
  have hW := hG.1
  have h12 := hW.nwl
  have hR := hI.1
  have h16 := hW.nsl
  refine x_iload (pc' := 1) rfl rfl rfl ?_
  refine x_i2l (pc' := 2) rfl rfl ?_
  refine x_long (pc' := 3) (v := (nI 0).toInt64) rfl rfl (by decide) ?_
  refine x_long (pc' := 6) (v := (nI 65535).toInt64) rfl rfl (by decide) ?_
  refine x_callS (pc' := 9) (d1 := 1) (As := [_, _, _]) rfl rfl rfl rfl (by decide) rfl rfl (Nat.le_of_ble_eq_true rfl) ⟨rfl, rfl⟩ (by decide) ?_
  refine w_X10_in (fun h6a h6l => ?_) (fun h6 => ?_)
  · obtain ⟨h6w, h6m, rfl⟩ := in_okL (n := 65535) (by decide) h6a h6l
    refine ⟨rfl, ?_⟩
    refine x_if_ne (pc' := 12) rfl rfl (fun _ => ?_) (fun c9 => absurd c9 (by decide))
    refine x_aload (pc' := 15) rfl rfl rfl ?_
    refine x_getR (pc' := 18) rfl rfl rfl (by decide) rfl (by decide) rfl rfl ?_
    refine x_int (pc' := 19) (v := nI 2) rfl rfl rfl ?_
    refine x_iald (pc' := 20) rfl rfl (by decide) rfl (by decide) (show _ < 560 by omega) ?_
    refine x_top (hR.1.2.2.1.trans hW.ens) ?_
    refine x_int (pc' := 22) (v := nI 16) rfl rfl rfl ?_
    refine y_ic_ne (pc' := 25) rfl rfl (by omega) (by omega) (fun c22 => ?_) (fun c22 => ?_)
    · refine x_aload (pc' := 29) rfl rfl rfl ?_
      refine x_callV (pc' := 32) (d1 := 2) (Bs := []) rfl rfl rfl rfl rfl rfl rfl (Nat.le_of_ble_eq_true rfl) ⟨rfl, rfl⟩ (by decide) rfl (by decide) ?_
      refine w_X10_keepsPast hW hR hI.2.1 hG.2.1 (fun D1 f1 g1 hH1 => ?_)
      refine ⟨rfl, ?_⟩
      refine x_aload (pc' := 33) rfl rfl rfl ?_
      refine x_getR (pc' := 36) rfl rfl rfl (by decide) rfl (by decide) rfl rfl ?_
      refine x_int (pc' := 39) (v := nI 544) rfl rfl rfl ?_
      refine x_aload (pc' := 40) rfl rfl rfl ?_
      refine x_getR (pc' := 43) rfl rfl rfl (by decide) rfl (by decide) rfl rfl ?_
      refine x_int (pc' := 44) (v := nI 2) rfl rfl rfl ?_
      refine x_iald (pc' := 45) rfl rfl (by decide) rfl (by decide) (show _ < 560 by omega) ?_
      refine x_top ((congrFun (f1 206 (by decide)) 2).trans (hR.1.2.2.1.trans hW.ens)) ?_
      refine y_iadd (pc' := 46) rfl rfl ?_
      refine x_iload (pc' := 47) rfl rfl rfl ?_
      refine x_iast (pc' := 48) rfl rfl (by decide) rfl (by decide) (show _ < 560 by omega) ?_
      refine x_aload (pc' := 49) rfl rfl rfl ?_
      refine x_getR (pc' := 52) rfl rfl rfl (by decide) rfl (by decide) rfl rfl ?_
      refine x_int (pc' := 53) (v := nI 2) rfl rfl rfl ?_
      refine x_dup2 (pc' := 54) rfl rfl rfl rfl ?_
      refine x_iald (pc' := 55) rfl rfl (by decide) rfl (by decide) (show _ < 560 by omega) ?_
      refine x_top ((if_neg (by omega)).trans ((congrFun (f1 206 (by decide)) 2).trans (hR.1.2.2.1.trans hW.ens))) ?_
      refine x_int (pc' := 56) (v := nI 1) rfl rfl rfl ?_
      refine y_iadd (pc' := 57) rfl rfl ?_
      refine x_iast (pc' := 58) rfl rfl (by decide) rfl (by decide) (show _ < 560 by omega) ?_
      refine x_aload (pc' := 59) rfl rfl rfl ?_
      refine x_getR (pc' := 62) rfl rfl rfl (by decide) rfl (by decide) rfl rfl ?_
      refine x_int (pc' := 63) (v := nI 2) rfl rfl rfl ?_
      refine x_iald (pc' := 64) rfl rfl (by decide) rfl (by decide) (show _ < 560 by omega) ?_
      refine x_iret rfl rfl ?_
      have e : seeR T (nI h6w) = (nI (ns T + 1), some (bh_up2 (bh_up2 T 12 (ns T) (nI h6w)) 0 2 (nI (ns T + 1)))) := by unfold seeR; rw [dN_some h6m (by decide)]; exact if_neg c22
      refine actM hI f1 g1 hH1 k1 e (fun k a b c => ?_) (fun j hj => rfl) ?_
      · rw [bh_up2_ne _ _ _ a, bh_up2_ne _ _ _ a]
      · rw [bh_up2_k, bh_up2_k, f1 206 (by decide)]; exact rn_see hW hR rfl c22
    · refine x_int (pc' := 27) (v := (-3)) rfl rfl rfl ?_
      refine x_iret rfl rfl ?_
      have e : seeR T (nI h6w) = (-3, none) := by unfold seeR; rw [dN_some h6m (by decide)]; exact if_pos c22
      rw [e] at k1
      exact k1 D (fun _ _ => rfl) hI
  · refine ⟨rfl, ?_⟩
    refine x_if_ne (pc' := 12) rfl rfl (fun c9 => absurd (by decide) c9) (fun _ => ?_)
    refine x_int (pc' := 13) (v := (-1)) rfl rfl rfl ?_
    refine x_iret rfl rfl ?_
    have e : seeR T x = (-1, none) := by unfold seeR; rw [dN_none (by decide) (okN_inL (by decide) h6)]
    rw [e] at k1
    exact k1 D (fun _ _ => rfl) hI
set_option maxRecDepth 20000 in
set_option maxHeartbeats 1000000 in
theorem w_X9_forget {D : Nat → Nat → Int32} {L : Nat → Nat → Int64} {Q : bh_Q} {ps : List TW} {sh : Nat → Option TW} {tp : List Nat} (hI : InvC D ps sh tp) (hG : Good (tv D) ps sh) (k1 : ∀ D1, (∀ k, 205 ≤ k → D1 k = D k) → tv D1 = nxT (tv D) (forgetR (tv D)).2 → InvC D1 (nxP (tv D) ps (forgetR (tv D)).2) sh tp → Q (some (.int (forgetR (tv D)).1)) (hp D1 L)) : bh_wc 4 m_X9_forget [.ref 0] (hp D L) Q := by
  refine x_start (lv0 := [_, _]) (Nat.le_of_ble_eq_true rfl) rfl ?_
  have hW := hG.1
  have h12 := hW.nwl
  have hH := hI.1
  have h16 := hW.nsl
  refine x_aload (pc' := 1) rfl rfl rfl ?_
  refine x_getR (pc' := 4) rfl rfl rfl (by decide) rfl (by decide) rfl rfl ?_
  refine x_getI (j := 2) (pc' := 7) rfl rfl rfl (by decide) rfl (by decide) rfl rfl ?_
  refine x_top (hW.ens) ?_
  refine x_istore (pc' := 8) (lv' := [_, _]) rfl rfl (by decide) rfl ?_
  refine x_iload (pc' := 9) rfl rfl rfl ?_
  refine y_if_ne (pc' := 12) rfl rfl (by omega) (fun c9 => ?_) (fun c9 => ?_)
  · refine x_aload (pc' := 15) rfl rfl rfl ?_
    refine x_callV (pc' := 18) (d1 := 3) (Bs := []) rfl rfl rfl rfl rfl rfl rfl (Nat.le_of_ble_eq_true rfl) ⟨rfl, rfl⟩ (by decide) rfl (by decide) ?_
    refine w_X9_remember hH (fun D1 f1 g1 hH1 => ?_)
    refine ⟨rfl, ?_⟩
    refine x_aload (pc' := 19) rfl rfl rfl ?_
    refine x_getR (pc' := 22) rfl rfl rfl (by decide) rfl (by decide) rfl rfl ?_
    refine x_int (pc' := 23) (v := nI 0) rfl rfl rfl ?_
    refine x_putI (j := 2) (pc' := 26) rfl rfl rfl (by decide) rfl (by decide) rfl rfl ?_
    refine x_iload (pc' := 27) rfl rfl rfl ?_
    refine x_iret rfl rfl ?_
    have e : forgetR (tv D) = (nI (ns (tv D)), some (bh_up2 (tv D) 0 2 (nI 0))) := if_neg (by omega)
    refine actC hI f1 g1 hH1 k1 e rfl (fun k a b => ?_) ?_
    · rw [bh_up2_ne _ _ _ (by omega)]
    · rw [tv_up (j := 0) rfl (by decide), frc_tv f1]
  · refine x_int (pc' := 13) (v := (-1)) rfl rfl rfl ?_
    refine x_iret rfl rfl ?_
    have e : forgetR (tv D) = (-1, none) := if_pos (by omega)
    rw [e] at k1
    exact k1 D (fun _ _ => rfl) rfl hI
set_option maxRecDepth 20000 in
set_option maxHeartbeats 1000000 in
theorem w_X10_forget {D : Nat → Nat → Int32} {L : Nat → Nat → Int64} {Q : bh_Q} {T : TW} {ps : List TW} {sh : Nat → Option TW} {tp : List Nat} (hI : InvM D T ps sh tp) (hG : Good T ps sh) (k1 : ∀ D1, (∀ k, (k < 205 ∨ 228 ≤ k) → D1 k = D k) → InvM D1 (nxT T (forgetR T).2) (nxP T ps (forgetR T).2) sh tp → Q (some (.int (forgetR T).1)) (hp D1 L)) : bh_wc 3 m_X10_forget [.ref 205] (hp D L) Q := by
  refine x_start (lv0 := [_, _]) (Nat.le_of_ble_eq_true rfl) rfl ?_
  have hW := hG.1
  have h12 := hW.nwl
  have hR := hI.1
  have h16 := hW.nsl
  refine x_aload (pc' := 1) rfl rfl rfl ?_
  refine x_getR (pc' := 4) rfl rfl rfl (by decide) rfl (by decide) rfl rfl ?_
  refine x_int (pc' := 5) (v := nI 2) rfl rfl rfl ?_
  refine x_iald (pc' := 6) rfl rfl (by decide) rfl (by decide) (show _ < 560 by omega) ?_
  refine x_top (hR.1.2.2.1.trans hW.ens) ?_
  refine y_if_ne (pc' := 9) rfl rfl (by omega) (fun c6 => ?_) (fun c6 => ?_)
  · refine x_aload (pc' := 12) rfl rfl rfl ?_
    refine x_callV (pc' := 15) (d1 := 2) (Bs := []) rfl rfl rfl rfl rfl rfl rfl (Nat.le_of_ble_eq_true rfl) ⟨rfl, rfl⟩ (by decide) rfl (by decide) ?_
    refine w_X10_keepsPast hW hR hI.2.1 hG.2.1 (fun D1 f1 g1 hH1 => ?_)
    refine ⟨rfl, ?_⟩
    refine x_aload (pc' := 16) rfl rfl rfl ?_
    refine x_getR (pc' := 19) rfl rfl rfl (by decide) rfl (by decide) rfl rfl ?_
    refine x_int (pc' := 20) (v := nI 2) rfl rfl rfl ?_
    refine x_iald (pc' := 21) rfl rfl (by decide) rfl (by decide) (show _ < 560 by omega) ?_
    refine x_top ((congrFun (f1 206 (by decide)) 2).trans (hR.1.2.2.1.trans hW.ens)) ?_
    refine x_istore (pc' := 22) (lv' := [_, _]) rfl rfl (by decide) rfl ?_
    refine x_aload (pc' := 23) rfl rfl rfl ?_
    refine x_getR (pc' := 26) rfl rfl rfl (by decide) rfl (by decide) rfl rfl ?_
    refine x_int (pc' := 27) (v := nI 2) rfl rfl rfl ?_
    refine x_int (pc' := 28) (v := nI 0) rfl rfl rfl ?_
    refine x_iast (pc' := 29) rfl rfl (by decide) rfl (by decide) (show _ < 560 by omega) ?_
    refine x_iload (pc' := 30) rfl rfl rfl ?_
    refine x_iret rfl rfl ?_
    have e : forgetR T = (nI (ns T), some (bh_up2 T 0 2 (nI 0))) := if_neg (by omega)
    refine actM hI f1 g1 hH1 k1 e (fun k a b c => ?_) (fun j hj => rfl) ?_
    · rw [bh_up2_ne _ _ _ a]
    · rw [bh_up2_k, f1 206 (by decide)]; exact rn_forget hR
  · refine x_int (pc' := 10) (v := (-1)) rfl rfl rfl ?_
    refine x_iret rfl rfl ?_
    have e : forgetR T = (-1, none) := if_pos (by omega)
    rw [e] at k1
    exact k1 D (fun _ _ => rfl) hI
end
section
/-! ===== teach ===== -/
def dH (x y z : Int32) : Option (Nat × Nat × Nat) := match dN 7 x with
  | none => none
  | some k => if k = 0 then some (0, 0, 0) else match dN 16 y with
    | none => none
    | some a => if k = 4 ∧ a = 0 then none else if k < 5 then some (k, a, 0) else match dN 16 z with
      | none => none
      | some b => if a = b then none else some (k, a, b)
section bh_dH
variable {k a b : Nat} {x y z : Int32}
theorem dH_0 : dH (nI 0) y z = some (0, 0, 0) := by unfold dH; rw [dN_some (by decide) (by decide)]; rfl
theorem dH_1 (h1 : 1 ≤ k) (h5 : k < 5) (ha : a < 16) (h : ¬ (k = 4 ∧ a = 0)) : dH (nI k) (nI a) z = some (k, a, 0) := by
  unfold dH
  rw [dN_some (by omega) (by decide), dN_some ha (by decide)]
  dsimp only
  rw [if_neg (by omega), if_neg h, if_pos h5]
theorem dH_2 (h1 : 5 ≤ k) (h5 : k < 7) (ha : a < 16) (hb : b < 16) (h : a ≠ b) : dH (nI k) (nI a) (nI b) = some (k, a, b) := by
  unfold dH
  rw [dN_some h5 (by decide), dN_some ha (by decide), dN_some hb (by decide)]
  dsimp only
  rw [if_neg (by omega), if_neg (by omega), if_neg (by omega), if_neg h]
theorem dH_nx (h : ¬ okN 7 x) : dH x y z = none := by unfold dH; rw [dN_none (by decide) h]
theorem dH_ny (h1 : 1 ≤ k) (h7 : k < 7) (h : ¬ okN 16 y) : dH (nI k) y z = none := by
  unfold dH
  rw [dN_some h7 (by decide), dN_none (by decide) h]
  dsimp only
  rw [if_neg (by omega)]
theorem dH_n4 : dH (nI 4) (nI 0) z = none := by
  unfold dH
  rw [dN_some (by decide) (by decide), dN_some (by decide) (by decide)]
  rfl
theorem dH_nz (h1 : 5 ≤ k) (h5 : k < 7) (ha : a < 16) (h : ¬ okN 16 z) : dH (nI k) (nI a) z = none := by
  unfold dH
  rw [dN_some h5 (by decide), dN_some ha (by decide), dN_none (by decide) h]
  dsimp only
  rw [if_neg (by omega), if_neg (by omega), if_neg (by omega)]
theorem dH_ab (h1 : 5 ≤ k) (h5 : k < 7) (ha : a < 16) : dH (nI k) (nI a) (nI a) = none := by
  unfold dH
  rw [dN_some h5 (by decide), dN_some ha (by decide)]
  dsimp only
  rw [if_neg (by omega), if_neg (by omega), if_neg (by omega), if_pos rfl]
theorem dH_hok (h : dH x y z = some (k, a, b)) : hok k a b := by
  unfold dH at h
  cases hx : dN 7 x with
  | none => rw [hx] at h; cases h
  | some k' =>
    have hk := (dN_lt (by decide) hx).1
    rw [hx] at h
    dsimp only at h
    split at h
    · cases h; exact ⟨by decide, by decide, by decide, fun _ => rfl, fun _ => rfl, fun h => absurd h (by decide), fun h => absurd h (by decide)⟩
    · cases hy : dN 16 y with
      | none => rw [hy] at h; cases h
      | some a' =>
        have ha := (dN_lt (by decide) hy).1
        rw [hy] at h
        dsimp only at h
        split at h
        · cases h
        split at h
        · cases h
          exact ⟨by omega, ha, by decide, fun h => by omega, fun _ => rfl, fun h => by omega, fun h => by omega⟩
        · cases hz : dN 16 z with
          | none => rw [hz] at h; cases h
          | some b' =>
            have hb := (dN_lt (by decide) hz).1
            rw [hz] at h
            dsimp only at h
            split at h
            · cases h
            · cases h
              exact ⟨by omega, ha, hb, fun h => by omega, fun h => by omega, fun h => by omega, fun _ => by omega⟩
end bh_dH
theorem hok_1 {k a : Nat} (h1 : 1 ≤ k) (h5 : k < 5) (ha : a < 16) (h : ¬ (k = 4 ∧ a = 0)) : hok k a 0 := ⟨by omega, ha, by decide, fun h => by omega, fun _ => rfl, fun h => by omega, fun h => by omega⟩
theorem hok_2 {k a b : Nat} (h1 : 5 ≤ k) (h5 : k < 7) (ha : a < 16) (hb : b < 16) (h : a ≠ b) : hok k a b := ⟨h5, ha, hb, fun h => by omega, fun h => by omega, fun h => by omega, fun _ => h⟩
theorem hok_0 : hok 0 0 0 := ⟨by decide, by decide, by decide, fun _ => rfl, fun _ => rfl, fun h => absurd h (by decide), fun h => absurd h (by decide)⟩
theorem sg0 : sg 0 = 0 := rfl
theorem sg1 {k : Nat} (h1 : 1 ≤ k) (h : k < 5) : sg k = 1 := by unfold sg; rw [if_neg (by omega), if_neg (by omega)]
theorem sg2 {k : Nat} (h : 5 ≤ k) : sg k = 2 := by unfold sg; rw [if_neg (by omega), if_pos h]
theorem sg_lt (k : Nat) : sg k < 3 := by unfold sg; split <;> (try split) <;> decide
set_option maxRecDepth 20000 in
set_option maxHeartbeats 1000000 in
theorem w_X1_stands {D : Nat → Nat → Int32} {L : Nat → Nat → Int64} {Q : bh_Q} {x y z : Int32} (k10 : x = nI 0 → Q (some (.int 1)) (hp D L)) (k11 : ∀ k a : Nat, 1 ≤ k → k < 5 → a < 16 → ¬ (k = 4 ∧ a = 0) → x = nI k → y = nI a → Q (some (.int 1)) (hp D L)) (k12 : ∀ k a b : Nat, 5 ≤ k → k < 7 → a < 16 → b < 16 → a ≠ b → x = nI k → y = nI a → z = nI b → Q (some (.int 1)) (hp D L)) (k0 : dH x y z = none → Q (some (.int 0)) (hp D L)) : bh_wc 2 m_X1_stands [.int x, .int y, .int z] (hp D L) Q := by
  refine x_start (lv0 := [_, _, _]) (Nat.le_of_ble_eq_true rfl) rfl ?_
  refine x_iload (pc' := 1) rfl rfl rfl ?_
  refine x_if_lt (pc' := 4) rfl rfl (fun c1 => ?_) (fun c1 => ?_)
  · refine x_int (pc' := 11) (v := nI 0) rfl rfl rfl ?_
    refine x_zret rfl rfl (by decide) ?_
    first
      | exact k0 (dH_nx (okN_neg (by decide) c1))
      | exact k0 (dH_nx (okN_gt (n := 6) (by decide) (Int32.not_le.mp c7)))
  · refine x_iload (pc' := 5) rfl rfl rfl ?_
    refine x_int (pc' := 7) (v := nI 6) rfl rfl rfl ?_
    refine x_ic_le (pc' := 10) rfl rfl (fun c7 => ?_) (fun c7 => ?_)
    · obtain ⟨k, kl, rfl⟩ := le_of (n := 6) (by decide) c1 (Int32.not_lt.mpr c7)
      refine x_iload (pc' := 13) rfl rfl rfl ?_
      refine y_if_ne (pc' := 16) rfl rfl (by first | omega | (have := sg_lt k; omega)) (fun c13 => ?_) (fun c13 => ?_)
      · refine x_iload (pc' := 19) rfl rfl rfl ?_
        refine x_callS (pc' := 22) (d1 := 1) (As := [_]) rfl rfl rfl rfl (by decide) rfl rfl (Nat.le_of_ble_eq_true rfl) ⟨rfl, rfl⟩ (by decide) ?_
        refine w_X9_isSign (fun h19w h19l h19e => ?_) (fun h19 => ?_)
        · subst h19e
          refine ⟨rfl, ?_⟩
          refine x_if_eq (pc' := 25) rfl rfl (fun c22 => absurd c22 (by decide)) (fun _ => ?_)
          refine x_iload (pc' := 26) rfl rfl rfl ?_
          refine x_int (pc' := 27) (v := nI 4) rfl rfl rfl ?_
          refine y_ic_ne (pc' := 30) rfl rfl (by first | omega | (have := sg_lt k; omega)) (by first | omega | (have := sg_lt k; omega)) (fun c27 => ?_) (fun c27 => ?_)
          · refine x_iload (pc' := 37) rfl rfl rfl ?_
            refine x_callS (pc' := 40) (d1 := 1) (As := [_]) rfl rfl rfl rfl (by decide) rfl rfl (Nat.le_of_ble_eq_true rfl) ⟨rfl, rfl⟩ (by decide) ?_
            refine w_X1_signsOf kl ?_
            refine ⟨rfl, ?_⟩
            refine x_int (pc' := 41) (v := nI 1) rfl rfl rfl ?_
            refine y_ic_eq (pc' := 44) rfl rfl (by first | omega | (have := sg_lt k; omega)) (by first | omega | (have := sg_lt k; omega)) (fun c41 => ?_) (fun c41 => ?_)
            · refine x_int (pc' := 57) (v := nI 1) rfl rfl rfl ?_
              refine x_goto rfl ?_
              refine x_zret rfl rfl (by decide) ?_
              have s5 : k < 5 ∨ 5 ≤ k := by omega
              rcases s5 with s5 | s5
              · have s6 := sg1 (by omega) s5
                first
                  | exact k11 k h19w (by omega) s5 h19l (by omega) rfl rfl
                  | (exfalso; omega)
              · have s6 := sg2 s5
                first
                  | (exfalso; omega)
                  | exact k12 k h19w h45w s5 kl h19l h45l (by omega) rfl rfl rfl
                  | exact k0 (dH_nz s5 kl h19l h45)
                  | (subst c53; exact k0 (dH_ab s5 kl h19l))
            · refine x_iload (pc' := 45) rfl rfl rfl ?_
              refine x_callS (pc' := 48) (d1 := 1) (As := [_]) rfl rfl rfl rfl (by decide) rfl rfl (Nat.le_of_ble_eq_true rfl) ⟨rfl, rfl⟩ (by decide) ?_
              refine w_X9_isSign (fun h45w h45l h45e => ?_) (fun h45 => ?_)
              · subst h45e
                refine ⟨rfl, ?_⟩
                refine x_if_eq (pc' := 51) rfl rfl (fun c48 => absurd c48 (by decide)) (fun _ => ?_)
                refine x_iload (pc' := 52) rfl rfl rfl ?_
                refine x_iload (pc' := 53) rfl rfl rfl ?_
                refine y_ic_eq (pc' := 56) rfl rfl (by first | omega | (have := sg_lt k; omega)) (by first | omega | (have := sg_lt k; omega)) (fun c53 => ?_) (fun c53 => ?_)
                · refine x_int (pc' := 61) (v := nI 0) rfl rfl rfl ?_
                  refine x_zret rfl rfl (by decide) ?_
                  have s5 : k < 5 ∨ 5 ≤ k := by omega
                  rcases s5 with s5 | s5
                  · have s6 := sg1 (by omega) s5
                    first
                      | exact k11 k h19w (by omega) s5 h19l (by omega) rfl rfl
                      | (exfalso; omega)
                  · have s6 := sg2 s5
                    first
                      | (exfalso; omega)
                      | exact k12 k h19w h45w s5 kl h19l h45l (by omega) rfl rfl rfl
                      | exact k0 (dH_nz s5 kl h19l h45)
                      | (subst c53; exact k0 (dH_ab s5 kl h19l))
                · refine x_int (pc' := 57) (v := nI 1) rfl rfl rfl ?_
                  refine x_goto rfl ?_
                  refine x_zret rfl rfl (by decide) ?_
                  have s5 : k < 5 ∨ 5 ≤ k := by omega
                  rcases s5 with s5 | s5
                  · have s6 := sg1 (by omega) s5
                    first
                      | exact k11 k h19w (by omega) s5 h19l (by omega) rfl rfl
                      | (exfalso; omega)
                  · have s6 := sg2 s5
                    first
                      | (exfalso; omega)
                      | exact k12 k h19w h45w s5 kl h19l h45l (by omega) rfl rfl rfl
                      | exact k0 (dH_nz s5 kl h19l h45)
                      | (subst c53; exact k0 (dH_ab s5 kl h19l))
              · refine ⟨rfl, ?_⟩
                refine x_if_eq (pc' := 51) rfl rfl (fun _ => ?_) (fun c48 => absurd (by decide) c48)
                refine x_int (pc' := 61) (v := nI 0) rfl rfl rfl ?_
                refine x_zret rfl rfl (by decide) ?_
                have s5 : k < 5 ∨ 5 ≤ k := by omega
                rcases s5 with s5 | s5
                · have s6 := sg1 (by omega) s5
                  first
                    | exact k11 k h19w (by omega) s5 h19l (by omega) rfl rfl
                    | (exfalso; omega)
                · have s6 := sg2 s5
                  first
                    | (exfalso; omega)
                    | exact k12 k h19w h45w s5 kl h19l h45l (by omega) rfl rfl rfl
                    | exact k0 (dH_nz s5 kl h19l h45)
                    | (subst c53; exact k0 (dH_ab s5 kl h19l))
          · refine x_iload (pc' := 31) rfl rfl rfl ?_
            refine y_if_ne (pc' := 34) rfl rfl (by first | omega | (have := sg_lt k; omega)) (fun c31 => ?_) (fun c31 => ?_)
            · refine x_iload (pc' := 37) rfl rfl rfl ?_
              refine x_callS (pc' := 40) (d1 := 1) (As := [_]) rfl rfl rfl rfl (by decide) rfl rfl (Nat.le_of_ble_eq_true rfl) ⟨rfl, rfl⟩ (by decide) ?_
              refine w_X1_signsOf kl ?_
              refine ⟨rfl, ?_⟩
              refine x_int (pc' := 41) (v := nI 1) rfl rfl rfl ?_
              refine y_ic_eq (pc' := 44) rfl rfl (by first | omega | (have := sg_lt k; omega)) (by first | omega | (have := sg_lt k; omega)) (fun c41 => ?_) (fun c41 => ?_)
              · refine x_int (pc' := 57) (v := nI 1) rfl rfl rfl ?_
                refine x_goto rfl ?_
                refine x_zret rfl rfl (by decide) ?_
                have s5 : k < 5 ∨ 5 ≤ k := by omega
                rcases s5 with s5 | s5
                · have s6 := sg1 (by omega) s5
                  first
                    | exact k11 k h19w (by omega) s5 h19l (by omega) rfl rfl
                    | (exfalso; omega)
                · have s6 := sg2 s5
                  first
                    | (exfalso; omega)
                    | exact k12 k h19w h45w s5 kl h19l h45l (by omega) rfl rfl rfl
                    | exact k0 (dH_nz s5 kl h19l h45)
                    | (subst c53; exact k0 (dH_ab s5 kl h19l))
              · refine x_iload (pc' := 45) rfl rfl rfl ?_
                refine x_callS (pc' := 48) (d1 := 1) (As := [_]) rfl rfl rfl rfl (by decide) rfl rfl (Nat.le_of_ble_eq_true rfl) ⟨rfl, rfl⟩ (by decide) ?_
                refine w_X9_isSign (fun h45w h45l h45e => ?_) (fun h45 => ?_)
                · subst h45e
                  refine ⟨rfl, ?_⟩
                  refine x_if_eq (pc' := 51) rfl rfl (fun c48 => absurd c48 (by decide)) (fun _ => ?_)
                  refine x_iload (pc' := 52) rfl rfl rfl ?_
                  refine x_iload (pc' := 53) rfl rfl rfl ?_
                  refine y_ic_eq (pc' := 56) rfl rfl (by first | omega | (have := sg_lt k; omega)) (by first | omega | (have := sg_lt k; omega)) (fun c53 => ?_) (fun c53 => ?_)
                  · refine x_int (pc' := 61) (v := nI 0) rfl rfl rfl ?_
                    refine x_zret rfl rfl (by decide) ?_
                    have s5 : k < 5 ∨ 5 ≤ k := by omega
                    rcases s5 with s5 | s5
                    · have s6 := sg1 (by omega) s5
                      first
                        | exact k11 k h19w (by omega) s5 h19l (by omega) rfl rfl
                        | (exfalso; omega)
                    · have s6 := sg2 s5
                      first
                        | (exfalso; omega)
                        | exact k12 k h19w h45w s5 kl h19l h45l (by omega) rfl rfl rfl
                        | exact k0 (dH_nz s5 kl h19l h45)
                        | (subst c53; exact k0 (dH_ab s5 kl h19l))
                  · refine x_int (pc' := 57) (v := nI 1) rfl rfl rfl ?_
                    refine x_goto rfl ?_
                    refine x_zret rfl rfl (by decide) ?_
                    have s5 : k < 5 ∨ 5 ≤ k := by omega
                    rcases s5 with s5 | s5
                    · have s6 := sg1 (by omega) s5
                      first
                        | exact k11 k h19w (by omega) s5 h19l (by omega) rfl rfl
                        | (exfalso; omega)
                    · have s6 := sg2 s5
                      first
                        | (exfalso; omega)
                        | exact k12 k h19w h45w s5 kl h19l h45l (by omega) rfl rfl rfl
                        | exact k0 (dH_nz s5 kl h19l h45)
                        | (subst c53; exact k0 (dH_ab s5 kl h19l))
                · refine ⟨rfl, ?_⟩
                  refine x_if_eq (pc' := 51) rfl rfl (fun _ => ?_) (fun c48 => absurd (by decide) c48)
                  refine x_int (pc' := 61) (v := nI 0) rfl rfl rfl ?_
                  refine x_zret rfl rfl (by decide) ?_
                  have s5 : k < 5 ∨ 5 ≤ k := by omega
                  rcases s5 with s5 | s5
                  · have s6 := sg1 (by omega) s5
                    first
                      | exact k11 k h19w (by omega) s5 h19l (by omega) rfl rfl
                      | (exfalso; omega)
                  · have s6 := sg2 s5
                    first
                      | (exfalso; omega)
                      | exact k12 k h19w h45w s5 kl h19l h45l (by omega) rfl rfl rfl
                      | exact k0 (dH_nz s5 kl h19l h45)
                      | (subst c53; exact k0 (dH_ab s5 kl h19l))
            · refine x_int (pc' := 35) (v := nI 0) rfl rfl rfl ?_
              refine x_zret rfl rfl (by decide) ?_
              first
                | exact k0 (dH_ny (by omega) kl h19)
                | (subst c27; subst c31; exact k0 dH_n4)
        · refine ⟨rfl, ?_⟩
          refine x_if_eq (pc' := 25) rfl rfl (fun _ => ?_) (fun c22 => absurd (by decide) c22)
          refine x_int (pc' := 35) (v := nI 0) rfl rfl rfl ?_
          refine x_zret rfl rfl (by decide) ?_
          first
            | exact k0 (dH_ny (by omega) kl h19)
            | (subst c27; subst c31; exact k0 dH_n4)
      · refine x_int (pc' := 17) (v := nI 1) rfl rfl rfl ?_
        refine x_zret rfl rfl (by decide) ?_
        subst c13
        exact k10 rfl
    · refine x_int (pc' := 11) (v := nI 0) rfl rfl rfl ?_
      refine x_zret rfl rfl (by decide) ?_
      first
        | exact k0 (dH_nx (okN_neg (by decide) c1))
        | exact k0 (dH_nx (okN_gt (n := 6) (by decide) (Int32.not_le.mp c7)))
set_option maxRecDepth 20000 in
set_option maxHeartbeats 1000000 in
theorem w_X10_needs {D : Nat → Nat → Int32} {L : Nat → Nat → Int64} {Q : bh_Q} {k : Nat} (hk : k < 7) (k1 : Q (some (.int (nI (sg k)))) (hp D L)) : bh_wc 1 m_X10_needs [.int (nI k)] (hp D L) Q := by
  refine x_start (lv0 := [_]) (Nat.le_of_ble_eq_true rfl) rfl ?_
  refine x_iload (pc' := 1) rfl rfl rfl ?_
  refine y_if_ne (pc' := 4) rfl rfl (by omega) (fun c1 => ?_) (fun c1 => ?_)
  · refine x_iload (pc' := 9) rfl rfl rfl ?_
    refine x_int (pc' := 10) (v := nI 5) rfl rfl rfl ?_
    refine y_ic_ge (pc' := 13) rfl rfl (by omega) (by omega) (fun c10 => ?_) (fun c10 => ?_)
    · refine x_int (pc' := 18) (v := nI 2) rfl rfl rfl ?_
      refine x_iret rfl rfl ?_
      have s : k = 0 ∨ (1 ≤ k ∧ k < 5) ∨ 5 ≤ k := by omega
      rcases s with rfl | ⟨s1, s2⟩ | s
      · first
          | exact k1
          | (exfalso; omega)
      · rw [sg1 s1 s2] at k1
        first
          | exact k1
          | (exfalso; omega)
      · rw [sg2 s] at k1
        first
          | exact k1
          | (exfalso; omega)
    · refine x_int (pc' := 14) (v := nI 1) rfl rfl rfl ?_
      refine x_goto rfl ?_
      refine x_iret rfl rfl ?_
      have s : k = 0 ∨ (1 ≤ k ∧ k < 5) ∨ 5 ≤ k := by omega
      rcases s with rfl | ⟨s1, s2⟩ | s
      · first
          | exact k1
          | (exfalso; omega)
      · rw [sg1 s1 s2] at k1
        first
          | exact k1
          | (exfalso; omega)
      · rw [sg2 s] at k1
        first
          | exact k1
          | (exfalso; omega)
  · refine x_int (pc' := 5) (v := nI 0) rfl rfl rfl ?_
    refine x_goto rfl ?_
    refine x_iret rfl rfl ?_
    have s : k = 0 ∨ (1 ≤ k ∧ k < 5) ∨ 5 ≤ k := by omega
    rcases s with rfl | ⟨s1, s2⟩ | s
    · first
        | exact k1
        | (exfalso; omega)
    · rw [sg1 s1 s2] at k1
      first
        | exact k1
        | (exfalso; omega)
    · rw [sg2 s] at k1
      first
        | exact k1
        | (exfalso; omega)
theorem in_one {x : Int32} (h1 : nI 1 ≤ x) (h2 : x ≤ nI 15) : ∃ j : Nat, 1 ≤ j ∧ j < 16 ∧ x = nI j := by
  obtain ⟨j, hj, rfl⟩ := in_okL (n := 15) (by decide) (Int32.le_trans (by decide) h1) h2
  exact ⟨j, (nI_leI (a := 1) (by decide) (by omega)).mp h1, by omega, rfl⟩
theorem dH_four {y z : Int32} (h : ¬ (nI 1 ≤ y ∧ y ≤ nI 15)) : dH (nI 4) y z = none := by
  by_cases q : okN 16 y
  · obtain ⟨j, hj, rfl⟩ := q
    by_cases e : j = 0
    · subst e; exact dH_n4
    · exact absurd ⟨nI_le (by omega) (by omega), nI_le (by omega) (by decide)⟩ h
  · exact dH_ny (by decide) (by decide) q
set_option maxRecDepth 20000 in
set_option maxHeartbeats 1000000 in
theorem w_X10_isHabit {D : Nat → Nat → Int32} {L : Nat → Nat → Int64} {Q : bh_Q} {x y z : Int32} (k10 : x = nI 0 → Q (some (.int 1)) (hp D L)) (k11 : ∀ k a : Nat, 1 ≤ k → k < 5 → a < 16 → ¬ (k = 4 ∧ a = 0) → x = nI k → y = nI a → Q (some (.int 1)) (hp D L)) (k12 : ∀ k a b : Nat, 5 ≤ k → k < 7 → a < 16 → b < 16 → a ≠ b → x = nI k → y = nI a → z = nI b → Q (some (.int 1)) (hp D L)) (k0 : dH x y z = none → Q (some (.int 0)) (hp D L)) : bh_wc 2 m_X10_isHabit [.int x, .int y, .int z] (hp D L) Q := by
  refine x_start (lv0 := [_, _, _, _]) (Nat.le_of_ble_eq_true rfl) rfl ?_
  refine x_iload (pc' := 1) rfl rfl rfl ?_
  refine x_i2l (pc' := 2) rfl rfl ?_
  refine x_long (pc' := 3) (v := (nI 0).toInt64) rfl rfl (by decide) ?_
  refine x_long (pc' := 6) (v := (nI 6).toInt64) rfl rfl (by decide) ?_
  refine x_callS (pc' := 9) (d1 := 1) (As := [_, _, _]) rfl rfl rfl rfl (by decide) rfl rfl (Nat.le_of_ble_eq_true rfl) ⟨rfl, rfl⟩ (by decide) ?_
  refine w_X10_in (fun h6a h6l => ?_) (fun h6 => ?_)
  · obtain ⟨k, kl, rfl⟩ := in_okL (n := 6) (by decide) h6a h6l
    refine ⟨rfl, ?_⟩
    refine x_if_ne (pc' := 12) rfl rfl (fun _ => ?_) (fun c9 => absurd c9 (by decide))
    refine x_iload (pc' := 15) rfl rfl rfl ?_
    refine x_callS (pc' := 18) (d1 := 1) (As := [_]) rfl rfl rfl rfl (by decide) rfl rfl (Nat.le_of_ble_eq_true rfl) ⟨rfl, rfl⟩ (by decide) ?_
    refine w_X10_needs kl ?_
    refine ⟨rfl, ?_⟩
    refine y_if_eq (pc' := 21) rfl rfl (by first | omega | (have := sg_lt k; omega)) (fun c18 => ?_) (fun c18 => ?_)
    · refine x_int (pc' := 43) (v := nI 1) rfl rfl rfl ?_
      refine x_goto rfl ?_
      refine x_istore (pc' := 48) (lv' := [_, _, _, _]) rfl rfl (by decide) rfl ?_
      refine x_iload (pc' := 49) rfl rfl rfl ?_
      refine x_if_eq (pc' := 52) rfl rfl (fun c49 => absurd c49 (by decide)) (fun _ => ?_)
      refine x_iload (pc' := 53) rfl rfl rfl ?_
      refine x_callS (pc' := 56) (d1 := 1) (As := [_]) rfl rfl rfl rfl (by decide) rfl rfl (Nat.le_of_ble_eq_true rfl) ⟨rfl, rfl⟩ (by decide) ?_
      refine w_X10_needs kl ?_
      refine ⟨rfl, ?_⟩
      refine x_int (pc' := 57) (v := nI 2) rfl rfl rfl ?_
      refine y_ic_lt (pc' := 60) rfl rfl (by first | omega | (have := sg_lt k; omega)) (by first | omega | (have := sg_lt k; omega)) (fun c57 => ?_) (fun c57 => ?_)
      · refine x_int (pc' := 78) (v := nI 1) rfl rfl rfl ?_
        refine x_goto rfl ?_
        refine x_zret rfl rfl (by decide) ?_
        have s5 : k = 0 ∨ (1 ≤ k ∧ k < 5) ∨ 5 ≤ k := by omega
        rcases s5 with rfl | ⟨s4, s5⟩ | s5
        · first
            | exact k10 rfl
            | (exfalso; exact c18 rfl)
            | (have s6 := sg0; exfalso; omega)
        · have s6 := sg1 s4 s5
          first
            | (exfalso; omega)
            | (obtain ⟨a, al, rfl⟩ := in_okL (n := 15) (by decide) h36a h36l; exact k11 k a s4 s5 al (by omega) rfl rfl)
            | (obtain ⟨a, a0, al, rfl⟩ := in_one h36a h36l; exact k11 k a s4 s5 al (by omega) rfl rfl)
            | exact k0 (dH_ny s4 (by omega) (okN_inL (by decide) h36))
            | (subst c25; exact k0 (dH_four h36))
        · have s6 := sg2 s5
          first
            | (exfalso; omega)
            | exact k0 (dH_ny (by omega) kl (okN_inL (by decide) h36))
            | (obtain ⟨a, al, rfl⟩ := in_okL (n := 15) (by decide) h36a h36l; exact k0 (dH_nz s5 kl al (okN_inL (by decide) h66)))
            | (obtain ⟨a, al, rfl⟩ := in_okL (n := 15) (by decide) h36a h36l; obtain ⟨b, bl, rfl⟩ := in_okL (n := 15) (by decide) h66a h66l; exact k12 k a b s5 kl al bl (fun e => c74 (by rw [e])) rfl rfl rfl)
            | (obtain ⟨a, al, rfl⟩ := in_okL (n := 15) (by decide) h36a h36l; subst c74; exact k0 (dH_ab s5 kl al))
      · refine x_iload (pc' := 61) rfl rfl rfl ?_
        refine x_i2l (pc' := 62) rfl rfl ?_
        refine x_long (pc' := 63) (v := (nI 0).toInt64) rfl rfl (by decide) ?_
        refine x_long (pc' := 66) (v := (nI 15).toInt64) rfl rfl (by decide) ?_
        refine x_callS (pc' := 69) (d1 := 1) (As := [_, _, _]) rfl rfl rfl rfl (by decide) rfl rfl (Nat.le_of_ble_eq_true rfl) ⟨rfl, rfl⟩ (by decide) ?_
        refine w_X10_in (fun h66a h66l => ?_) (fun h66 => ?_)
        · refine ⟨rfl, ?_⟩
          refine x_if_eq (pc' := 72) rfl rfl (fun c69 => absurd c69 (by decide)) (fun _ => ?_)
          refine x_iload (pc' := 73) rfl rfl rfl ?_
          refine x_iload (pc' := 74) rfl rfl rfl ?_
          refine x_ic_eq (pc' := 77) rfl rfl (fun c74 => ?_) (fun c74 => ?_)
          · refine x_int (pc' := 82) (v := nI 0) rfl rfl rfl ?_
            refine x_zret rfl rfl (by decide) ?_
            have s5 : k = 0 ∨ (1 ≤ k ∧ k < 5) ∨ 5 ≤ k := by omega
            rcases s5 with rfl | ⟨s4, s5⟩ | s5
            · first
                | exact k10 rfl
                | (exfalso; exact c18 rfl)
                | (have s6 := sg0; exfalso; omega)
            · have s6 := sg1 s4 s5
              first
                | (exfalso; omega)
                | (obtain ⟨a, al, rfl⟩ := in_okL (n := 15) (by decide) h36a h36l; exact k11 k a s4 s5 al (by omega) rfl rfl)
                | (obtain ⟨a, a0, al, rfl⟩ := in_one h36a h36l; exact k11 k a s4 s5 al (by omega) rfl rfl)
                | exact k0 (dH_ny s4 (by omega) (okN_inL (by decide) h36))
                | (subst c25; exact k0 (dH_four h36))
            · have s6 := sg2 s5
              first
                | (exfalso; omega)
                | exact k0 (dH_ny (by omega) kl (okN_inL (by decide) h36))
                | (obtain ⟨a, al, rfl⟩ := in_okL (n := 15) (by decide) h36a h36l; exact k0 (dH_nz s5 kl al (okN_inL (by decide) h66)))
                | (obtain ⟨a, al, rfl⟩ := in_okL (n := 15) (by decide) h36a h36l; obtain ⟨b, bl, rfl⟩ := in_okL (n := 15) (by decide) h66a h66l; exact k12 k a b s5 kl al bl (fun e => c74 (by rw [e])) rfl rfl rfl)
                | (obtain ⟨a, al, rfl⟩ := in_okL (n := 15) (by decide) h36a h36l; subst c74; exact k0 (dH_ab s5 kl al))
          · refine x_int (pc' := 78) (v := nI 1) rfl rfl rfl ?_
            refine x_goto rfl ?_
            refine x_zret rfl rfl (by decide) ?_
            have s5 : k = 0 ∨ (1 ≤ k ∧ k < 5) ∨ 5 ≤ k := by omega
            rcases s5 with rfl | ⟨s4, s5⟩ | s5
            · first
                | exact k10 rfl
                | (exfalso; exact c18 rfl)
                | (have s6 := sg0; exfalso; omega)
            · have s6 := sg1 s4 s5
              first
                | (exfalso; omega)
                | (obtain ⟨a, al, rfl⟩ := in_okL (n := 15) (by decide) h36a h36l; exact k11 k a s4 s5 al (by omega) rfl rfl)
                | (obtain ⟨a, a0, al, rfl⟩ := in_one h36a h36l; exact k11 k a s4 s5 al (by omega) rfl rfl)
                | exact k0 (dH_ny s4 (by omega) (okN_inL (by decide) h36))
                | (subst c25; exact k0 (dH_four h36))
            · have s6 := sg2 s5
              first
                | (exfalso; omega)
                | exact k0 (dH_ny (by omega) kl (okN_inL (by decide) h36))
                | (obtain ⟨a, al, rfl⟩ := in_okL (n := 15) (by decide) h36a h36l; exact k0 (dH_nz s5 kl al (okN_inL (by decide) h66)))
                | (obtain ⟨a, al, rfl⟩ := in_okL (n := 15) (by decide) h36a h36l; obtain ⟨b, bl, rfl⟩ := in_okL (n := 15) (by decide) h66a h66l; exact k12 k a b s5 kl al bl (fun e => c74 (by rw [e])) rfl rfl rfl)
                | (obtain ⟨a, al, rfl⟩ := in_okL (n := 15) (by decide) h36a h36l; subst c74; exact k0 (dH_ab s5 kl al))
        · refine ⟨rfl, ?_⟩
          refine x_if_eq (pc' := 72) rfl rfl (fun _ => ?_) (fun c69 => absurd (by decide) c69)
          refine x_int (pc' := 82) (v := nI 0) rfl rfl rfl ?_
          refine x_zret rfl rfl (by decide) ?_
          have s5 : k = 0 ∨ (1 ≤ k ∧ k < 5) ∨ 5 ≤ k := by omega
          rcases s5 with rfl | ⟨s4, s5⟩ | s5
          · first
              | exact k10 rfl
              | (exfalso; exact c18 rfl)
              | (have s6 := sg0; exfalso; omega)
          · have s6 := sg1 s4 s5
            first
              | (exfalso; omega)
              | (obtain ⟨a, al, rfl⟩ := in_okL (n := 15) (by decide) h36a h36l; exact k11 k a s4 s5 al (by omega) rfl rfl)
              | (obtain ⟨a, a0, al, rfl⟩ := in_one h36a h36l; exact k11 k a s4 s5 al (by omega) rfl rfl)
              | exact k0 (dH_ny s4 (by omega) (okN_inL (by decide) h36))
              | (subst c25; exact k0 (dH_four h36))
          · have s6 := sg2 s5
            first
              | (exfalso; omega)
              | exact k0 (dH_ny (by omega) kl (okN_inL (by decide) h36))
              | (obtain ⟨a, al, rfl⟩ := in_okL (n := 15) (by decide) h36a h36l; exact k0 (dH_nz s5 kl al (okN_inL (by decide) h66)))
              | (obtain ⟨a, al, rfl⟩ := in_okL (n := 15) (by decide) h36a h36l; obtain ⟨b, bl, rfl⟩ := in_okL (n := 15) (by decide) h66a h66l; exact k12 k a b s5 kl al bl (fun e => c74 (by rw [e])) rfl rfl rfl)
              | (obtain ⟨a, al, rfl⟩ := in_okL (n := 15) (by decide) h36a h36l; subst c74; exact k0 (dH_ab s5 kl al))
    · refine x_iload (pc' := 22) rfl rfl rfl ?_
      refine x_i2l (pc' := 23) rfl rfl ?_
      refine x_iload (pc' := 24) rfl rfl rfl ?_
      refine x_int (pc' := 25) (v := nI 4) rfl rfl rfl ?_
      refine y_ic_ne (pc' := 28) rfl rfl (by first | omega | (have := sg_lt k; omega)) (by first | omega | (have := sg_lt k; omega)) (fun c25 => ?_) (fun c25 => ?_)
      · refine x_long (pc' := 33) (v := (nI 0).toInt64) rfl rfl (by decide) ?_
        refine x_long (pc' := 36) (v := (nI 15).toInt64) rfl rfl (by decide) ?_
        refine x_callS (pc' := 39) (d1 := 1) (As := [_, _, _]) rfl rfl rfl rfl (by decide) rfl rfl (Nat.le_of_ble_eq_true rfl) ⟨rfl, rfl⟩ (by decide) ?_
        refine w_X10_in (fun h36a h36l => ?_) (fun h36 => ?_)
        · refine ⟨rfl, ?_⟩
          refine x_if_eq (pc' := 42) rfl rfl (fun c39 => absurd c39 (by decide)) (fun _ => ?_)
          refine x_int (pc' := 43) (v := nI 1) rfl rfl rfl ?_
          refine x_goto rfl ?_
          refine x_istore (pc' := 48) (lv' := [_, _, _, _]) rfl rfl (by decide) rfl ?_
          refine x_iload (pc' := 49) rfl rfl rfl ?_
          refine x_if_eq (pc' := 52) rfl rfl (fun c49 => absurd c49 (by decide)) (fun _ => ?_)
          refine x_iload (pc' := 53) rfl rfl rfl ?_
          refine x_callS (pc' := 56) (d1 := 1) (As := [_]) rfl rfl rfl rfl (by decide) rfl rfl (Nat.le_of_ble_eq_true rfl) ⟨rfl, rfl⟩ (by decide) ?_
          refine w_X10_needs kl ?_
          refine ⟨rfl, ?_⟩
          refine x_int (pc' := 57) (v := nI 2) rfl rfl rfl ?_
          refine y_ic_lt (pc' := 60) rfl rfl (by first | omega | (have := sg_lt k; omega)) (by first | omega | (have := sg_lt k; omega)) (fun c57 => ?_) (fun c57 => ?_)
          · refine x_int (pc' := 78) (v := nI 1) rfl rfl rfl ?_
            refine x_goto rfl ?_
            refine x_zret rfl rfl (by decide) ?_
            have s5 : k = 0 ∨ (1 ≤ k ∧ k < 5) ∨ 5 ≤ k := by omega
            rcases s5 with rfl | ⟨s4, s5⟩ | s5
            · first
                | exact k10 rfl
                | (exfalso; exact c18 rfl)
                | (have s6 := sg0; exfalso; omega)
            · have s6 := sg1 s4 s5
              first
                | (exfalso; omega)
                | (obtain ⟨a, al, rfl⟩ := in_okL (n := 15) (by decide) h36a h36l; exact k11 k a s4 s5 al (by omega) rfl rfl)
                | (obtain ⟨a, a0, al, rfl⟩ := in_one h36a h36l; exact k11 k a s4 s5 al (by omega) rfl rfl)
                | exact k0 (dH_ny s4 (by omega) (okN_inL (by decide) h36))
                | (subst c25; exact k0 (dH_four h36))
            · have s6 := sg2 s5
              first
                | (exfalso; omega)
                | exact k0 (dH_ny (by omega) kl (okN_inL (by decide) h36))
                | (obtain ⟨a, al, rfl⟩ := in_okL (n := 15) (by decide) h36a h36l; exact k0 (dH_nz s5 kl al (okN_inL (by decide) h66)))
                | (obtain ⟨a, al, rfl⟩ := in_okL (n := 15) (by decide) h36a h36l; obtain ⟨b, bl, rfl⟩ := in_okL (n := 15) (by decide) h66a h66l; exact k12 k a b s5 kl al bl (fun e => c74 (by rw [e])) rfl rfl rfl)
                | (obtain ⟨a, al, rfl⟩ := in_okL (n := 15) (by decide) h36a h36l; subst c74; exact k0 (dH_ab s5 kl al))
          · refine x_iload (pc' := 61) rfl rfl rfl ?_
            refine x_i2l (pc' := 62) rfl rfl ?_
            refine x_long (pc' := 63) (v := (nI 0).toInt64) rfl rfl (by decide) ?_
            refine x_long (pc' := 66) (v := (nI 15).toInt64) rfl rfl (by decide) ?_
            refine x_callS (pc' := 69) (d1 := 1) (As := [_, _, _]) rfl rfl rfl rfl (by decide) rfl rfl (Nat.le_of_ble_eq_true rfl) ⟨rfl, rfl⟩ (by decide) ?_
            refine w_X10_in (fun h66a h66l => ?_) (fun h66 => ?_)
            · refine ⟨rfl, ?_⟩
              refine x_if_eq (pc' := 72) rfl rfl (fun c69 => absurd c69 (by decide)) (fun _ => ?_)
              refine x_iload (pc' := 73) rfl rfl rfl ?_
              refine x_iload (pc' := 74) rfl rfl rfl ?_
              refine x_ic_eq (pc' := 77) rfl rfl (fun c74 => ?_) (fun c74 => ?_)
              · refine x_int (pc' := 82) (v := nI 0) rfl rfl rfl ?_
                refine x_zret rfl rfl (by decide) ?_
                have s5 : k = 0 ∨ (1 ≤ k ∧ k < 5) ∨ 5 ≤ k := by omega
                rcases s5 with rfl | ⟨s4, s5⟩ | s5
                · first
                    | exact k10 rfl
                    | (exfalso; exact c18 rfl)
                    | (have s6 := sg0; exfalso; omega)
                · have s6 := sg1 s4 s5
                  first
                    | (exfalso; omega)
                    | (obtain ⟨a, al, rfl⟩ := in_okL (n := 15) (by decide) h36a h36l; exact k11 k a s4 s5 al (by omega) rfl rfl)
                    | (obtain ⟨a, a0, al, rfl⟩ := in_one h36a h36l; exact k11 k a s4 s5 al (by omega) rfl rfl)
                    | exact k0 (dH_ny s4 (by omega) (okN_inL (by decide) h36))
                    | (subst c25; exact k0 (dH_four h36))
                · have s6 := sg2 s5
                  first
                    | (exfalso; omega)
                    | exact k0 (dH_ny (by omega) kl (okN_inL (by decide) h36))
                    | (obtain ⟨a, al, rfl⟩ := in_okL (n := 15) (by decide) h36a h36l; exact k0 (dH_nz s5 kl al (okN_inL (by decide) h66)))
                    | (obtain ⟨a, al, rfl⟩ := in_okL (n := 15) (by decide) h36a h36l; obtain ⟨b, bl, rfl⟩ := in_okL (n := 15) (by decide) h66a h66l; exact k12 k a b s5 kl al bl (fun e => c74 (by rw [e])) rfl rfl rfl)
                    | (obtain ⟨a, al, rfl⟩ := in_okL (n := 15) (by decide) h36a h36l; subst c74; exact k0 (dH_ab s5 kl al))
              · refine x_int (pc' := 78) (v := nI 1) rfl rfl rfl ?_
                refine x_goto rfl ?_
                refine x_zret rfl rfl (by decide) ?_
                have s5 : k = 0 ∨ (1 ≤ k ∧ k < 5) ∨ 5 ≤ k := by omega
                rcases s5 with rfl | ⟨s4, s5⟩ | s5
                · first
                    | exact k10 rfl
                    | (exfalso; exact c18 rfl)
                    | (have s6 := sg0; exfalso; omega)
                · have s6 := sg1 s4 s5
                  first
                    | (exfalso; omega)
                    | (obtain ⟨a, al, rfl⟩ := in_okL (n := 15) (by decide) h36a h36l; exact k11 k a s4 s5 al (by omega) rfl rfl)
                    | (obtain ⟨a, a0, al, rfl⟩ := in_one h36a h36l; exact k11 k a s4 s5 al (by omega) rfl rfl)
                    | exact k0 (dH_ny s4 (by omega) (okN_inL (by decide) h36))
                    | (subst c25; exact k0 (dH_four h36))
                · have s6 := sg2 s5
                  first
                    | (exfalso; omega)
                    | exact k0 (dH_ny (by omega) kl (okN_inL (by decide) h36))
                    | (obtain ⟨a, al, rfl⟩ := in_okL (n := 15) (by decide) h36a h36l; exact k0 (dH_nz s5 kl al (okN_inL (by decide) h66)))
                    | (obtain ⟨a, al, rfl⟩ := in_okL (n := 15) (by decide) h36a h36l; obtain ⟨b, bl, rfl⟩ := in_okL (n := 15) (by decide) h66a h66l; exact k12 k a b s5 kl al bl (fun e => c74 (by rw [e])) rfl rfl rfl)
                    | (obtain ⟨a, al, rfl⟩ := in_okL (n := 15) (by decide) h36a h36l; subst c74; exact k0 (dH_ab s5 kl al))
            · refine ⟨rfl, ?_⟩
              refine x_if_eq (pc' := 72) rfl rfl (fun _ => ?_) (fun c69 => absurd (by decide) c69)
              refine x_int (pc' := 82) (v := nI 0) rfl rfl rfl ?_
              refine x_zret rfl rfl (by decide) ?_
              have s5 : k = 0 ∨ (1 ≤ k ∧ k < 5) ∨ 5 ≤ k := by omega
              rcases s5 with rfl | ⟨s4, s5⟩ | s5
              · first
                  | exact k10 rfl
                  | (exfalso; exact c18 rfl)
                  | (have s6 := sg0; exfalso; omega)
              · have s6 := sg1 s4 s5
                first
                  | (exfalso; omega)
                  | (obtain ⟨a, al, rfl⟩ := in_okL (n := 15) (by decide) h36a h36l; exact k11 k a s4 s5 al (by omega) rfl rfl)
                  | (obtain ⟨a, a0, al, rfl⟩ := in_one h36a h36l; exact k11 k a s4 s5 al (by omega) rfl rfl)
                  | exact k0 (dH_ny s4 (by omega) (okN_inL (by decide) h36))
                  | (subst c25; exact k0 (dH_four h36))
              · have s6 := sg2 s5
                first
                  | (exfalso; omega)
                  | exact k0 (dH_ny (by omega) kl (okN_inL (by decide) h36))
                  | (obtain ⟨a, al, rfl⟩ := in_okL (n := 15) (by decide) h36a h36l; exact k0 (dH_nz s5 kl al (okN_inL (by decide) h66)))
                  | (obtain ⟨a, al, rfl⟩ := in_okL (n := 15) (by decide) h36a h36l; obtain ⟨b, bl, rfl⟩ := in_okL (n := 15) (by decide) h66a h66l; exact k12 k a b s5 kl al bl (fun e => c74 (by rw [e])) rfl rfl rfl)
                  | (obtain ⟨a, al, rfl⟩ := in_okL (n := 15) (by decide) h36a h36l; subst c74; exact k0 (dH_ab s5 kl al))
        · refine ⟨rfl, ?_⟩
          refine x_if_eq (pc' := 42) rfl rfl (fun _ => ?_) (fun c39 => absurd (by decide) c39)
          refine x_int (pc' := 47) (v := nI 0) rfl rfl rfl ?_
          refine x_istore (pc' := 48) (lv' := [_, _, _, _]) rfl rfl (by decide) rfl ?_
          refine x_iload (pc' := 49) rfl rfl rfl ?_
          refine x_if_eq (pc' := 52) rfl rfl (fun _ => ?_) (fun c49 => absurd (by decide) c49)
          refine x_int (pc' := 82) (v := nI 0) rfl rfl rfl ?_
          refine x_zret rfl rfl (by decide) ?_
          have s5 : k = 0 ∨ (1 ≤ k ∧ k < 5) ∨ 5 ≤ k := by omega
          rcases s5 with rfl | ⟨s4, s5⟩ | s5
          · first
              | exact k10 rfl
              | (exfalso; exact c18 rfl)
              | (have s6 := sg0; exfalso; omega)
          · have s6 := sg1 s4 s5
            first
              | (exfalso; omega)
              | (obtain ⟨a, al, rfl⟩ := in_okL (n := 15) (by decide) h36a h36l; exact k11 k a s4 s5 al (by omega) rfl rfl)
              | (obtain ⟨a, a0, al, rfl⟩ := in_one h36a h36l; exact k11 k a s4 s5 al (by omega) rfl rfl)
              | exact k0 (dH_ny s4 (by omega) (okN_inL (by decide) h36))
              | (subst c25; exact k0 (dH_four h36))
          · have s6 := sg2 s5
            first
              | (exfalso; omega)
              | exact k0 (dH_ny (by omega) kl (okN_inL (by decide) h36))
              | (obtain ⟨a, al, rfl⟩ := in_okL (n := 15) (by decide) h36a h36l; exact k0 (dH_nz s5 kl al (okN_inL (by decide) h66)))
              | (obtain ⟨a, al, rfl⟩ := in_okL (n := 15) (by decide) h36a h36l; obtain ⟨b, bl, rfl⟩ := in_okL (n := 15) (by decide) h66a h66l; exact k12 k a b s5 kl al bl (fun e => c74 (by rw [e])) rfl rfl rfl)
              | (obtain ⟨a, al, rfl⟩ := in_okL (n := 15) (by decide) h36a h36l; subst c74; exact k0 (dH_ab s5 kl al))
      · refine x_long (pc' := 29) (v := (nI 1).toInt64) rfl rfl (by decide) ?_
        refine x_goto rfl ?_
        refine x_long (pc' := 36) (v := (nI 15).toInt64) rfl rfl (by decide) ?_
        refine x_callS (pc' := 39) (d1 := 1) (As := [_, _, _]) rfl rfl rfl rfl (by decide) rfl rfl (Nat.le_of_ble_eq_true rfl) ⟨rfl, rfl⟩ (by decide) ?_
        refine w_X10_in (fun h36a h36l => ?_) (fun h36 => ?_)
        · refine ⟨rfl, ?_⟩
          refine x_if_eq (pc' := 42) rfl rfl (fun c39 => absurd c39 (by decide)) (fun _ => ?_)
          refine x_int (pc' := 43) (v := nI 1) rfl rfl rfl ?_
          refine x_goto rfl ?_
          refine x_istore (pc' := 48) (lv' := [_, _, _, _]) rfl rfl (by decide) rfl ?_
          refine x_iload (pc' := 49) rfl rfl rfl ?_
          refine x_if_eq (pc' := 52) rfl rfl (fun c49 => absurd c49 (by decide)) (fun _ => ?_)
          refine x_iload (pc' := 53) rfl rfl rfl ?_
          refine x_callS (pc' := 56) (d1 := 1) (As := [_]) rfl rfl rfl rfl (by decide) rfl rfl (Nat.le_of_ble_eq_true rfl) ⟨rfl, rfl⟩ (by decide) ?_
          refine w_X10_needs kl ?_
          refine ⟨rfl, ?_⟩
          refine x_int (pc' := 57) (v := nI 2) rfl rfl rfl ?_
          refine y_ic_lt (pc' := 60) rfl rfl (by first | omega | (have := sg_lt k; omega)) (by first | omega | (have := sg_lt k; omega)) (fun c57 => ?_) (fun c57 => ?_)
          · refine x_int (pc' := 78) (v := nI 1) rfl rfl rfl ?_
            refine x_goto rfl ?_
            refine x_zret rfl rfl (by decide) ?_
            have s5 : k = 0 ∨ (1 ≤ k ∧ k < 5) ∨ 5 ≤ k := by omega
            rcases s5 with rfl | ⟨s4, s5⟩ | s5
            · first
                | exact k10 rfl
                | (exfalso; exact c18 rfl)
                | (have s6 := sg0; exfalso; omega)
            · have s6 := sg1 s4 s5
              first
                | (exfalso; omega)
                | (obtain ⟨a, al, rfl⟩ := in_okL (n := 15) (by decide) h36a h36l; exact k11 k a s4 s5 al (by omega) rfl rfl)
                | (obtain ⟨a, a0, al, rfl⟩ := in_one h36a h36l; exact k11 k a s4 s5 al (by omega) rfl rfl)
                | exact k0 (dH_ny s4 (by omega) (okN_inL (by decide) h36))
                | (subst c25; exact k0 (dH_four h36))
            · have s6 := sg2 s5
              first
                | (exfalso; omega)
                | exact k0 (dH_ny (by omega) kl (okN_inL (by decide) h36))
                | (obtain ⟨a, al, rfl⟩ := in_okL (n := 15) (by decide) h36a h36l; exact k0 (dH_nz s5 kl al (okN_inL (by decide) h66)))
                | (obtain ⟨a, al, rfl⟩ := in_okL (n := 15) (by decide) h36a h36l; obtain ⟨b, bl, rfl⟩ := in_okL (n := 15) (by decide) h66a h66l; exact k12 k a b s5 kl al bl (fun e => c74 (by rw [e])) rfl rfl rfl)
                | (obtain ⟨a, al, rfl⟩ := in_okL (n := 15) (by decide) h36a h36l; subst c74; exact k0 (dH_ab s5 kl al))
          · refine x_iload (pc' := 61) rfl rfl rfl ?_
            refine x_i2l (pc' := 62) rfl rfl ?_
            refine x_long (pc' := 63) (v := (nI 0).toInt64) rfl rfl (by decide) ?_
            refine x_long (pc' := 66) (v := (nI 15).toInt64) rfl rfl (by decide) ?_
            refine x_callS (pc' := 69) (d1 := 1) (As := [_, _, _]) rfl rfl rfl rfl (by decide) rfl rfl (Nat.le_of_ble_eq_true rfl) ⟨rfl, rfl⟩ (by decide) ?_
            refine w_X10_in (fun h66a h66l => ?_) (fun h66 => ?_)
            · refine ⟨rfl, ?_⟩
              refine x_if_eq (pc' := 72) rfl rfl (fun c69 => absurd c69 (by decide)) (fun _ => ?_)
              refine x_iload (pc' := 73) rfl rfl rfl ?_
              refine x_iload (pc' := 74) rfl rfl rfl ?_
              refine x_ic_eq (pc' := 77) rfl rfl (fun c74 => ?_) (fun c74 => ?_)
              · refine x_int (pc' := 82) (v := nI 0) rfl rfl rfl ?_
                refine x_zret rfl rfl (by decide) ?_
                have s5 : k = 0 ∨ (1 ≤ k ∧ k < 5) ∨ 5 ≤ k := by omega
                rcases s5 with rfl | ⟨s4, s5⟩ | s5
                · first
                    | exact k10 rfl
                    | (exfalso; exact c18 rfl)
                    | (have s6 := sg0; exfalso; omega)
                · have s6 := sg1 s4 s5
                  first
                    | (exfalso; omega)
                    | (obtain ⟨a, al, rfl⟩ := in_okL (n := 15) (by decide) h36a h36l; exact k11 k a s4 s5 al (by omega) rfl rfl)
                    | (obtain ⟨a, a0, al, rfl⟩ := in_one h36a h36l; exact k11 k a s4 s5 al (by omega) rfl rfl)
                    | exact k0 (dH_ny s4 (by omega) (okN_inL (by decide) h36))
                    | (subst c25; exact k0 (dH_four h36))
                · have s6 := sg2 s5
                  first
                    | (exfalso; omega)
                    | exact k0 (dH_ny (by omega) kl (okN_inL (by decide) h36))
                    | (obtain ⟨a, al, rfl⟩ := in_okL (n := 15) (by decide) h36a h36l; exact k0 (dH_nz s5 kl al (okN_inL (by decide) h66)))
                    | (obtain ⟨a, al, rfl⟩ := in_okL (n := 15) (by decide) h36a h36l; obtain ⟨b, bl, rfl⟩ := in_okL (n := 15) (by decide) h66a h66l; exact k12 k a b s5 kl al bl (fun e => c74 (by rw [e])) rfl rfl rfl)
                    | (obtain ⟨a, al, rfl⟩ := in_okL (n := 15) (by decide) h36a h36l; subst c74; exact k0 (dH_ab s5 kl al))
              · refine x_int (pc' := 78) (v := nI 1) rfl rfl rfl ?_
                refine x_goto rfl ?_
                refine x_zret rfl rfl (by decide) ?_
                have s5 : k = 0 ∨ (1 ≤ k ∧ k < 5) ∨ 5 ≤ k := by omega
                rcases s5 with rfl | ⟨s4, s5⟩ | s5
                · first
                    | exact k10 rfl
                    | (exfalso; exact c18 rfl)
                    | (have s6 := sg0; exfalso; omega)
                · have s6 := sg1 s4 s5
                  first
                    | (exfalso; omega)
                    | (obtain ⟨a, al, rfl⟩ := in_okL (n := 15) (by decide) h36a h36l; exact k11 k a s4 s5 al (by omega) rfl rfl)
                    | (obtain ⟨a, a0, al, rfl⟩ := in_one h36a h36l; exact k11 k a s4 s5 al (by omega) rfl rfl)
                    | exact k0 (dH_ny s4 (by omega) (okN_inL (by decide) h36))
                    | (subst c25; exact k0 (dH_four h36))
                · have s6 := sg2 s5
                  first
                    | (exfalso; omega)
                    | exact k0 (dH_ny (by omega) kl (okN_inL (by decide) h36))
                    | (obtain ⟨a, al, rfl⟩ := in_okL (n := 15) (by decide) h36a h36l; exact k0 (dH_nz s5 kl al (okN_inL (by decide) h66)))
                    | (obtain ⟨a, al, rfl⟩ := in_okL (n := 15) (by decide) h36a h36l; obtain ⟨b, bl, rfl⟩ := in_okL (n := 15) (by decide) h66a h66l; exact k12 k a b s5 kl al bl (fun e => c74 (by rw [e])) rfl rfl rfl)
                    | (obtain ⟨a, al, rfl⟩ := in_okL (n := 15) (by decide) h36a h36l; subst c74; exact k0 (dH_ab s5 kl al))
            · refine ⟨rfl, ?_⟩
              refine x_if_eq (pc' := 72) rfl rfl (fun _ => ?_) (fun c69 => absurd (by decide) c69)
              refine x_int (pc' := 82) (v := nI 0) rfl rfl rfl ?_
              refine x_zret rfl rfl (by decide) ?_
              have s5 : k = 0 ∨ (1 ≤ k ∧ k < 5) ∨ 5 ≤ k := by omega
              rcases s5 with rfl | ⟨s4, s5⟩ | s5
              · first
                  | exact k10 rfl
                  | (exfalso; exact c18 rfl)
                  | (have s6 := sg0; exfalso; omega)
              · have s6 := sg1 s4 s5
                first
                  | (exfalso; omega)
                  | (obtain ⟨a, al, rfl⟩ := in_okL (n := 15) (by decide) h36a h36l; exact k11 k a s4 s5 al (by omega) rfl rfl)
                  | (obtain ⟨a, a0, al, rfl⟩ := in_one h36a h36l; exact k11 k a s4 s5 al (by omega) rfl rfl)
                  | exact k0 (dH_ny s4 (by omega) (okN_inL (by decide) h36))
                  | (subst c25; exact k0 (dH_four h36))
              · have s6 := sg2 s5
                first
                  | (exfalso; omega)
                  | exact k0 (dH_ny (by omega) kl (okN_inL (by decide) h36))
                  | (obtain ⟨a, al, rfl⟩ := in_okL (n := 15) (by decide) h36a h36l; exact k0 (dH_nz s5 kl al (okN_inL (by decide) h66)))
                  | (obtain ⟨a, al, rfl⟩ := in_okL (n := 15) (by decide) h36a h36l; obtain ⟨b, bl, rfl⟩ := in_okL (n := 15) (by decide) h66a h66l; exact k12 k a b s5 kl al bl (fun e => c74 (by rw [e])) rfl rfl rfl)
                  | (obtain ⟨a, al, rfl⟩ := in_okL (n := 15) (by decide) h36a h36l; subst c74; exact k0 (dH_ab s5 kl al))
        · refine ⟨rfl, ?_⟩
          refine x_if_eq (pc' := 42) rfl rfl (fun _ => ?_) (fun c39 => absurd (by decide) c39)
          refine x_int (pc' := 47) (v := nI 0) rfl rfl rfl ?_
          refine x_istore (pc' := 48) (lv' := [_, _, _, _]) rfl rfl (by decide) rfl ?_
          refine x_iload (pc' := 49) rfl rfl rfl ?_
          refine x_if_eq (pc' := 52) rfl rfl (fun _ => ?_) (fun c49 => absurd (by decide) c49)
          refine x_int (pc' := 82) (v := nI 0) rfl rfl rfl ?_
          refine x_zret rfl rfl (by decide) ?_
          have s5 : k = 0 ∨ (1 ≤ k ∧ k < 5) ∨ 5 ≤ k := by omega
          rcases s5 with rfl | ⟨s4, s5⟩ | s5
          · first
              | exact k10 rfl
              | (exfalso; exact c18 rfl)
              | (have s6 := sg0; exfalso; omega)
          · have s6 := sg1 s4 s5
            first
              | (exfalso; omega)
              | (obtain ⟨a, al, rfl⟩ := in_okL (n := 15) (by decide) h36a h36l; exact k11 k a s4 s5 al (by omega) rfl rfl)
              | (obtain ⟨a, a0, al, rfl⟩ := in_one h36a h36l; exact k11 k a s4 s5 al (by omega) rfl rfl)
              | exact k0 (dH_ny s4 (by omega) (okN_inL (by decide) h36))
              | (subst c25; exact k0 (dH_four h36))
          · have s6 := sg2 s5
            first
              | (exfalso; omega)
              | exact k0 (dH_ny (by omega) kl (okN_inL (by decide) h36))
              | (obtain ⟨a, al, rfl⟩ := in_okL (n := 15) (by decide) h36a h36l; exact k0 (dH_nz s5 kl al (okN_inL (by decide) h66)))
              | (obtain ⟨a, al, rfl⟩ := in_okL (n := 15) (by decide) h36a h36l; obtain ⟨b, bl, rfl⟩ := in_okL (n := 15) (by decide) h66a h66l; exact k12 k a b s5 kl al bl (fun e => c74 (by rw [e])) rfl rfl rfl)
              | (obtain ⟨a, al, rfl⟩ := in_okL (n := 15) (by decide) h36a h36l; subst c74; exact k0 (dH_ab s5 kl al))
  · refine ⟨rfl, ?_⟩
    refine x_if_ne (pc' := 12) rfl rfl (fun c9 => absurd (by decide) c9) (fun _ => ?_)
    refine x_int (pc' := 13) (v := nI 0) rfl rfl rfl ?_
    refine x_zret rfl rfl (by decide) ?_
    exact k0 (dH_nx (okN_inL (by decide) h6))
def upH (T : TW) (w k a b : Nat) : TW := bh_up2 (bh_up2 (bh_up2 T 2 w (nI k)) 3 w (nI a)) 4 w (nI b)
def teachR (T : TW) (x u y z : Int32) : Int32 × Option TW := match dN (nw T) x, dH u y z with
  | some w, some (k, a, b) => if isD T w = true then (-4, none) else if kd T w = k ∧ fa T w = a ∧ fb T w = b then (-2, none) else (T 2 w, some (upH T w k a b))
  | _, _ => (-1, none)
theorem upH_2 (T : TW) (w k a b v : Nat) : upH T w k a b 2 v = if v = w then nI k else T 2 v := by
  unfold upH; rw [bh_up2_ne _ _ _ (by decide), bh_up2_ne _ _ _ (by decide), bh_up2_k]
theorem upH_3 (T : TW) (w k a b v : Nat) : upH T w k a b 3 v = if v = w then nI a else T 3 v := by
  unfold upH; rw [bh_up2_ne _ _ _ (by decide), bh_up2_k]; rfl
theorem upH_4 (T : TW) (w k a b v : Nat) : upH T w k a b 4 v = if v = w then nI b else T 4 v := by
  unfold upH; rw [bh_up2_k]; rfl
theorem wf_hab {T : TW} (hW : WF T) {w k a b : Nat} (h : hok k a b) : WF (upH T w k a b) := by
  refine ⟨hW.1, fun v hv => ?_, hW.2.2.1, hW.2.2.2.1, hW.2.2.2.2⟩
  obtain ⟨a1, a2, a3, a4, a5, a6, a7⟩ := hW.2.1 v hv
  refine ⟨a1, ?_, ?_, ?_, ?_, a6, a7⟩
  · rw [upH_2]; by_cases e : v = w
    · rw [if_pos e]; exact is_nI h.1 (by decide)
    · rw [if_neg e]; exact a2
  · rw [upH_3]; by_cases e : v = w
    · rw [if_pos e]; exact is_nI h.2.1 (by decide)
    · rw [if_neg e]; exact a3
  · rw [upH_4]; by_cases e : v = w
    · rw [if_pos e]; exact is_nI h.2.2.1 (by decide)
    · rw [if_neg e]; exact a4
  · unfold kd fa fb
    rw [upH_2, upH_3, upH_4]; by_cases e : v = w
    · rw [if_pos e, if_pos e, if_pos e, nI_clamp (by have := h.1; omega), nI_clamp (by have := h.2.1; omega), nI_clamp (by have := h.2.2.1; omega)]; exact h
    · rw [if_neg e, if_neg e, if_neg e]; exact a5
theorem teach_good {T : TW} {ps : List TW} {sh : Nat → Option TW} (x u y z : Int32) (hG : Good T ps sh) : Good (nxT T (teachR T x u y z).2) (nxP T ps (teachR T x u y z).2) sh := by
  refine good_nx hG (fun T' h => ?_)
  have h12 := hG.1.nwl
  unfold teachR at h
  split at h
  next w k a b hw hd =>
    split at h
    · cases h
    split at h
    · cases h
    · cases h
      exact wf_hab hG.1 (dH_hok hd)
  next => cases h
theorem rn_hab {T : TW} {N : Nat → Int32} (hW : WF T) (hR : Rn T N) {w k a b : Nat} {y z : Int32} (hw : w < nw T) (hk : k < 7) (hy : 1 ≤ k → y = nI a) (hz : 5 ≤ k → z = nI b) : Rn (upH T w k a b) (fun q => if q = 4 + 10 * w + 3 then z else if q = 4 + 10 * w + 2 then y else if q = 4 + 10 * w + 1 then nI k else N q) := by
  have h1 := hW.nsl
  have h12 := hW.nwl
  have h4 := hW.nbl
  have X : ∀ q, q ≠ 4 + 10 * w + 3 → q ≠ 4 + 10 * w + 2 → q ≠ 4 + 10 * w + 1 → (if q = 4 + 10 * w + 3 then z else if q = 4 + 10 * w + 2 then y else if q = 4 + 10 * w + 1 then nI k else N q) = N q := fun k a b c => by rw [if_neg a, if_neg b, if_neg c]
  refine ⟨⟨(X 0 (by omega) (by omega) (by omega)).trans hR.1.1, (X 1 (by omega) (by omega) (by omega)).trans hR.1.2.1, (X 2 (by omega) (by omega) (by omega)).trans hR.1.2.2.1, (X 3 (by omega) (by omega) (by omega)).trans hR.1.2.2.2⟩, fun v hv => ?_, fun b hb => ⟨(X _ (by omega) (by omega) (by omega)).trans (hR.2.2.1 b hb).1, fun q hq => (X _ (by omega) (by omega) (by omega)).trans ((hR.2.2.1 b hb).2 q hq)⟩, fun w b q hw hb hq hs => (X _ (by omega) (by omega) (by omega)).trans (hR.2.2.2.1 w b q hw hb hq hs), fun i hi => (X _ (by omega) (by omega) (by omega)).trans (hR.2.2.2.2 i hi)⟩
  have h := hR.2.1 v hv
  have hw3 : v < nw T := hv
  refine ⟨(X _ (by omega) (by omega) (by omega)).trans h.1, ?_, fun hk => ?_, fun hk => ?_, (X _ (by omega) (by omega) (by omega)).trans h.2.2.2.2.1, (X _ (by omega) (by omega) (by omega)).trans h.2.2.2.2.2.1, (X _ (by omega) (by omega) (by omega)).trans h.2.2.2.2.2.2.1, (X _ (by omega) (by omega) (by omega)).trans h.2.2.2.2.2.2.2.1, (X _ (by omega) (by omega) (by omega)).trans h.2.2.2.2.2.2.2.2.1, (X _ (by omega) (by omega) (by omega)).trans h.2.2.2.2.2.2.2.2.2⟩
  · rw [upH_2]
    dsimp only
    by_cases e : v = w
    · rw [if_neg (by omega), if_neg (by omega), if_pos (by omega), if_pos e]
    · rw [if_neg e, X _ (by omega) (by omega) (by omega)]; exact h.2.1
  · have hk2 : 1 ≤ (upH T w k a b 2 v).toNatClampNeg := hk
    rw [upH_2] at hk2
    rw [upH_3]
    dsimp only
    by_cases e : v = w
    · rw [if_pos e, nI_clamp (by omega)] at hk2
      rw [if_neg (by omega), if_pos (by omega), if_pos e, hy hk2]
    · rw [if_neg e] at hk2
      rw [if_neg e, X _ (by omega) (by omega) (by omega)]; exact h.2.2.1 hk2
  · have hk2 : 5 ≤ (upH T w k a b 2 v).toNatClampNeg := hk
    rw [upH_2] at hk2
    rw [upH_4]
    dsimp only
    by_cases e : v = w
    · rw [if_pos e, nI_clamp (by omega)] at hk2
      rw [if_pos (by omega), if_pos e, hz hk2]
    · rw [if_neg e] at hk2
      rw [if_neg e, X _ (by omega) (by omega) (by omega)]; exact h.2.2.2.1 hk2
set_option maxRecDepth 20000 in
set_option maxHeartbeats 1000000 in
theorem w_X7_setHabit {D : Nat → Nat → Int32} {L : Nat → Nat → Int64} {Q : bh_Q} {w : Nat} {x y z : Int32} (hw : w < 12) (k1 : Q none (hp (bh_up2 (bh_up2 (bh_up2 D 3 w x) 4 w y) 5 w z) L)) : bh_wc 1 m_X7_setHabit [.ref 1, .int (nI w), .int x, .int y, .int z] (hp D L) Q := by
  refine x_start (lv0 := [_, _, _, _, _]) (Nat.le_of_ble_eq_true rfl) rfl ?_
  refine x_aload (pc' := 1) rfl rfl rfl ?_
  refine x_getR (pc' := 4) rfl rfl rfl (by decide) rfl (by decide) rfl rfl ?_
  refine x_iload (pc' := 5) rfl rfl rfl ?_
  refine x_iload (pc' := 6) rfl rfl rfl ?_
  refine x_iast (pc' := 7) rfl rfl (by decide) rfl (by decide) (show _ < 12 by omega) ?_
  refine x_aload (pc' := 8) rfl rfl rfl ?_
  refine x_getR (pc' := 11) rfl rfl rfl (by decide) rfl (by decide) rfl rfl ?_
  refine x_iload (pc' := 12) rfl rfl rfl ?_
  refine x_iload (pc' := 13) rfl rfl rfl ?_
  refine x_iast (pc' := 14) rfl rfl (by decide) rfl (by decide) (show _ < 12 by omega) ?_
  refine x_aload (pc' := 15) rfl rfl rfl ?_
  refine x_getR (pc' := 18) rfl rfl rfl (by decide) rfl (by decide) rfl rfl ?_
  refine x_iload (pc' := 19) rfl rfl rfl ?_
  refine x_iload (pc' := 21) rfl rfl rfl ?_
  refine x_iast (pc' := 22) rfl rfl (by decide) rfl (by decide) (show _ < 12 by omega) ?_
  refine x_vret rfl rfl ?_
  exact k1
set_option maxRecDepth 20000 in
set_option maxHeartbeats 1000000 in
theorem w_X9_teach {D : Nat → Nat → Int32} {L : Nat → Nat → Int64} {Q : bh_Q} {ps : List TW} {sh : Nat → Option TW} {tp : List Nat} (hI : InvC D ps sh tp) (hG : Good (tv D) ps sh) {x u y z : Int32} (k1 : ∀ D1, (∀ k, 205 ≤ k → D1 k = D k) → tv D1 = nxT (tv D) (teachR (tv D) x u y z).2 → InvC D1 (nxP (tv D) ps (teachR (tv D) x u y z).2) sh tp → Q (some (.int (teachR (tv D) x u y z).1)) (hp D1 L)) : bh_wc 4 m_X9_teach [.ref 0, .int x, .int u, .int y, .int z] (hp D L) Q := by
  refine x_start (lv0 := [_, _, _, _, _, _, _, _]) (Nat.le_of_ble_eq_true rfl) rfl ?_
  have hW := hG.1
  have h12 := hW.nwl
  have hH := hI.1
  refine x_aload (pc' := 1) rfl rfl rfl ?_
  refine x_getR (pc' := 4) rfl rfl rfl (by decide) rfl (by decide) rfl rfl ?_
  refine x_iload (pc' := 5) rfl rfl rfl ?_
  refine x_callV (pc' := 8) (d1 := 1) (Bs := [_]) rfl rfl rfl rfl rfl rfl rfl (Nat.le_of_ble_eq_true rfl) ⟨rfl, rfl⟩ (by decide) rfl (by decide) ?_
  refine w_X7_isWriter hW (fun h5w h5l e => ?_) (fun h5 => ?_)
  · subst e
    refine ⟨rfl, ?_⟩
    refine x_if_eq (pc' := 11) rfl rfl (fun c8 => absurd c8 (by decide)) (fun _ => ?_)
    refine x_iload (pc' := 12) rfl rfl rfl ?_
    refine x_iload (pc' := 13) rfl rfl rfl ?_
    refine x_iload (pc' := 15) rfl rfl rfl ?_
    refine x_callS (pc' := 18) (d1 := 2) (As := [_, _, _]) rfl rfl rfl rfl (by decide) rfl rfl (Nat.le_of_ble_eq_true rfl) ⟨rfl, rfl⟩ (by decide) ?_
    refine w_X1_stands (fun e15 => ?_) (fun k a k1l k5l al n4 e15 f15 => ?_) (fun k a b k5l k7l al bl nab e15 f15 g15 => ?_) (fun hs => ?_)
    · subst e15
      refine ⟨rfl, ?_⟩
      refine x_if_ne (pc' := 21) rfl rfl (fun _ => ?_) (fun c18 => absurd c18 (by decide))
      refine x_aload (pc' := 24) rfl rfl rfl ?_
      refine x_getR (pc' := 27) rfl rfl rfl (by decide) rfl (by decide) rfl rfl ?_
      refine x_iload (pc' := 28) rfl rfl rfl ?_
      refine x_callV (pc' := 31) (d1 := 1) (Bs := [_]) rfl rfl rfl rfl rfl rfl rfl (Nat.le_of_ble_eq_true rfl) ⟨rfl, rfl⟩ (by decide) rfl (by decide) ?_
      refine w_X7_isDead hW (by assumption) (fun h28 => ?_) (fun h28 => ?_)
      · refine ⟨rfl, ?_⟩
        refine x_if_eq (pc' := 34) rfl rfl (fun c31 => absurd c31 (by decide)) (fun _ => ?_)
        refine x_int (pc' := 36) (v := (-4)) rfl rfl rfl ?_
        refine x_iret rfl rfl ?_
        have e : teachR (tv D) (nI h5w) (nI 0) y z = (-4, none) := by unfold teachR; rw [dN_some h5l (by omega), dH_0]; dsimp only; exact if_pos h28
        rw [e] at k1
        exact k1 D (fun _ _ => rfl) rfl hI
      · refine ⟨rfl, ?_⟩
        refine x_if_eq (pc' := 34) rfl rfl (fun _ => ?_) (fun c31 => absurd (by decide) c31)
        refine x_iload (pc' := 38) rfl rfl rfl ?_
        refine x_callS (pc' := 41) (d1 := 1) (As := [_]) rfl rfl rfl rfl (by decide) rfl rfl (Nat.le_of_ble_eq_true rfl) ⟨rfl, rfl⟩ (by decide) ?_
        refine w_X1_signsOf (by omega) ?_
        refine ⟨rfl, ?_⟩
        refine x_top (congrArg nI (sg0)) ?_
        refine x_if_le (pc' := 44) rfl rfl (fun _ => ?_) (fun c41 => absurd (by decide) c41)
        refine x_int (pc' := 49) (v := nI 0) rfl rfl rfl ?_
        refine x_istore (pc' := 51) (lv' := [_, _, _, _, _, _, _, _]) rfl rfl (by decide) rfl ?_
        refine x_iload (pc' := 52) rfl rfl rfl ?_
        refine x_callS (pc' := 55) (d1 := 1) (As := [_]) rfl rfl rfl rfl (by decide) rfl rfl (Nat.le_of_ble_eq_true rfl) ⟨rfl, rfl⟩ (by decide) ?_
        refine w_X1_signsOf (by omega) ?_
        refine ⟨rfl, ?_⟩
        refine x_top (congrArg nI (sg0)) ?_
        refine x_int (pc' := 56) (v := nI 1) rfl rfl rfl ?_
        refine x_ic_le (pc' := 59) rfl rfl (fun _ => ?_) (fun c56 => absurd (by decide) c56)
        refine x_int (pc' := 65) (v := nI 0) rfl rfl rfl ?_
        refine x_istore (pc' := 67) (lv' := [_, _, _, _, _, _, _, _]) rfl rfl (by decide) rfl ?_
        refine x_aload (pc' := 68) rfl rfl rfl ?_
        refine x_getR (pc' := 71) rfl rfl rfl (by decide) rfl (by decide) rfl rfl ?_
        refine x_iload (pc' := 72) rfl rfl rfl ?_
        refine x_iload (pc' := 73) rfl rfl rfl ?_
        refine x_iload (pc' := 75) rfl rfl rfl ?_
        refine x_iload (pc' := 77) rfl rfl rfl ?_
        refine x_callV (pc' := 80) (d1 := 1) (Bs := [_, _, _, _]) rfl rfl rfl rfl rfl rfl rfl (Nat.le_of_ble_eq_true rfl) ⟨rfl, rfl⟩ (by decide) rfl (by decide) ?_
        refine w_X7_hasHabit hW h5l (by omega) (by omega) (by omega) (fun q1 q2 q3 => ?_) (fun h77 => ?_)
        · refine ⟨rfl, ?_⟩
          refine x_if_eq (pc' := 83) rfl rfl (fun c80 => absurd c80 (by decide)) (fun _ => ?_)
          refine x_int (pc' := 85) (v := (-2)) rfl rfl rfl ?_
          refine x_iret rfl rfl ?_
          have e : teachR (tv D) (nI h5w) (nI 0) y z = (-2, none) := by unfold teachR; rw [dN_some h5l (by omega), dH_0]; dsimp only; rw [if_neg (by rw [h28]; decide)]; exact if_pos ⟨q1, q2, q3⟩
          rw [e] at k1
          exact k1 D (fun _ _ => rfl) rfl hI
        · refine ⟨rfl, ?_⟩
          refine x_if_eq (pc' := 83) rfl rfl (fun _ => ?_) (fun c80 => absurd (by decide) c80)
          refine x_aload (pc' := 87) rfl rfl rfl ?_
          refine x_callV (pc' := 90) (d1 := 3) (Bs := []) rfl rfl rfl rfl rfl rfl rfl (Nat.le_of_ble_eq_true rfl) ⟨rfl, rfl⟩ (by decide) rfl (by decide) ?_
          refine w_X9_remember hH (fun D1 f1 g1 hH1 => ?_)
          refine ⟨rfl, ?_⟩
          refine x_aload (pc' := 91) rfl rfl rfl ?_
          refine x_getR (pc' := 94) rfl rfl rfl (by decide) rfl (by decide) rfl rfl ?_
          refine x_getR (pc' := 97) rfl rfl rfl (by decide) rfl (by decide) rfl rfl ?_
          refine x_iload (pc' := 98) rfl rfl rfl ?_
          refine x_iald (pc' := 99) rfl rfl (by decide) rfl (by decide) (show _ < 12 by omega) ?_
          refine x_top (congrFun (f1 3 (by decide) (by decide)) h5w) ?_
          refine x_istore (pc' := 101) (lv' := [_, _, _, _, _, _, _, _]) rfl rfl (by decide) rfl ?_
          refine x_aload (pc' := 102) rfl rfl rfl ?_
          refine x_getR (pc' := 105) rfl rfl rfl (by decide) rfl (by decide) rfl rfl ?_
          refine x_iload (pc' := 106) rfl rfl rfl ?_
          refine x_iload (pc' := 107) rfl rfl rfl ?_
          refine x_iload (pc' := 109) rfl rfl rfl ?_
          refine x_iload (pc' := 111) rfl rfl rfl ?_
          refine x_callV (pc' := 114) (d1 := 1) (Bs := [_, _, _, _]) rfl rfl rfl rfl rfl rfl rfl (Nat.le_of_ble_eq_true rfl) ⟨rfl, rfl⟩ (by decide) rfl (by decide) ?_
          refine w_X7_setHabit (by omega) ?_
          refine ⟨rfl, ?_⟩
          refine x_iload (pc' := 116) rfl rfl rfl ?_
          refine x_iret rfl rfl ?_
          have e : teachR (tv D) (nI h5w) (nI 0) y z = (tv D 2 h5w, some (upH (tv D) h5w 0 0 0)) := by unfold teachR; rw [dN_some h5l (by omega), dH_0]; dsimp only; rw [if_neg (by rw [h28]; decide)]; exact if_neg h77
          refine actC hI f1 g1 hH1 k1 e rfl (fun k a b => ?_) ?_
          · rw [bh_up2_ne _ _ _ (by omega), bh_up2_ne _ _ _ (by omega), bh_up2_ne _ _ _ (by omega)]
          · rw [tv_up (j := 4) rfl (by decide), tv_up (j := 3) rfl (by decide), tv_up (j := 2) rfl (by decide), frc_tv f1]; rfl
    · subst e15; subst f15
      refine ⟨rfl, ?_⟩
      refine x_if_ne (pc' := 21) rfl rfl (fun _ => ?_) (fun c18 => absurd c18 (by decide))
      refine x_aload (pc' := 24) rfl rfl rfl ?_
      refine x_getR (pc' := 27) rfl rfl rfl (by decide) rfl (by decide) rfl rfl ?_
      refine x_iload (pc' := 28) rfl rfl rfl ?_
      refine x_callV (pc' := 31) (d1 := 1) (Bs := [_]) rfl rfl rfl rfl rfl rfl rfl (Nat.le_of_ble_eq_true rfl) ⟨rfl, rfl⟩ (by decide) rfl (by decide) ?_
      refine w_X7_isDead hW (by assumption) (fun h28 => ?_) (fun h28 => ?_)
      · refine ⟨rfl, ?_⟩
        refine x_if_eq (pc' := 34) rfl rfl (fun c31 => absurd c31 (by decide)) (fun _ => ?_)
        refine x_int (pc' := 36) (v := (-4)) rfl rfl rfl ?_
        refine x_iret rfl rfl ?_
        have e : teachR (tv D) (nI h5w) (nI k) (nI a) z = (-4, none) := by unfold teachR; rw [dN_some h5l (by omega), dH_1 k1l k5l al n4]; dsimp only; exact if_pos h28
        rw [e] at k1
        exact k1 D (fun _ _ => rfl) rfl hI
      · refine ⟨rfl, ?_⟩
        refine x_if_eq (pc' := 34) rfl rfl (fun _ => ?_) (fun c31 => absurd (by decide) c31)
        refine x_iload (pc' := 38) rfl rfl rfl ?_
        refine x_callS (pc' := 41) (d1 := 1) (As := [_]) rfl rfl rfl rfl (by decide) rfl rfl (Nat.le_of_ble_eq_true rfl) ⟨rfl, rfl⟩ (by decide) ?_
        refine w_X1_signsOf (by omega) ?_
        refine ⟨rfl, ?_⟩
        refine x_top (congrArg nI (sg1 k1l k5l)) ?_
        refine x_if_le (pc' := 44) rfl rfl (fun c41 => absurd c41 (by decide)) (fun _ => ?_)
        refine x_iload (pc' := 45) rfl rfl rfl ?_
        refine x_goto rfl ?_
        refine x_istore (pc' := 51) (lv' := [_, _, _, _, _, _, _, _]) rfl rfl (by decide) rfl ?_
        refine x_iload (pc' := 52) rfl rfl rfl ?_
        refine x_callS (pc' := 55) (d1 := 1) (As := [_]) rfl rfl rfl rfl (by decide) rfl rfl (Nat.le_of_ble_eq_true rfl) ⟨rfl, rfl⟩ (by decide) ?_
        refine w_X1_signsOf (by omega) ?_
        refine ⟨rfl, ?_⟩
        refine x_top (congrArg nI (sg1 k1l k5l)) ?_
        refine x_int (pc' := 56) (v := nI 1) rfl rfl rfl ?_
        refine x_ic_le (pc' := 59) rfl rfl (fun _ => ?_) (fun c56 => absurd (by decide) c56)
        refine x_int (pc' := 65) (v := nI 0) rfl rfl rfl ?_
        refine x_istore (pc' := 67) (lv' := [_, _, _, _, _, _, _, _]) rfl rfl (by decide) rfl ?_
        refine x_aload (pc' := 68) rfl rfl rfl ?_
        refine x_getR (pc' := 71) rfl rfl rfl (by decide) rfl (by decide) rfl rfl ?_
        refine x_iload (pc' := 72) rfl rfl rfl ?_
        refine x_iload (pc' := 73) rfl rfl rfl ?_
        refine x_iload (pc' := 75) rfl rfl rfl ?_
        refine x_iload (pc' := 77) rfl rfl rfl ?_
        refine x_callV (pc' := 80) (d1 := 1) (Bs := [_, _, _, _]) rfl rfl rfl rfl rfl rfl rfl (Nat.le_of_ble_eq_true rfl) ⟨rfl, rfl⟩ (by decide) rfl (by decide) ?_
        refine w_X7_hasHabit hW h5l (by omega) (by omega) (by omega) (fun q1 q2 q3 => ?_) (fun h77 => ?_)
        · refine ⟨rfl, ?_⟩
          refine x_if_eq (pc' := 83) rfl rfl (fun c80 => absurd c80 (by decide)) (fun _ => ?_)
          refine x_int (pc' := 85) (v := (-2)) rfl rfl rfl ?_
          refine x_iret rfl rfl ?_
          have e : teachR (tv D) (nI h5w) (nI k) (nI a) z = (-2, none) := by unfold teachR; rw [dN_some h5l (by omega), dH_1 k1l k5l al n4]; dsimp only; rw [if_neg (by rw [h28]; decide)]; exact if_pos ⟨q1, q2, q3⟩
          rw [e] at k1
          exact k1 D (fun _ _ => rfl) rfl hI
        · refine ⟨rfl, ?_⟩
          refine x_if_eq (pc' := 83) rfl rfl (fun _ => ?_) (fun c80 => absurd (by decide) c80)
          refine x_aload (pc' := 87) rfl rfl rfl ?_
          refine x_callV (pc' := 90) (d1 := 3) (Bs := []) rfl rfl rfl rfl rfl rfl rfl (Nat.le_of_ble_eq_true rfl) ⟨rfl, rfl⟩ (by decide) rfl (by decide) ?_
          refine w_X9_remember hH (fun D1 f1 g1 hH1 => ?_)
          refine ⟨rfl, ?_⟩
          refine x_aload (pc' := 91) rfl rfl rfl ?_
          refine x_getR (pc' := 94) rfl rfl rfl (by decide) rfl (by decide) rfl rfl ?_
          refine x_getR (pc' := 97) rfl rfl rfl (by decide) rfl (by decide) rfl rfl ?_
          refine x_iload (pc' := 98) rfl rfl rfl ?_
          refine x_iald (pc' := 99) rfl rfl (by decide) rfl (by decide) (show _ < 12 by omega) ?_
          refine x_top (congrFun (f1 3 (by decide) (by decide)) h5w) ?_
          refine x_istore (pc' := 101) (lv' := [_, _, _, _, _, _, _, _]) rfl rfl (by decide) rfl ?_
          refine x_aload (pc' := 102) rfl rfl rfl ?_
          refine x_getR (pc' := 105) rfl rfl rfl (by decide) rfl (by decide) rfl rfl ?_
          refine x_iload (pc' := 106) rfl rfl rfl ?_
          refine x_iload (pc' := 107) rfl rfl rfl ?_
          refine x_iload (pc' := 109) rfl rfl rfl ?_
          refine x_iload (pc' := 111) rfl rfl rfl ?_
          refine x_callV (pc' := 114) (d1 := 1) (Bs := [_, _, _, _]) rfl rfl rfl rfl rfl rfl rfl (Nat.le_of_ble_eq_true rfl) ⟨rfl, rfl⟩ (by decide) rfl (by decide) ?_
          refine w_X7_setHabit (by omega) ?_
          refine ⟨rfl, ?_⟩
          refine x_iload (pc' := 116) rfl rfl rfl ?_
          refine x_iret rfl rfl ?_
          have e : teachR (tv D) (nI h5w) (nI k) (nI a) z = (tv D 2 h5w, some (upH (tv D) h5w k a 0)) := by unfold teachR; rw [dN_some h5l (by omega), dH_1 k1l k5l al n4]; dsimp only; rw [if_neg (by rw [h28]; decide)]; exact if_neg h77
          refine actC hI f1 g1 hH1 k1 e rfl (fun k a b => ?_) ?_
          · rw [bh_up2_ne _ _ _ (by omega), bh_up2_ne _ _ _ (by omega), bh_up2_ne _ _ _ (by omega)]
          · rw [tv_up (j := 4) rfl (by decide), tv_up (j := 3) rfl (by decide), tv_up (j := 2) rfl (by decide), frc_tv f1]; rfl
    · subst e15; subst f15; subst g15
      refine ⟨rfl, ?_⟩
      refine x_if_ne (pc' := 21) rfl rfl (fun _ => ?_) (fun c18 => absurd c18 (by decide))
      refine x_aload (pc' := 24) rfl rfl rfl ?_
      refine x_getR (pc' := 27) rfl rfl rfl (by decide) rfl (by decide) rfl rfl ?_
      refine x_iload (pc' := 28) rfl rfl rfl ?_
      refine x_callV (pc' := 31) (d1 := 1) (Bs := [_]) rfl rfl rfl rfl rfl rfl rfl (Nat.le_of_ble_eq_true rfl) ⟨rfl, rfl⟩ (by decide) rfl (by decide) ?_
      refine w_X7_isDead hW (by assumption) (fun h28 => ?_) (fun h28 => ?_)
      · refine ⟨rfl, ?_⟩
        refine x_if_eq (pc' := 34) rfl rfl (fun c31 => absurd c31 (by decide)) (fun _ => ?_)
        refine x_int (pc' := 36) (v := (-4)) rfl rfl rfl ?_
        refine x_iret rfl rfl ?_
        have e : teachR (tv D) (nI h5w) (nI k) (nI a) (nI b) = (-4, none) := by unfold teachR; rw [dN_some h5l (by omega), dH_2 k5l k7l al bl nab]; dsimp only; exact if_pos h28
        rw [e] at k1
        exact k1 D (fun _ _ => rfl) rfl hI
      · refine ⟨rfl, ?_⟩
        refine x_if_eq (pc' := 34) rfl rfl (fun _ => ?_) (fun c31 => absurd (by decide) c31)
        refine x_iload (pc' := 38) rfl rfl rfl ?_
        refine x_callS (pc' := 41) (d1 := 1) (As := [_]) rfl rfl rfl rfl (by decide) rfl rfl (Nat.le_of_ble_eq_true rfl) ⟨rfl, rfl⟩ (by decide) ?_
        refine w_X1_signsOf (by omega) ?_
        refine ⟨rfl, ?_⟩
        refine x_top (congrArg nI (sg2 k5l)) ?_
        refine x_if_le (pc' := 44) rfl rfl (fun c41 => absurd c41 (by decide)) (fun _ => ?_)
        refine x_iload (pc' := 45) rfl rfl rfl ?_
        refine x_goto rfl ?_
        refine x_istore (pc' := 51) (lv' := [_, _, _, _, _, _, _, _]) rfl rfl (by decide) rfl ?_
        refine x_iload (pc' := 52) rfl rfl rfl ?_
        refine x_callS (pc' := 55) (d1 := 1) (As := [_]) rfl rfl rfl rfl (by decide) rfl rfl (Nat.le_of_ble_eq_true rfl) ⟨rfl, rfl⟩ (by decide) ?_
        refine w_X1_signsOf (by omega) ?_
        refine ⟨rfl, ?_⟩
        refine x_top (congrArg nI (sg2 k5l)) ?_
        refine x_int (pc' := 56) (v := nI 1) rfl rfl rfl ?_
        refine x_ic_le (pc' := 59) rfl rfl (fun c56 => absurd c56 (by decide)) (fun _ => ?_)
        refine x_iload (pc' := 61) rfl rfl rfl ?_
        refine x_goto rfl ?_
        refine x_istore (pc' := 67) (lv' := [_, _, _, _, _, _, _, _]) rfl rfl (by decide) rfl ?_
        refine x_aload (pc' := 68) rfl rfl rfl ?_
        refine x_getR (pc' := 71) rfl rfl rfl (by decide) rfl (by decide) rfl rfl ?_
        refine x_iload (pc' := 72) rfl rfl rfl ?_
        refine x_iload (pc' := 73) rfl rfl rfl ?_
        refine x_iload (pc' := 75) rfl rfl rfl ?_
        refine x_iload (pc' := 77) rfl rfl rfl ?_
        refine x_callV (pc' := 80) (d1 := 1) (Bs := [_, _, _, _]) rfl rfl rfl rfl rfl rfl rfl (Nat.le_of_ble_eq_true rfl) ⟨rfl, rfl⟩ (by decide) rfl (by decide) ?_
        refine w_X7_hasHabit hW h5l (by omega) (by omega) (by omega) (fun q1 q2 q3 => ?_) (fun h77 => ?_)
        · refine ⟨rfl, ?_⟩
          refine x_if_eq (pc' := 83) rfl rfl (fun c80 => absurd c80 (by decide)) (fun _ => ?_)
          refine x_int (pc' := 85) (v := (-2)) rfl rfl rfl ?_
          refine x_iret rfl rfl ?_
          have e : teachR (tv D) (nI h5w) (nI k) (nI a) (nI b) = (-2, none) := by unfold teachR; rw [dN_some h5l (by omega), dH_2 k5l k7l al bl nab]; dsimp only; rw [if_neg (by rw [h28]; decide)]; exact if_pos ⟨q1, q2, q3⟩
          rw [e] at k1
          exact k1 D (fun _ _ => rfl) rfl hI
        · refine ⟨rfl, ?_⟩
          refine x_if_eq (pc' := 83) rfl rfl (fun _ => ?_) (fun c80 => absurd (by decide) c80)
          refine x_aload (pc' := 87) rfl rfl rfl ?_
          refine x_callV (pc' := 90) (d1 := 3) (Bs := []) rfl rfl rfl rfl rfl rfl rfl (Nat.le_of_ble_eq_true rfl) ⟨rfl, rfl⟩ (by decide) rfl (by decide) ?_
          refine w_X9_remember hH (fun D1 f1 g1 hH1 => ?_)
          refine ⟨rfl, ?_⟩
          refine x_aload (pc' := 91) rfl rfl rfl ?_
          refine x_getR (pc' := 94) rfl rfl rfl (by decide) rfl (by decide) rfl rfl ?_
          refine x_getR (pc' := 97) rfl rfl rfl (by decide) rfl (by decide) rfl rfl ?_
          refine x_iload (pc' := 98) rfl rfl rfl ?_
          refine x_iald (pc' := 99) rfl rfl (by decide) rfl (by decide) (show _ < 12 by omega) ?_
          refine x_top (congrFun (f1 3 (by decide) (by decide)) h5w) ?_
          refine x_istore (pc' := 101) (lv' := [_, _, _, _, _, _, _, _]) rfl rfl (by decide) rfl ?_
          refine x_aload (pc' := 102) rfl rfl rfl ?_
          refine x_getR (pc' := 105) rfl rfl rfl (by decide) rfl (by decide) rfl rfl ?_
          refine x_iload (pc' := 106) rfl rfl rfl ?_
          refine x_iload (pc' := 107) rfl rfl rfl ?_
          refine x_iload (pc' := 109) rfl rfl rfl ?_
          refine x_iload (pc' := 111) rfl rfl rfl ?_
          refine x_callV (pc' := 114) (d1 := 1) (Bs := [_, _, _, _]) rfl rfl rfl rfl rfl rfl rfl (Nat.le_of_ble_eq_true rfl) ⟨rfl, rfl⟩ (by decide) rfl (by decide) ?_
          refine w_X7_setHabit (by omega) ?_
          refine ⟨rfl, ?_⟩
          refine x_iload (pc' := 116) rfl rfl rfl ?_
          refine x_iret rfl rfl ?_
          have e : teachR (tv D) (nI h5w) (nI k) (nI a) (nI b) = (tv D 2 h5w, some (upH (tv D) h5w k a b)) := by unfold teachR; rw [dN_some h5l (by omega), dH_2 k5l k7l al bl nab]; dsimp only; rw [if_neg (by rw [h28]; decide)]; exact if_neg h77
          refine actC hI f1 g1 hH1 k1 e rfl (fun k a b => ?_) ?_
          · rw [bh_up2_ne _ _ _ (by omega), bh_up2_ne _ _ _ (by omega), bh_up2_ne _ _ _ (by omega)]
          · rw [tv_up (j := 4) rfl (by decide), tv_up (j := 3) rfl (by decide), tv_up (j := 2) rfl (by decide), frc_tv f1]; rfl
    · refine ⟨rfl, ?_⟩
      refine x_if_ne (pc' := 21) rfl rfl (fun c18 => absurd (by decide) c18) (fun _ => ?_)
      refine x_int (pc' := 22) (v := (-1)) rfl rfl rfl ?_
      refine x_iret rfl rfl ?_
      first
        | (have e : teachR (tv D) x u y z = (-1, none) := by unfold teachR; rw [dN_none (by omega) h5]
           rw [e] at k1
           exact k1 D (fun _ _ => rfl) rfl hI)
        | (have e : teachR (tv D) (nI h5w) u y z = (-1, none) := by unfold teachR; rw [dN_some h5l (by omega), hs]
           rw [e] at k1
           exact k1 D (fun _ _ => rfl) rfl hI)
  · refine ⟨rfl, ?_⟩
    refine x_if_eq (pc' := 11) rfl rfl (fun _ => ?_) (fun c8 => absurd (by decide) c8)
    refine x_int (pc' := 22) (v := (-1)) rfl rfl rfl ?_
    refine x_iret rfl rfl ?_
    first
      | (have e : teachR (tv D) x u y z = (-1, none) := by unfold teachR; rw [dN_none (by omega) h5]
         rw [e] at k1
         exact k1 D (fun _ _ => rfl) rfl hI)
      | (have e : teachR (tv D) (nI h5w) u y z = (-1, none) := by unfold teachR; rw [dN_some h5l (by omega), hs]
         rw [e] at k1
         exact k1 D (fun _ _ => rfl) rfl hI)
set_option maxRecDepth 20000 in
set_option maxHeartbeats 1000000 in
theorem w_X10_hasHabit0 {D : Nat → Nat → Int32} {L : Nat → Nat → Int64} {Q : bh_Q} {T : TW} (hW : WF T) (hR : Rn T (D 206)) {w : Nat} (hw : w < nw T) {y z : Int32} (k1 : kd T w = 0 → fa T w = 0 → fb T w = 0 → Q (some (.int 1)) (hp D L)) (k0 : ¬ (kd T w = 0 ∧ fa T w = 0 ∧ fb T w = 0) → Q (some (.int 0)) (hp D L)) : bh_wc 2 m_X10_hasHabit [.ref 205, .int (nI w), .int (nI 0), .int y, .int z] (hp D L) Q := by
  refine x_start (lv0 := [_, _, _, _, _]) (Nat.le_of_ble_eq_true rfl) rfl ?_
  have h12 := hW.nwl
  refine x_aload (pc' := 1) rfl rfl rfl ?_
  refine x_iload (pc' := 2) rfl rfl rfl ?_
  refine x_int (pc' := 3) (v := nI 1) rfl rfl rfl ?_
  refine x_callV (pc' := 6) (d1 := 1) (Bs := [_, _]) rfl rfl rfl rfl rfl rfl rfl (Nat.le_of_ble_eq_true rfl) ⟨rfl, rfl⟩ (by decide) rfl (by decide) ?_
  refine w_X10_of (by omega) (by decide) ?_
  refine ⟨rfl, ?_⟩
  refine x_top ((hR.rkd hw).trans (hW.ekd hw)) ?_
  refine x_iload (pc' := 7) rfl rfl rfl ?_
  refine y_ic_ne (pc' := 10) rfl rfl (by first | omega | (have := hW.kdl hw; have := hW.fal hw; have := hW.fbl hw; omega)) (by first | omega | (have := hW.kdl hw; have := hW.fal hw; have := hW.fbl hw; omega)) (fun c7 => ?_) (fun c7 => ?_)
  · refine x_int (pc' := 51) (v := nI 0) rfl rfl rfl ?_
    refine x_zret rfl rfl (by decide) ?_
    have q4 := (hW.ehok hw).2.2.2.1
    have q5 := (hW.ehok hw).2.2.2.2.1
    first
      | exact k1 (by omega) (by omega) (by omega)
      | exact k0 (by omega)
  · refine x_iload (pc' := 11) rfl rfl rfl ?_
    refine x_callS (pc' := 14) (d1 := 1) (As := [_]) rfl rfl rfl rfl (by decide) rfl rfl (Nat.le_of_ble_eq_true rfl) ⟨rfl, rfl⟩ (by decide) ?_
    refine w_X10_needs (by omega) ?_
    refine ⟨rfl, ?_⟩
    refine x_top (congrArg nI (sg0)) ?_
    refine x_if_eq (pc' := 17) rfl rfl (fun _ => ?_) (fun c14 => absurd (by decide) c14)
    refine x_iload (pc' := 28) rfl rfl rfl ?_
    refine x_callS (pc' := 31) (d1 := 1) (As := [_]) rfl rfl rfl rfl (by decide) rfl rfl (Nat.le_of_ble_eq_true rfl) ⟨rfl, rfl⟩ (by decide) ?_
    refine w_X10_needs (by omega) ?_
    refine ⟨rfl, ?_⟩
    refine x_top (congrArg nI (sg0)) ?_
    refine x_int (pc' := 32) (v := nI 2) rfl rfl rfl ?_
    refine x_ic_lt (pc' := 35) rfl rfl (fun _ => ?_) (fun c32 => absurd (by decide) c32)
    refine x_int (pc' := 47) (v := nI 1) rfl rfl rfl ?_
    refine x_goto rfl ?_
    refine x_zret rfl rfl (by decide) ?_
    have q4 := (hW.ehok hw).2.2.2.1
    have q5 := (hW.ehok hw).2.2.2.2.1
    first
      | exact k1 (by omega) (by omega) (by omega)
      | exact k0 (by omega)
set_option maxRecDepth 20000 in
set_option maxHeartbeats 1000000 in
theorem w_X10_learns0 {D : Nat → Nat → Int32} {L : Nat → Nat → Int64} {Q : bh_Q} {w : Nat} (hw : w < 12) {y z : Int32} (k1 : Q none (hp (bh_up2 (bh_up2 (bh_up2 D 206 (4 + 10 * w + 1) (nI 0)) 206 (4 + 10 * w + 2) (-1)) 206 (4 + 10 * w + 3) (-1)) L)) : bh_wc 2 m_X10_learns [.ref 205, .int (nI w), .int (nI 0), .int y, .int z] (hp D L) Q := by
  refine x_start (lv0 := [_, _, _, _, _]) (Nat.le_of_ble_eq_true rfl) rfl ?_
  refine x_aload (pc' := 1) rfl rfl rfl ?_
  refine x_iload (pc' := 2) rfl rfl rfl ?_
  refine x_int (pc' := 3) (v := nI 1) rfl rfl rfl ?_
  refine x_iload (pc' := 4) rfl rfl rfl ?_
  refine x_callV (pc' := 7) (d1 := 1) (Bs := [_, _, _]) rfl rfl rfl rfl rfl rfl rfl (Nat.le_of_ble_eq_true rfl) ⟨rfl, rfl⟩ (by decide) rfl (by decide) ?_
  refine w_X10_puts_ (by omega) (by decide) ?_
  refine ⟨rfl, ?_⟩
  refine x_aload (pc' := 8) rfl rfl rfl ?_
  refine x_iload (pc' := 9) rfl rfl rfl ?_
  refine x_int (pc' := 10) (v := nI 2) rfl rfl rfl ?_
  refine x_iload (pc' := 11) rfl rfl rfl ?_
  refine x_callS (pc' := 14) (d1 := 1) (As := [_]) rfl rfl rfl rfl (by decide) rfl rfl (Nat.le_of_ble_eq_true rfl) ⟨rfl, rfl⟩ (by decide) ?_
  refine w_X10_needs (by omega) ?_
  refine ⟨rfl, ?_⟩
  refine x_top (congrArg nI (sg0)) ?_
  refine x_if_le (pc' := 17) rfl rfl (fun _ => ?_) (fun c14 => absurd (by decide) c14)
  refine x_int (pc' := 22) (v := (-1)) rfl rfl rfl ?_
  refine x_callV (pc' := 25) (d1 := 1) (Bs := [_, _, _]) rfl rfl rfl rfl rfl rfl rfl (Nat.le_of_ble_eq_true rfl) ⟨rfl, rfl⟩ (by decide) rfl (by decide) ?_
  refine w_X10_puts_ (by omega) (by decide) ?_
  refine ⟨rfl, ?_⟩
  refine x_aload (pc' := 26) rfl rfl rfl ?_
  refine x_iload (pc' := 27) rfl rfl rfl ?_
  refine x_int (pc' := 28) (v := nI 3) rfl rfl rfl ?_
  refine x_iload (pc' := 29) rfl rfl rfl ?_
  refine x_callS (pc' := 32) (d1 := 1) (As := [_]) rfl rfl rfl rfl (by decide) rfl rfl (Nat.le_of_ble_eq_true rfl) ⟨rfl, rfl⟩ (by decide) ?_
  refine w_X10_needs (by omega) ?_
  refine ⟨rfl, ?_⟩
  refine x_top (congrArg nI (sg0)) ?_
  refine x_int (pc' := 33) (v := nI 1) rfl rfl rfl ?_
  refine x_ic_le (pc' := 36) rfl rfl (fun _ => ?_) (fun c33 => absurd (by decide) c33)
  refine x_int (pc' := 42) (v := (-1)) rfl rfl rfl ?_
  refine x_callV (pc' := 45) (d1 := 1) (Bs := [_, _, _]) rfl rfl rfl rfl rfl rfl rfl (Nat.le_of_ble_eq_true rfl) ⟨rfl, rfl⟩ (by decide) rfl (by decide) ?_
  refine w_X10_puts_ (by omega) (by decide) ?_
  refine ⟨rfl, ?_⟩
  refine x_vret rfl rfl ?_
  exact k1
set_option maxRecDepth 20000 in
set_option maxHeartbeats 1000000 in
theorem w_X10_hasHabit1 {D : Nat → Nat → Int32} {L : Nat → Nat → Int64} {Q : bh_Q} {T : TW} (hW : WF T) (hR : Rn T (D 206)) {w : Nat} (hw : w < nw T) {k a : Nat} {z : Int32} (k1l : 1 ≤ k) (k5l : k < 5) (al : a < 16) (k1 : kd T w = k → fa T w = a → fb T w = 0 → Q (some (.int 1)) (hp D L)) (k0 : ¬ (kd T w = k ∧ fa T w = a ∧ fb T w = 0) → Q (some (.int 0)) (hp D L)) : bh_wc 2 m_X10_hasHabit [.ref 205, .int (nI w), .int (nI k), .int (nI a), .int z] (hp D L) Q := by
  refine x_start (lv0 := [_, _, _, _, _]) (Nat.le_of_ble_eq_true rfl) rfl ?_
  have h12 := hW.nwl
  refine x_aload (pc' := 1) rfl rfl rfl ?_
  refine x_iload (pc' := 2) rfl rfl rfl ?_
  refine x_int (pc' := 3) (v := nI 1) rfl rfl rfl ?_
  refine x_callV (pc' := 6) (d1 := 1) (Bs := [_, _]) rfl rfl rfl rfl rfl rfl rfl (Nat.le_of_ble_eq_true rfl) ⟨rfl, rfl⟩ (by decide) rfl (by decide) ?_
  refine w_X10_of (by omega) (by decide) ?_
  refine ⟨rfl, ?_⟩
  refine x_top ((hR.rkd hw).trans (hW.ekd hw)) ?_
  refine x_iload (pc' := 7) rfl rfl rfl ?_
  refine y_ic_ne (pc' := 10) rfl rfl (by first | omega | (have := hW.kdl hw; have := hW.fal hw; have := hW.fbl hw; omega)) (by first | omega | (have := hW.kdl hw; have := hW.fal hw; have := hW.fbl hw; omega)) (fun c7 => ?_) (fun c7 => ?_)
  · refine x_int (pc' := 51) (v := nI 0) rfl rfl rfl ?_
    refine x_zret rfl rfl (by decide) ?_
    have q4 := (hW.ehok hw).2.2.2.1
    have q5 := (hW.ehok hw).2.2.2.2.1
    first
      | exact k1 (by omega) (by omega) (by omega)
      | exact k0 (by omega)
  · refine x_iload (pc' := 11) rfl rfl rfl ?_
    refine x_callS (pc' := 14) (d1 := 1) (As := [_]) rfl rfl rfl rfl (by decide) rfl rfl (Nat.le_of_ble_eq_true rfl) ⟨rfl, rfl⟩ (by decide) ?_
    refine w_X10_needs (by omega) ?_
    refine ⟨rfl, ?_⟩
    refine x_top (congrArg nI (sg1 k1l k5l)) ?_
    refine x_if_eq (pc' := 17) rfl rfl (fun c14 => absurd c14 (by decide)) (fun _ => ?_)
    refine x_aload (pc' := 18) rfl rfl rfl ?_
    refine x_iload (pc' := 19) rfl rfl rfl ?_
    refine x_int (pc' := 20) (v := nI 2) rfl rfl rfl ?_
    refine x_callV (pc' := 23) (d1 := 1) (Bs := [_, _]) rfl rfl rfl rfl rfl rfl rfl (Nat.le_of_ble_eq_true rfl) ⟨rfl, rfl⟩ (by decide) rfl (by decide) ?_
    refine w_X10_of (by omega) (by decide) ?_
    refine ⟨rfl, ?_⟩
    refine x_top ((hR.rfa hw (by omega)).trans (hW.efa hw)) ?_
    refine x_iload (pc' := 24) rfl rfl rfl ?_
    refine y_ic_ne (pc' := 27) rfl rfl (by first | omega | (have := hW.kdl hw; have := hW.fal hw; have := hW.fbl hw; omega)) (by first | omega | (have := hW.kdl hw; have := hW.fal hw; have := hW.fbl hw; omega)) (fun c24 => ?_) (fun c24 => ?_)
    · refine x_int (pc' := 51) (v := nI 0) rfl rfl rfl ?_
      refine x_zret rfl rfl (by decide) ?_
      have q4 := (hW.ehok hw).2.2.2.1
      have q5 := (hW.ehok hw).2.2.2.2.1
      first
        | exact k1 (by omega) (by omega) (by omega)
        | exact k0 (by omega)
    · refine x_iload (pc' := 28) rfl rfl rfl ?_
      refine x_callS (pc' := 31) (d1 := 1) (As := [_]) rfl rfl rfl rfl (by decide) rfl rfl (Nat.le_of_ble_eq_true rfl) ⟨rfl, rfl⟩ (by decide) ?_
      refine w_X10_needs (by omega) ?_
      refine ⟨rfl, ?_⟩
      refine x_top (congrArg nI (sg1 k1l k5l)) ?_
      refine x_int (pc' := 32) (v := nI 2) rfl rfl rfl ?_
      refine x_ic_lt (pc' := 35) rfl rfl (fun _ => ?_) (fun c32 => absurd (by decide) c32)
      refine x_int (pc' := 47) (v := nI 1) rfl rfl rfl ?_
      refine x_goto rfl ?_
      refine x_zret rfl rfl (by decide) ?_
      have q4 := (hW.ehok hw).2.2.2.1
      have q5 := (hW.ehok hw).2.2.2.2.1
      first
        | exact k1 (by omega) (by omega) (by omega)
        | exact k0 (by omega)
set_option maxRecDepth 20000 in
set_option maxHeartbeats 1000000 in
theorem w_X10_learns1 {D : Nat → Nat → Int32} {L : Nat → Nat → Int64} {Q : bh_Q} {w : Nat} (hw : w < 12) {k a : Nat} {z : Int32} (k1l : 1 ≤ k) (k5l : k < 5) (al : a < 16) (k1 : Q none (hp (bh_up2 (bh_up2 (bh_up2 D 206 (4 + 10 * w + 1) (nI k)) 206 (4 + 10 * w + 2) (nI a)) 206 (4 + 10 * w + 3) (-1)) L)) : bh_wc 2 m_X10_learns [.ref 205, .int (nI w), .int (nI k), .int (nI a), .int z] (hp D L) Q := by
  refine x_start (lv0 := [_, _, _, _, _]) (Nat.le_of_ble_eq_true rfl) rfl ?_
  refine x_aload (pc' := 1) rfl rfl rfl ?_
  refine x_iload (pc' := 2) rfl rfl rfl ?_
  refine x_int (pc' := 3) (v := nI 1) rfl rfl rfl ?_
  refine x_iload (pc' := 4) rfl rfl rfl ?_
  refine x_callV (pc' := 7) (d1 := 1) (Bs := [_, _, _]) rfl rfl rfl rfl rfl rfl rfl (Nat.le_of_ble_eq_true rfl) ⟨rfl, rfl⟩ (by decide) rfl (by decide) ?_
  refine w_X10_puts_ (by omega) (by decide) ?_
  refine ⟨rfl, ?_⟩
  refine x_aload (pc' := 8) rfl rfl rfl ?_
  refine x_iload (pc' := 9) rfl rfl rfl ?_
  refine x_int (pc' := 10) (v := nI 2) rfl rfl rfl ?_
  refine x_iload (pc' := 11) rfl rfl rfl ?_
  refine x_callS (pc' := 14) (d1 := 1) (As := [_]) rfl rfl rfl rfl (by decide) rfl rfl (Nat.le_of_ble_eq_true rfl) ⟨rfl, rfl⟩ (by decide) ?_
  refine w_X10_needs (by omega) ?_
  refine ⟨rfl, ?_⟩
  refine x_top (congrArg nI (sg1 k1l k5l)) ?_
  refine x_if_le (pc' := 17) rfl rfl (fun c14 => absurd c14 (by decide)) (fun _ => ?_)
  refine x_iload (pc' := 18) rfl rfl rfl ?_
  refine x_goto rfl ?_
  refine x_callV (pc' := 25) (d1 := 1) (Bs := [_, _, _]) rfl rfl rfl rfl rfl rfl rfl (Nat.le_of_ble_eq_true rfl) ⟨rfl, rfl⟩ (by decide) rfl (by decide) ?_
  refine w_X10_puts_ (by omega) (by decide) ?_
  refine ⟨rfl, ?_⟩
  refine x_aload (pc' := 26) rfl rfl rfl ?_
  refine x_iload (pc' := 27) rfl rfl rfl ?_
  refine x_int (pc' := 28) (v := nI 3) rfl rfl rfl ?_
  refine x_iload (pc' := 29) rfl rfl rfl ?_
  refine x_callS (pc' := 32) (d1 := 1) (As := [_]) rfl rfl rfl rfl (by decide) rfl rfl (Nat.le_of_ble_eq_true rfl) ⟨rfl, rfl⟩ (by decide) ?_
  refine w_X10_needs (by omega) ?_
  refine ⟨rfl, ?_⟩
  refine x_top (congrArg nI (sg1 k1l k5l)) ?_
  refine x_int (pc' := 33) (v := nI 1) rfl rfl rfl ?_
  refine x_ic_le (pc' := 36) rfl rfl (fun _ => ?_) (fun c33 => absurd (by decide) c33)
  refine x_int (pc' := 42) (v := (-1)) rfl rfl rfl ?_
  refine x_callV (pc' := 45) (d1 := 1) (Bs := [_, _, _]) rfl rfl rfl rfl rfl rfl rfl (Nat.le_of_ble_eq_true rfl) ⟨rfl, rfl⟩ (by decide) rfl (by decide) ?_
  refine w_X10_puts_ (by omega) (by decide) ?_
  refine ⟨rfl, ?_⟩
  refine x_vret rfl rfl ?_
  exact k1
set_option maxRecDepth 20000 in
set_option maxHeartbeats 1000000 in
theorem w_X10_hasHabit2 {D : Nat → Nat → Int32} {L : Nat → Nat → Int64} {Q : bh_Q} {T : TW} (hW : WF T) (hR : Rn T (D 206)) {w : Nat} (hw : w < nw T) {k a b : Nat} (k5l : 5 ≤ k) (k7l : k < 7) (al : a < 16) (bl : b < 16) (k1 : kd T w = k → fa T w = a → fb T w = b → Q (some (.int 1)) (hp D L)) (k0 : ¬ (kd T w = k ∧ fa T w = a ∧ fb T w = b) → Q (some (.int 0)) (hp D L)) : bh_wc 2 m_X10_hasHabit [.ref 205, .int (nI w), .int (nI k), .int (nI a), .int (nI b)] (hp D L) Q := by
  refine x_start (lv0 := [_, _, _, _, _]) (Nat.le_of_ble_eq_true rfl) rfl ?_
  have h12 := hW.nwl
  refine x_aload (pc' := 1) rfl rfl rfl ?_
  refine x_iload (pc' := 2) rfl rfl rfl ?_
  refine x_int (pc' := 3) (v := nI 1) rfl rfl rfl ?_
  refine x_callV (pc' := 6) (d1 := 1) (Bs := [_, _]) rfl rfl rfl rfl rfl rfl rfl (Nat.le_of_ble_eq_true rfl) ⟨rfl, rfl⟩ (by decide) rfl (by decide) ?_
  refine w_X10_of (by omega) (by decide) ?_
  refine ⟨rfl, ?_⟩
  refine x_top ((hR.rkd hw).trans (hW.ekd hw)) ?_
  refine x_iload (pc' := 7) rfl rfl rfl ?_
  refine y_ic_ne (pc' := 10) rfl rfl (by first | omega | (have := hW.kdl hw; have := hW.fal hw; have := hW.fbl hw; omega)) (by first | omega | (have := hW.kdl hw; have := hW.fal hw; have := hW.fbl hw; omega)) (fun c7 => ?_) (fun c7 => ?_)
  · refine x_int (pc' := 51) (v := nI 0) rfl rfl rfl ?_
    refine x_zret rfl rfl (by decide) ?_
    have q4 := (hW.ehok hw).2.2.2.1
    have q5 := (hW.ehok hw).2.2.2.2.1
    first
      | exact k1 (by omega) (by omega) (by omega)
      | exact k0 (by omega)
  · refine x_iload (pc' := 11) rfl rfl rfl ?_
    refine x_callS (pc' := 14) (d1 := 1) (As := [_]) rfl rfl rfl rfl (by decide) rfl rfl (Nat.le_of_ble_eq_true rfl) ⟨rfl, rfl⟩ (by decide) ?_
    refine w_X10_needs (by omega) ?_
    refine ⟨rfl, ?_⟩
    refine x_top (congrArg nI (sg2 k5l)) ?_
    refine x_if_eq (pc' := 17) rfl rfl (fun c14 => absurd c14 (by decide)) (fun _ => ?_)
    refine x_aload (pc' := 18) rfl rfl rfl ?_
    refine x_iload (pc' := 19) rfl rfl rfl ?_
    refine x_int (pc' := 20) (v := nI 2) rfl rfl rfl ?_
    refine x_callV (pc' := 23) (d1 := 1) (Bs := [_, _]) rfl rfl rfl rfl rfl rfl rfl (Nat.le_of_ble_eq_true rfl) ⟨rfl, rfl⟩ (by decide) rfl (by decide) ?_
    refine w_X10_of (by omega) (by decide) ?_
    refine ⟨rfl, ?_⟩
    refine x_top ((hR.rfa hw (by omega)).trans (hW.efa hw)) ?_
    refine x_iload (pc' := 24) rfl rfl rfl ?_
    refine y_ic_ne (pc' := 27) rfl rfl (by first | omega | (have := hW.kdl hw; have := hW.fal hw; have := hW.fbl hw; omega)) (by first | omega | (have := hW.kdl hw; have := hW.fal hw; have := hW.fbl hw; omega)) (fun c24 => ?_) (fun c24 => ?_)
    · refine x_int (pc' := 51) (v := nI 0) rfl rfl rfl ?_
      refine x_zret rfl rfl (by decide) ?_
      have q4 := (hW.ehok hw).2.2.2.1
      have q5 := (hW.ehok hw).2.2.2.2.1
      first
        | exact k1 (by omega) (by omega) (by omega)
        | exact k0 (by omega)
    · refine x_iload (pc' := 28) rfl rfl rfl ?_
      refine x_callS (pc' := 31) (d1 := 1) (As := [_]) rfl rfl rfl rfl (by decide) rfl rfl (Nat.le_of_ble_eq_true rfl) ⟨rfl, rfl⟩ (by decide) ?_
      refine w_X10_needs (by omega) ?_
      refine ⟨rfl, ?_⟩
      refine x_top (congrArg nI (sg2 k5l)) ?_
      refine x_int (pc' := 32) (v := nI 2) rfl rfl rfl ?_
      refine x_ic_lt (pc' := 35) rfl rfl (fun c32 => absurd c32 (by decide)) (fun _ => ?_)
      refine x_aload (pc' := 36) rfl rfl rfl ?_
      refine x_iload (pc' := 37) rfl rfl rfl ?_
      refine x_int (pc' := 38) (v := nI 3) rfl rfl rfl ?_
      refine x_callV (pc' := 41) (d1 := 1) (Bs := [_, _]) rfl rfl rfl rfl rfl rfl rfl (Nat.le_of_ble_eq_true rfl) ⟨rfl, rfl⟩ (by decide) rfl (by decide) ?_
      refine w_X10_of (by omega) (by decide) ?_
      refine ⟨rfl, ?_⟩
      refine x_top ((hR.rfb hw (by omega)).trans (hW.efb hw)) ?_
      refine x_iload (pc' := 43) rfl rfl rfl ?_
      refine y_ic_ne (pc' := 46) rfl rfl (by first | omega | (have := hW.kdl hw; have := hW.fal hw; have := hW.fbl hw; omega)) (by first | omega | (have := hW.kdl hw; have := hW.fal hw; have := hW.fbl hw; omega)) (fun c43 => ?_) (fun c43 => ?_)
      · refine x_int (pc' := 51) (v := nI 0) rfl rfl rfl ?_
        refine x_zret rfl rfl (by decide) ?_
        have q4 := (hW.ehok hw).2.2.2.1
        have q5 := (hW.ehok hw).2.2.2.2.1
        first
          | exact k1 (by omega) (by omega) (by omega)
          | exact k0 (by omega)
      · refine x_int (pc' := 47) (v := nI 1) rfl rfl rfl ?_
        refine x_goto rfl ?_
        refine x_zret rfl rfl (by decide) ?_
        have q4 := (hW.ehok hw).2.2.2.1
        have q5 := (hW.ehok hw).2.2.2.2.1
        first
          | exact k1 (by omega) (by omega) (by omega)
          | exact k0 (by omega)
set_option maxRecDepth 20000 in
set_option maxHeartbeats 1000000 in
theorem w_X10_learns2 {D : Nat → Nat → Int32} {L : Nat → Nat → Int64} {Q : bh_Q} {w : Nat} (hw : w < 12) {k a b : Nat} (k5l : 5 ≤ k) (k7l : k < 7) (al : a < 16) (bl : b < 16) (k1 : Q none (hp (bh_up2 (bh_up2 (bh_up2 D 206 (4 + 10 * w + 1) (nI k)) 206 (4 + 10 * w + 2) (nI a)) 206 (4 + 10 * w + 3) (nI b)) L)) : bh_wc 2 m_X10_learns [.ref 205, .int (nI w), .int (nI k), .int (nI a), .int (nI b)] (hp D L) Q := by
  refine x_start (lv0 := [_, _, _, _, _]) (Nat.le_of_ble_eq_true rfl) rfl ?_
  refine x_aload (pc' := 1) rfl rfl rfl ?_
  refine x_iload (pc' := 2) rfl rfl rfl ?_
  refine x_int (pc' := 3) (v := nI 1) rfl rfl rfl ?_
  refine x_iload (pc' := 4) rfl rfl rfl ?_
  refine x_callV (pc' := 7) (d1 := 1) (Bs := [_, _, _]) rfl rfl rfl rfl rfl rfl rfl (Nat.le_of_ble_eq_true rfl) ⟨rfl, rfl⟩ (by decide) rfl (by decide) ?_
  refine w_X10_puts_ (by omega) (by decide) ?_
  refine ⟨rfl, ?_⟩
  refine x_aload (pc' := 8) rfl rfl rfl ?_
  refine x_iload (pc' := 9) rfl rfl rfl ?_
  refine x_int (pc' := 10) (v := nI 2) rfl rfl rfl ?_
  refine x_iload (pc' := 11) rfl rfl rfl ?_
  refine x_callS (pc' := 14) (d1 := 1) (As := [_]) rfl rfl rfl rfl (by decide) rfl rfl (Nat.le_of_ble_eq_true rfl) ⟨rfl, rfl⟩ (by decide) ?_
  refine w_X10_needs (by omega) ?_
  refine ⟨rfl, ?_⟩
  refine x_top (congrArg nI (sg2 k5l)) ?_
  refine x_if_le (pc' := 17) rfl rfl (fun c14 => absurd c14 (by decide)) (fun _ => ?_)
  refine x_iload (pc' := 18) rfl rfl rfl ?_
  refine x_goto rfl ?_
  refine x_callV (pc' := 25) (d1 := 1) (Bs := [_, _, _]) rfl rfl rfl rfl rfl rfl rfl (Nat.le_of_ble_eq_true rfl) ⟨rfl, rfl⟩ (by decide) rfl (by decide) ?_
  refine w_X10_puts_ (by omega) (by decide) ?_
  refine ⟨rfl, ?_⟩
  refine x_aload (pc' := 26) rfl rfl rfl ?_
  refine x_iload (pc' := 27) rfl rfl rfl ?_
  refine x_int (pc' := 28) (v := nI 3) rfl rfl rfl ?_
  refine x_iload (pc' := 29) rfl rfl rfl ?_
  refine x_callS (pc' := 32) (d1 := 1) (As := [_]) rfl rfl rfl rfl (by decide) rfl rfl (Nat.le_of_ble_eq_true rfl) ⟨rfl, rfl⟩ (by decide) ?_
  refine w_X10_needs (by omega) ?_
  refine ⟨rfl, ?_⟩
  refine x_top (congrArg nI (sg2 k5l)) ?_
  refine x_int (pc' := 33) (v := nI 1) rfl rfl rfl ?_
  refine x_ic_le (pc' := 36) rfl rfl (fun c33 => absurd c33 (by decide)) (fun _ => ?_)
  refine x_iload (pc' := 38) rfl rfl rfl ?_
  refine x_goto rfl ?_
  refine x_callV (pc' := 45) (d1 := 1) (Bs := [_, _, _]) rfl rfl rfl rfl rfl rfl rfl (Nat.le_of_ble_eq_true rfl) ⟨rfl, rfl⟩ (by decide) rfl (by decide) ?_
  refine w_X10_puts_ (by omega) (by decide) ?_
  refine ⟨rfl, ?_⟩
  refine x_vret rfl rfl ?_
  exact k1
set_option maxRecDepth 20000 in
set_option maxHeartbeats 1000000 in
theorem w_X10_teach {D : Nat → Nat → Int32} {L : Nat → Nat → Int64} {Q : bh_Q} {T : TW} {ps : List TW} {sh : Nat → Option TW} {tp : List Nat} (hI : InvM D T ps sh tp) (hG : Good T ps sh) {x u y z : Int32} (k1 : ∀ D1, (∀ k, (k < 205 ∨ 228 ≤ k) → D1 k = D k) → InvM D1 (nxT T (teachR T x u y z).2) (nxP T ps (teachR T x u y z).2) sh tp → Q (some (.int (teachR T x u y z).1)) (hp D1 L)) : bh_wc 3 m_X10_teach [.ref 205, .int x, .int u, .int y, .int z] (hp D L) Q := by
  refine x_start (lv0 := [_, _, _, _, _, _]) (Nat.le_of_ble_eq_true rfl) rfl ?_
  have hW := hG.1
  have h12 := hW.nwl
  have hR := hI.1
  refine x_aload (pc' := 1) rfl rfl rfl ?_
  refine x_iload (pc' := 2) rfl rfl rfl ?_
  refine x_callV (pc' := 5) (d1 := 2) (Bs := [_]) rfl rfl rfl rfl rfl rfl rfl (Nat.le_of_ble_eq_true rfl) ⟨rfl, rfl⟩ (by decide) rfl (by decide) ?_
  refine w_X10_isWriter hW hR (fun h2w h2l e => ?_) (fun h2 => ?_)
  · subst e
    refine ⟨rfl, ?_⟩
    refine x_if_eq (pc' := 8) rfl rfl (fun c5 => absurd c5 (by decide)) (fun _ => ?_)
    refine x_iload (pc' := 9) rfl rfl rfl ?_
    refine x_iload (pc' := 10) rfl rfl rfl ?_
    refine x_iload (pc' := 12) rfl rfl rfl ?_
    refine x_callS (pc' := 15) (d1 := 2) (As := [_, _, _]) rfl rfl rfl rfl (by decide) rfl rfl (Nat.le_of_ble_eq_true rfl) ⟨rfl, rfl⟩ (by decide) ?_
    refine w_X10_isHabit (fun e15 => ?_) (fun k a k1l k5l al n4 e15 f15 => ?_) (fun k a b k5l k7l al bl nab e15 f15 g15 => ?_) (fun hs => ?_)
    · subst e15
      refine ⟨rfl, ?_⟩
      refine x_if_ne (pc' := 18) rfl rfl (fun _ => ?_) (fun c15 => absurd c15 (by decide))
      refine x_aload (pc' := 21) rfl rfl rfl ?_
      refine x_iload (pc' := 22) rfl rfl rfl ?_
      refine x_callV (pc' := 25) (d1 := 2) (Bs := [_]) rfl rfl rfl rfl rfl rfl rfl (Nat.le_of_ble_eq_true rfl) ⟨rfl, rfl⟩ (by decide) rfl (by decide) ?_
      refine w_X10_isDead hW hR (by assumption) (fun h22 => ?_) (fun h22 => ?_)
      · refine ⟨rfl, ?_⟩
        refine x_if_eq (pc' := 28) rfl rfl (fun c25 => absurd c25 (by decide)) (fun _ => ?_)
        refine x_int (pc' := 30) (v := (-4)) rfl rfl rfl ?_
        refine x_iret rfl rfl ?_
        have e : teachR T (nI h2w) (nI 0) y z = (-4, none) := by unfold teachR; rw [dN_some h2l (by omega), dH_0]; dsimp only; exact if_pos h22
        rw [e] at k1
        exact k1 D (fun _ _ => rfl) hI
      · refine ⟨rfl, ?_⟩
        refine x_if_eq (pc' := 28) rfl rfl (fun _ => ?_) (fun c25 => absurd (by decide) c25)
        refine x_aload (pc' := 32) rfl rfl rfl ?_
        refine x_iload (pc' := 33) rfl rfl rfl ?_
        refine x_iload (pc' := 34) rfl rfl rfl ?_
        refine x_iload (pc' := 35) rfl rfl rfl ?_
        refine x_iload (pc' := 37) rfl rfl rfl ?_
        refine x_callV (pc' := 40) (d1 := 2) (Bs := [_, _, _, _]) rfl rfl rfl rfl rfl rfl rfl (Nat.le_of_ble_eq_true rfl) ⟨rfl, rfl⟩ (by decide) rfl (by decide) ?_
        refine w_X10_hasHabit0 hW hR h2l (fun q1 q2 q3 => ?_) (fun h37 => ?_)
        · refine ⟨rfl, ?_⟩
          refine x_if_eq (pc' := 43) rfl rfl (fun c40 => absurd c40 (by decide)) (fun _ => ?_)
          refine x_int (pc' := 45) (v := (-2)) rfl rfl rfl ?_
          refine x_iret rfl rfl ?_
          have e : teachR T (nI h2w) (nI 0) y z = (-2, none) := by unfold teachR; rw [dN_some h2l (by omega), dH_0]; dsimp only; rw [if_neg (by rw [h22]; decide)]; exact if_pos ⟨q1, q2, q3⟩
          rw [e] at k1
          exact k1 D (fun _ _ => rfl) hI
        · refine ⟨rfl, ?_⟩
          refine x_if_eq (pc' := 43) rfl rfl (fun _ => ?_) (fun c40 => absurd (by decide) c40)
          refine x_aload (pc' := 47) rfl rfl rfl ?_
          refine x_callV (pc' := 50) (d1 := 2) (Bs := []) rfl rfl rfl rfl rfl rfl rfl (Nat.le_of_ble_eq_true rfl) ⟨rfl, rfl⟩ (by decide) rfl (by decide) ?_
          refine w_X10_keepsPast hW hR hI.2.1 hG.2.1 (fun D1 f1 g1 hH1 => ?_)
          refine ⟨rfl, ?_⟩
          have hR1 : Rn T (D1 206) := by rw [f1 206 (by decide)]; exact hR
          refine x_aload (pc' := 51) rfl rfl rfl ?_
          refine x_iload (pc' := 52) rfl rfl rfl ?_
          refine x_int (pc' := 53) (v := nI 1) rfl rfl rfl ?_
          refine x_callV (pc' := 56) (d1 := 1) (Bs := [_, _]) rfl rfl rfl rfl rfl rfl rfl (Nat.le_of_ble_eq_true rfl) ⟨rfl, rfl⟩ (by decide) rfl (by decide) ?_
          refine w_X10_of (D := D1) (by omega) (by decide) ?_
          refine ⟨rfl, ?_⟩
          refine x_top (hR1.rkd h2l) ?_
          refine x_istore (pc' := 58) (lv' := [_, _, _, _, _, _]) rfl rfl (by decide) rfl ?_
          refine x_aload (pc' := 59) rfl rfl rfl ?_
          refine x_iload (pc' := 60) rfl rfl rfl ?_
          refine x_iload (pc' := 61) rfl rfl rfl ?_
          refine x_iload (pc' := 62) rfl rfl rfl ?_
          refine x_iload (pc' := 64) rfl rfl rfl ?_
          refine x_callV (pc' := 67) (d1 := 2) (Bs := [_, _, _, _]) rfl rfl rfl rfl rfl rfl rfl (Nat.le_of_ble_eq_true rfl) ⟨rfl, rfl⟩ (by decide) rfl (by decide) ?_
          refine w_X10_learns0 (by omega) ?_
          refine ⟨rfl, ?_⟩
          refine x_iload (pc' := 69) rfl rfl rfl ?_
          refine x_iret rfl rfl ?_
          have e : teachR T (nI h2w) (nI 0) y z = (T 2 h2w, some (upH T h2w 0 0 0)) := by unfold teachR; rw [dN_some h2l (by omega), dH_0]; dsimp only; rw [if_neg (by rw [h22]; decide)]; exact if_neg h37
          refine actM hI f1 g1 hH1 k1 e (fun k a b c => ?_) (fun j hj => rfl) ?_
          · rw [bh_up2_ne _ _ _ a, bh_up2_ne _ _ _ a, bh_up2_ne _ _ _ a]
          · rw [bh_up2_k, bh_up2_k, bh_up2_k]; exact rn_hab hW hR1 h2l (by omega) (fun q => by omega) (fun q => by omega)
    · subst e15; subst f15
      refine ⟨rfl, ?_⟩
      refine x_if_ne (pc' := 18) rfl rfl (fun _ => ?_) (fun c15 => absurd c15 (by decide))
      refine x_aload (pc' := 21) rfl rfl rfl ?_
      refine x_iload (pc' := 22) rfl rfl rfl ?_
      refine x_callV (pc' := 25) (d1 := 2) (Bs := [_]) rfl rfl rfl rfl rfl rfl rfl (Nat.le_of_ble_eq_true rfl) ⟨rfl, rfl⟩ (by decide) rfl (by decide) ?_
      refine w_X10_isDead hW hR (by assumption) (fun h22 => ?_) (fun h22 => ?_)
      · refine ⟨rfl, ?_⟩
        refine x_if_eq (pc' := 28) rfl rfl (fun c25 => absurd c25 (by decide)) (fun _ => ?_)
        refine x_int (pc' := 30) (v := (-4)) rfl rfl rfl ?_
        refine x_iret rfl rfl ?_
        have e : teachR T (nI h2w) (nI k) (nI a) z = (-4, none) := by unfold teachR; rw [dN_some h2l (by omega), dH_1 k1l k5l al n4]; dsimp only; exact if_pos h22
        rw [e] at k1
        exact k1 D (fun _ _ => rfl) hI
      · refine ⟨rfl, ?_⟩
        refine x_if_eq (pc' := 28) rfl rfl (fun _ => ?_) (fun c25 => absurd (by decide) c25)
        refine x_aload (pc' := 32) rfl rfl rfl ?_
        refine x_iload (pc' := 33) rfl rfl rfl ?_
        refine x_iload (pc' := 34) rfl rfl rfl ?_
        refine x_iload (pc' := 35) rfl rfl rfl ?_
        refine x_iload (pc' := 37) rfl rfl rfl ?_
        refine x_callV (pc' := 40) (d1 := 2) (Bs := [_, _, _, _]) rfl rfl rfl rfl rfl rfl rfl (Nat.le_of_ble_eq_true rfl) ⟨rfl, rfl⟩ (by decide) rfl (by decide) ?_
        refine w_X10_hasHabit1 hW hR h2l k1l k5l al (fun q1 q2 q3 => ?_) (fun h37 => ?_)
        · refine ⟨rfl, ?_⟩
          refine x_if_eq (pc' := 43) rfl rfl (fun c40 => absurd c40 (by decide)) (fun _ => ?_)
          refine x_int (pc' := 45) (v := (-2)) rfl rfl rfl ?_
          refine x_iret rfl rfl ?_
          have e : teachR T (nI h2w) (nI k) (nI a) z = (-2, none) := by unfold teachR; rw [dN_some h2l (by omega), dH_1 k1l k5l al n4]; dsimp only; rw [if_neg (by rw [h22]; decide)]; exact if_pos ⟨q1, q2, q3⟩
          rw [e] at k1
          exact k1 D (fun _ _ => rfl) hI
        · refine ⟨rfl, ?_⟩
          refine x_if_eq (pc' := 43) rfl rfl (fun _ => ?_) (fun c40 => absurd (by decide) c40)
          refine x_aload (pc' := 47) rfl rfl rfl ?_
          refine x_callV (pc' := 50) (d1 := 2) (Bs := []) rfl rfl rfl rfl rfl rfl rfl (Nat.le_of_ble_eq_true rfl) ⟨rfl, rfl⟩ (by decide) rfl (by decide) ?_
          refine w_X10_keepsPast hW hR hI.2.1 hG.2.1 (fun D1 f1 g1 hH1 => ?_)
          refine ⟨rfl, ?_⟩
          have hR1 : Rn T (D1 206) := by rw [f1 206 (by decide)]; exact hR
          refine x_aload (pc' := 51) rfl rfl rfl ?_
          refine x_iload (pc' := 52) rfl rfl rfl ?_
          refine x_int (pc' := 53) (v := nI 1) rfl rfl rfl ?_
          refine x_callV (pc' := 56) (d1 := 1) (Bs := [_, _]) rfl rfl rfl rfl rfl rfl rfl (Nat.le_of_ble_eq_true rfl) ⟨rfl, rfl⟩ (by decide) rfl (by decide) ?_
          refine w_X10_of (D := D1) (by omega) (by decide) ?_
          refine ⟨rfl, ?_⟩
          refine x_top (hR1.rkd h2l) ?_
          refine x_istore (pc' := 58) (lv' := [_, _, _, _, _, _]) rfl rfl (by decide) rfl ?_
          refine x_aload (pc' := 59) rfl rfl rfl ?_
          refine x_iload (pc' := 60) rfl rfl rfl ?_
          refine x_iload (pc' := 61) rfl rfl rfl ?_
          refine x_iload (pc' := 62) rfl rfl rfl ?_
          refine x_iload (pc' := 64) rfl rfl rfl ?_
          refine x_callV (pc' := 67) (d1 := 2) (Bs := [_, _, _, _]) rfl rfl rfl rfl rfl rfl rfl (Nat.le_of_ble_eq_true rfl) ⟨rfl, rfl⟩ (by decide) rfl (by decide) ?_
          refine w_X10_learns1 (by omega) k1l k5l al ?_
          refine ⟨rfl, ?_⟩
          refine x_iload (pc' := 69) rfl rfl rfl ?_
          refine x_iret rfl rfl ?_
          have e : teachR T (nI h2w) (nI k) (nI a) z = (T 2 h2w, some (upH T h2w k a 0)) := by unfold teachR; rw [dN_some h2l (by omega), dH_1 k1l k5l al n4]; dsimp only; rw [if_neg (by rw [h22]; decide)]; exact if_neg h37
          refine actM hI f1 g1 hH1 k1 e (fun k a b c => ?_) (fun j hj => rfl) ?_
          · rw [bh_up2_ne _ _ _ a, bh_up2_ne _ _ _ a, bh_up2_ne _ _ _ a]
          · rw [bh_up2_k, bh_up2_k, bh_up2_k]; exact rn_hab hW hR1 h2l (by omega) (fun q => rfl) (fun q => by omega)
    · subst e15; subst f15; subst g15
      refine ⟨rfl, ?_⟩
      refine x_if_ne (pc' := 18) rfl rfl (fun _ => ?_) (fun c15 => absurd c15 (by decide))
      refine x_aload (pc' := 21) rfl rfl rfl ?_
      refine x_iload (pc' := 22) rfl rfl rfl ?_
      refine x_callV (pc' := 25) (d1 := 2) (Bs := [_]) rfl rfl rfl rfl rfl rfl rfl (Nat.le_of_ble_eq_true rfl) ⟨rfl, rfl⟩ (by decide) rfl (by decide) ?_
      refine w_X10_isDead hW hR (by assumption) (fun h22 => ?_) (fun h22 => ?_)
      · refine ⟨rfl, ?_⟩
        refine x_if_eq (pc' := 28) rfl rfl (fun c25 => absurd c25 (by decide)) (fun _ => ?_)
        refine x_int (pc' := 30) (v := (-4)) rfl rfl rfl ?_
        refine x_iret rfl rfl ?_
        have e : teachR T (nI h2w) (nI k) (nI a) (nI b) = (-4, none) := by unfold teachR; rw [dN_some h2l (by omega), dH_2 k5l k7l al bl nab]; dsimp only; exact if_pos h22
        rw [e] at k1
        exact k1 D (fun _ _ => rfl) hI
      · refine ⟨rfl, ?_⟩
        refine x_if_eq (pc' := 28) rfl rfl (fun _ => ?_) (fun c25 => absurd (by decide) c25)
        refine x_aload (pc' := 32) rfl rfl rfl ?_
        refine x_iload (pc' := 33) rfl rfl rfl ?_
        refine x_iload (pc' := 34) rfl rfl rfl ?_
        refine x_iload (pc' := 35) rfl rfl rfl ?_
        refine x_iload (pc' := 37) rfl rfl rfl ?_
        refine x_callV (pc' := 40) (d1 := 2) (Bs := [_, _, _, _]) rfl rfl rfl rfl rfl rfl rfl (Nat.le_of_ble_eq_true rfl) ⟨rfl, rfl⟩ (by decide) rfl (by decide) ?_
        refine w_X10_hasHabit2 hW hR h2l k5l k7l al bl (fun q1 q2 q3 => ?_) (fun h37 => ?_)
        · refine ⟨rfl, ?_⟩
          refine x_if_eq (pc' := 43) rfl rfl (fun c40 => absurd c40 (by decide)) (fun _ => ?_)
          refine x_int (pc' := 45) (v := (-2)) rfl rfl rfl ?_
          refine x_iret rfl rfl ?_
          have e : teachR T (nI h2w) (nI k) (nI a) (nI b) = (-2, none) := by unfold teachR; rw [dN_some h2l (by omega), dH_2 k5l k7l al bl nab]; dsimp only; rw [if_neg (by rw [h22]; decide)]; exact if_pos ⟨q1, q2, q3⟩
          rw [e] at k1
          exact k1 D (fun _ _ => rfl) hI
        · refine ⟨rfl, ?_⟩
          refine x_if_eq (pc' := 43) rfl rfl (fun _ => ?_) (fun c40 => absurd (by decide) c40)
          refine x_aload (pc' := 47) rfl rfl rfl ?_
          refine x_callV (pc' := 50) (d1 := 2) (Bs := []) rfl rfl rfl rfl rfl rfl rfl (Nat.le_of_ble_eq_true rfl) ⟨rfl, rfl⟩ (by decide) rfl (by decide) ?_
          refine w_X10_keepsPast hW hR hI.2.1 hG.2.1 (fun D1 f1 g1 hH1 => ?_)
          refine ⟨rfl, ?_⟩
          have hR1 : Rn T (D1 206) := by rw [f1 206 (by decide)]; exact hR
          refine x_aload (pc' := 51) rfl rfl rfl ?_
          refine x_iload (pc' := 52) rfl rfl rfl ?_
          refine x_int (pc' := 53) (v := nI 1) rfl rfl rfl ?_
          refine x_callV (pc' := 56) (d1 := 1) (Bs := [_, _]) rfl rfl rfl rfl rfl rfl rfl (Nat.le_of_ble_eq_true rfl) ⟨rfl, rfl⟩ (by decide) rfl (by decide) ?_
          refine w_X10_of (D := D1) (by omega) (by decide) ?_
          refine ⟨rfl, ?_⟩
          refine x_top (hR1.rkd h2l) ?_
          refine x_istore (pc' := 58) (lv' := [_, _, _, _, _, _]) rfl rfl (by decide) rfl ?_
          refine x_aload (pc' := 59) rfl rfl rfl ?_
          refine x_iload (pc' := 60) rfl rfl rfl ?_
          refine x_iload (pc' := 61) rfl rfl rfl ?_
          refine x_iload (pc' := 62) rfl rfl rfl ?_
          refine x_iload (pc' := 64) rfl rfl rfl ?_
          refine x_callV (pc' := 67) (d1 := 2) (Bs := [_, _, _, _]) rfl rfl rfl rfl rfl rfl rfl (Nat.le_of_ble_eq_true rfl) ⟨rfl, rfl⟩ (by decide) rfl (by decide) ?_
          refine w_X10_learns2 (by omega) k5l k7l al bl ?_
          refine ⟨rfl, ?_⟩
          refine x_iload (pc' := 69) rfl rfl rfl ?_
          refine x_iret rfl rfl ?_
          have e : teachR T (nI h2w) (nI k) (nI a) (nI b) = (T 2 h2w, some (upH T h2w k a b)) := by unfold teachR; rw [dN_some h2l (by omega), dH_2 k5l k7l al bl nab]; dsimp only; rw [if_neg (by rw [h22]; decide)]; exact if_neg h37
          refine actM hI f1 g1 hH1 k1 e (fun k a b c => ?_) (fun j hj => rfl) ?_
          · rw [bh_up2_ne _ _ _ a, bh_up2_ne _ _ _ a, bh_up2_ne _ _ _ a]
          · rw [bh_up2_k, bh_up2_k, bh_up2_k]; exact rn_hab hW hR1 h2l (by omega) (fun q => rfl) (fun q => rfl)
    · refine ⟨rfl, ?_⟩
      refine x_if_ne (pc' := 18) rfl rfl (fun c15 => absurd (by decide) c15) (fun _ => ?_)
      refine x_int (pc' := 19) (v := (-1)) rfl rfl rfl ?_
      refine x_iret rfl rfl ?_
      first
        | (have e : teachR T x u y z = (-1, none) := by unfold teachR; rw [dN_none (by omega) h2]
           rw [e] at k1
           exact k1 D (fun _ _ => rfl) hI)
        | (have e : teachR T (nI h2w) u y z = (-1, none) := by unfold teachR; rw [dN_some h2l (by omega), hs]
           rw [e] at k1
           exact k1 D (fun _ _ => rfl) hI)
  · refine ⟨rfl, ?_⟩
    refine x_if_eq (pc' := 8) rfl rfl (fun _ => ?_) (fun c5 => absurd (by decide) c5)
    refine x_int (pc' := 19) (v := (-1)) rfl rfl rfl ?_
    refine x_iret rfl rfl ?_
    first
      | (have e : teachR T x u y z = (-1, none) := by unfold teachR; rw [dN_none (by omega) h2]
         rw [e] at k1
         exact k1 D (fun _ _ => rfl) hI)
      | (have e : teachR T (nI h2w) u y z = (-1, none) := by unfold teachR; rw [dN_some h2l (by omega), hs]
         rw [e] at k1
         exact k1 D (fun _ _ => rfl) hI)
end
