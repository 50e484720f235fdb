-- ===== PART A: goes FIRST, ahead of the names: the tables' words, and 'selects' of the private methods out of them =====
/-- a private method of a class that the tables say can be made, by its rows of tables_1 -/
def lw_okq (q : MethodName × Nat) : Prop := (q.1.cls ≠ "java/lang/invoke/MethodHandle" ∧ q.1.cls ≠ "java/lang/invoke/VarHandle") ∧ Cond.instantiable q.1.cls q.2 ∈ tables_1 ∧ Cond.privateMethod q.1 ∈ tables_1 ∧ Cond.instanceMethod q.1 ∈ tables_1
theorem lw_p0 : lw_okq (⟨"TitleFinder$Text", "passOneOf", "(II)I"⟩, 7) := ⟨⟨by decide +kernel, by decide +kernel⟩, List.mem_of_getElem? (i := 108) (by decide +kernel), List.mem_of_getElem? (i := 236) (by decide +kernel), List.mem_of_getElem? (i := 237) (by decide +kernel)⟩
theorem lw_p1 : lw_okq (⟨"TitleFinder$Text", "sameLength", "(Ljava/lang/String;)I"⟩, 7) := ⟨⟨by decide +kernel, by decide +kernel⟩, List.mem_of_getElem? (i := 108) (by decide +kernel), List.mem_of_getElem? (i := 260) (by decide +kernel), List.mem_of_getElem? (i := 261) (by decide +kernel)⟩
theorem lw_p2 : lw_okq (⟨"TitleFinder$Text", "passTitle", "()Z"⟩, 7) := ⟨⟨by decide +kernel, by decide +kernel⟩, List.mem_of_getElem? (i := 108) (by decide +kernel), List.mem_of_getElem? (i := 315) (by decide +kernel), List.mem_of_getElem? (i := 316) (by decide +kernel)⟩
theorem lw_p3 : lw_okq (⟨"TitleFinder$Text", "hasSign", "()Z"⟩, 7) := ⟨⟨by decide +kernel, by decide +kernel⟩, List.mem_of_getElem? (i := 108) (by decide +kernel), List.mem_of_getElem? (i := 319) (by decide +kernel), List.mem_of_getElem? (i := 320) (by decide +kernel)⟩
theorem lw_p4 : lw_okq (⟨"TitleFinder$Text", "passNumber", "()Z"⟩, 7) := ⟨⟨by decide +kernel, by decide +kernel⟩, List.mem_of_getElem? (i := 108) (by decide +kernel), List.mem_of_getElem? (i := 329) (by decide +kernel), List.mem_of_getElem? (i := 330) (by decide +kernel)⟩
theorem lw_p5 : lw_okq (⟨"TitleFinder$Text", "passName", "(II)Z"⟩, 7) := ⟨⟨by decide +kernel, by decide +kernel⟩, List.mem_of_getElem? (i := 108) (by decide +kernel), List.mem_of_getElem? (i := 333) (by decide +kernel), List.mem_of_getElem? (i := 334) (by decide +kernel)⟩
theorem lw_p6 : lw_okq (⟨"java/util/ArrayList", "add", "(Ljava/lang/Object;[Ljava/lang/Object;I)V"⟩, 3) := ⟨⟨by decide +kernel, by decide +kernel⟩, List.mem_of_getElem? (i := 36) (by decide +kernel), List.mem_of_getElem? (i := 379) (by decide +kernel), List.mem_of_getElem? (i := 380) (by decide +kernel)⟩
theorem lw_p7 : lw_okq (⟨"java/util/ArrayList", "grow", "()[Ljava/lang/Object;"⟩, 3) := ⟨⟨by decide +kernel, by decide +kernel⟩, List.mem_of_getElem? (i := 36) (by decide +kernel), List.mem_of_getElem? (i := 383) (by decide +kernel), List.mem_of_getElem? (i := 384) (by decide +kernel)⟩
theorem lw_p8 : lw_okq (⟨"java/util/ArrayList", "grow", "(I)[Ljava/lang/Object;"⟩, 3) := ⟨⟨by decide +kernel, by decide +kernel⟩, List.mem_of_getElem? (i := 36) (by decide +kernel), List.mem_of_getElem? (i := 387) (by decide +kernel), List.mem_of_getElem? (i := 388) (by decide +kernel)⟩
theorem lw_p9 : lw_okq (⟨"TitleFinder", "obeyed", "()Z"⟩, 6) := ⟨⟨by decide +kernel, by decide +kernel⟩, List.mem_of_getElem? (i := 22) (by decide +kernel), List.mem_of_getElem? (i := 432) (by decide +kernel), List.mem_of_getElem? (i := 433) (by decide +kernel)⟩
theorem lw_p10 : lw_okq (⟨"TitleFinder", "addIfPossible", "(LTitleFinder$Title;)I"⟩, 6) := ⟨⟨by decide +kernel, by decide +kernel⟩, List.mem_of_getElem? (i := 22) (by decide +kernel), List.mem_of_getElem? (i := 470) (by decide +kernel), List.mem_of_getElem? (i := 471) (by decide +kernel)⟩
theorem lw_p11 : lw_okq (⟨"TitleFinder", "dropIfThere", "(I)Z"⟩, 6) := ⟨⟨by decide +kernel, by decide +kernel⟩, List.mem_of_getElem? (i := 22) (by decide +kernel), List.mem_of_getElem? (i := 487) (by decide +kernel), List.mem_of_getElem? (i := 488) (by decide +kernel)⟩
theorem lw_p12 : lw_okq (⟨"java/util/ArrayList", "fastRemove", "([Ljava/lang/Object;I)V"⟩, 3) := ⟨⟨by decide +kernel, by decide +kernel⟩, List.mem_of_getElem? (i := 36) (by decide +kernel), List.mem_of_getElem? (i := 499) (by decide +kernel), List.mem_of_getElem? (i := 500) (by decide +kernel)⟩
theorem lw_p13 : lw_okq (⟨"TitleFinder", "pickIfThere", "(I)I"⟩, 6) := ⟨⟨by decide +kernel, by decide +kernel⟩, List.mem_of_getElem? (i := 22) (by decide +kernel), List.mem_of_getElem? (i := 512) (by decide +kernel), List.mem_of_getElem? (i := 513) (by decide +kernel)⟩
theorem lw_p14 : lw_okq (⟨"TitleFinder$Ranking", "insert", "(LTitleFinder$State;II)V"⟩, 3) := ⟨⟨by decide +kernel, by decide +kernel⟩, List.mem_of_getElem? (i := 139) (by decide +kernel), List.mem_of_getElem? (i := 541) (by decide +kernel), List.mem_of_getElem? (i := 542) (by decide +kernel)⟩
theorem lw_p15 : lw_okq (⟨"TitleFinder$Study", "lookAtPiecesFrom", "(I[CLTitleFinder$State;I)V"⟩, 5) := ⟨⟨by decide +kernel, by decide +kernel⟩, List.mem_of_getElem? (i := 157) (by decide +kernel), List.mem_of_getElem? (i := 606) (by decide +kernel), List.mem_of_getElem? (i := 607) (by decide +kernel)⟩
def lw_privs_1 : List (MethodName × Nat) := [(⟨"TitleFinder$Text", "passOneOf", "(II)I"⟩, 7), (⟨"TitleFinder$Text", "sameLength", "(Ljava/lang/String;)I"⟩, 7), (⟨"TitleFinder$Text", "passTitle", "()Z"⟩, 7), (⟨"TitleFinder$Text", "hasSign", "()Z"⟩, 7), (⟨"TitleFinder$Text", "passNumber", "()Z"⟩, 7), (⟨"TitleFinder$Text", "passName", "(II)Z"⟩, 7), (⟨"java/util/ArrayList", "add", "(Ljava/lang/Object;[Ljava/lang/Object;I)V"⟩, 3), (⟨"java/util/ArrayList", "grow", "()[Ljava/lang/Object;"⟩, 3), (⟨"java/util/ArrayList", "grow", "(I)[Ljava/lang/Object;"⟩, 3), (⟨"TitleFinder", "obeyed", "()Z"⟩, 6), (⟨"TitleFinder", "addIfPossible", "(LTitleFinder$Title;)I"⟩, 6), (⟨"TitleFinder", "dropIfThere", "(I)Z"⟩, 6), (⟨"java/util/ArrayList", "fastRemove", "([Ljava/lang/Object;I)V"⟩, 3), (⟨"TitleFinder", "pickIfThere", "(I)I"⟩, 6), (⟨"TitleFinder$Ranking", "insert", "(LTitleFinder$State;II)V"⟩, 3), (⟨"TitleFinder$Study", "lookAtPiecesFrom", "(I[CLTitleFinder$State;I)V"⟩, 5)]
theorem lw_r1 : ∀ q ∈ lw_privs_1, lw_okq q := List.forall_mem_cons.mpr ⟨lw_p0, List.forall_mem_cons.mpr ⟨lw_p1, List.forall_mem_cons.mpr ⟨lw_p2, List.forall_mem_cons.mpr ⟨lw_p3, List.forall_mem_cons.mpr ⟨lw_p4, List.forall_mem_cons.mpr ⟨lw_p5, List.forall_mem_cons.mpr ⟨lw_p6, List.forall_mem_cons.mpr ⟨lw_p7, List.forall_mem_cons.mpr ⟨lw_p8, List.forall_mem_cons.mpr ⟨lw_p9, List.forall_mem_cons.mpr ⟨lw_p10, List.forall_mem_cons.mpr ⟨lw_p11, List.forall_mem_cons.mpr ⟨lw_p12, List.forall_mem_cons.mpr ⟨lw_p13, List.forall_mem_cons.mpr ⟨lw_p14, List.forall_mem_cons.mpr ⟨lw_p15, fun _ h => absurd h List.not_mem_nil⟩⟩⟩⟩⟩⟩⟩⟩⟩⟩⟩⟩⟩⟩⟩⟩
theorem lw_p16 : lw_okq (⟨"TitleFinder$Study", "longestWanted", "()I"⟩, 5) := ⟨⟨by decide +kernel, by decide +kernel⟩, List.mem_of_getElem? (i := 157) (by decide +kernel), List.mem_of_getElem? (i := 610) (by decide +kernel), List.mem_of_getElem? (i := 611) (by decide +kernel)⟩
theorem lw_p17 : lw_okq (⟨"TitleFinder$Study", "isKnownBy", "(ILTitleFinder$State;I)Z"⟩, 5) := ⟨⟨by decide +kernel, by decide +kernel⟩, List.mem_of_getElem? (i := 157) (by decide +kernel), List.mem_of_getElem? (i := 629) (by decide +kernel), List.mem_of_getElem? (i := 630) (by decide +kernel)⟩
theorem lw_p18 : lw_okq (⟨"TitleFinder$Study", "placeOf", "(II)I"⟩, 5) := ⟨⟨by decide +kernel, by decide +kernel⟩, List.mem_of_getElem? (i := 157) (by decide +kernel), List.mem_of_getElem? (i := 633) (by decide +kernel), List.mem_of_getElem? (i := 634) (by decide +kernel)⟩
theorem lw_p19 : lw_okq (⟨"TitleFinder$Study", "isFirstFor", "(ILTitleFinder$State;I)Z"⟩, 5) := ⟨⟨by decide +kernel, by decide +kernel⟩, List.mem_of_getElem? (i := 157) (by decide +kernel), List.mem_of_getElem? (i := 637) (by decide +kernel), List.mem_of_getElem? (i := 638) (by decide +kernel)⟩
theorem lw_p20 : lw_okq (⟨"TitleFinder", "studiedNumber", "(LTitleFinder$Title;I)I"⟩, 6) := ⟨⟨by decide +kernel, by decide +kernel⟩, List.mem_of_getElem? (i := 22) (by decide +kernel), List.mem_of_getElem? (i := 642) (by decide +kernel), List.mem_of_getElem? (i := 643) (by decide +kernel)⟩
theorem lw_p21 : lw_okq (⟨"TitleFinder", "keyWouldChange", "(I)Z"⟩, 6) := ⟨⟨by decide +kernel, by decide +kernel⟩, List.mem_of_getElem? (i := 22) (by decide +kernel), List.mem_of_getElem? (i := 674) (by decide +kernel), List.mem_of_getElem? (i := 675) (by decide +kernel)⟩
theorem lw_p22 : lw_okq (⟨"TitleFinder", "hashWithTitle", "(JILTitleFinder$Title;)J"⟩, 6) := ⟨⟨by decide +kernel, by decide +kernel⟩, List.mem_of_getElem? (i := 22) (by decide +kernel), List.mem_of_getElem? (i := 752) (by decide +kernel), List.mem_of_getElem? (i := 753) (by decide +kernel)⟩
theorem lw_p23 : lw_okq (⟨"TitleFinder", "hashWithResults", "(J)J"⟩, 6) := ⟨⟨by decide +kernel, by decide +kernel⟩, List.mem_of_getElem? (i := 22) (by decide +kernel), List.mem_of_getElem? (i := 762) (by decide +kernel), List.mem_of_getElem? (i := 763) (by decide +kernel)⟩
theorem lw_p24 : lw_okq (⟨"TitleFinderModel", "findError", "()I"⟩, 22) := ⟨⟨by decide +kernel, by decide +kernel⟩, List.mem_of_getElem? (i := 766) (by decide +kernel), List.mem_of_getElem? (i := 854) (by decide +kernel), List.mem_of_getElem? (i := 855) (by decide +kernel)⟩
theorem lw_p25 : lw_okq (⟨"TitleFinderModel", "readsCommand", "()Z"⟩, 22) := ⟨⟨by decide +kernel, by decide +kernel⟩, List.mem_of_getElem? (i := 766) (by decide +kernel), List.mem_of_getElem? (i := 858) (by decide +kernel), List.mem_of_getElem? (i := 859) (by decide +kernel)⟩
theorem lw_p26 : lw_okq (⟨"TitleFinderModel", "typedAt", "(I)I"⟩, 22) := ⟨⟨by decide +kernel, by decide +kernel⟩, List.mem_of_getElem? (i := 766) (by decide +kernel), List.mem_of_getElem? (i := 862) (by decide +kernel), List.mem_of_getElem? (i := 863) (by decide +kernel)⟩
theorem lw_p27 : lw_okq (⟨"TitleFinderModel", "readsAddOrAsk", "()Z"⟩, 22) := ⟨⟨by decide +kernel, by decide +kernel⟩, List.mem_of_getElem? (i := 766) (by decide +kernel), List.mem_of_getElem? (i := 866) (by decide +kernel), List.mem_of_getElem? (i := 867) (by decide +kernel)⟩
theorem lw_p28 : lw_okq (⟨"TitleFinderModel", "readsWord", "(J)Z"⟩, 22) := ⟨⟨by decide +kernel, by decide +kernel⟩, List.mem_of_getElem? (i := 766) (by decide +kernel), List.mem_of_getElem? (i := 872) (by decide +kernel), List.mem_of_getElem? (i := 873) (by decide +kernel)⟩
theorem lw_p29 : lw_okq (⟨"TitleFinderModel", "isNext", "(I)Z"⟩, 22) := ⟨⟨by decide +kernel, by decide +kernel⟩, List.mem_of_getElem? (i := 766) (by decide +kernel), List.mem_of_getElem? (i := 877) (by decide +kernel), List.mem_of_getElem? (i := 878) (by decide +kernel)⟩
theorem lw_p30 : lw_okq (⟨"TitleFinderModel", "readsTitle", "()Z"⟩, 22) := ⟨⟨by decide +kernel, by decide +kernel⟩, List.mem_of_getElem? (i := 766) (by decide +kernel), List.mem_of_getElem? (i := 881) (by decide +kernel), List.mem_of_getElem? (i := 882) (by decide +kernel)⟩
theorem lw_p31 : lw_okq (⟨"TitleFinderModel", "readsNumber", "()Z"⟩, 22) := ⟨⟨by decide +kernel, by decide +kernel⟩, List.mem_of_getElem? (i := 766) (by decide +kernel), List.mem_of_getElem? (i := 889) (by decide +kernel), List.mem_of_getElem? (i := 890) (by decide +kernel)⟩
def lw_privs_2 : List (MethodName × Nat) := [(⟨"TitleFinder$Study", "longestWanted", "()I"⟩, 5), (⟨"TitleFinder$Study", "isKnownBy", "(ILTitleFinder$State;I)Z"⟩, 5), (⟨"TitleFinder$Study", "placeOf", "(II)I"⟩, 5), (⟨"TitleFinder$Study", "isFirstFor", "(ILTitleFinder$State;I)Z"⟩, 5), (⟨"TitleFinder", "studiedNumber", "(LTitleFinder$Title;I)I"⟩, 6), (⟨"TitleFinder", "keyWouldChange", "(I)Z"⟩, 6), (⟨"TitleFinder", "hashWithTitle", "(JILTitleFinder$Title;)J"⟩, 6), (⟨"TitleFinder", "hashWithResults", "(J)J"⟩, 6), (⟨"TitleFinderModel", "findError", "()I"⟩, 22), (⟨"TitleFinderModel", "readsCommand", "()Z"⟩, 22), (⟨"TitleFinderModel", "typedAt", "(I)I"⟩, 22), (⟨"TitleFinderModel", "readsAddOrAsk", "()Z"⟩, 22), (⟨"TitleFinderModel", "readsWord", "(J)Z"⟩, 22), (⟨"TitleFinderModel", "isNext", "(I)Z"⟩, 22), (⟨"TitleFinderModel", "readsTitle", "()Z"⟩, 22), (⟨"TitleFinderModel", "readsNumber", "()Z"⟩, 22)]
theorem lw_r2 : ∀ q ∈ lw_privs_2, lw_okq q := List.forall_mem_cons.mpr ⟨lw_p16, List.forall_mem_cons.mpr ⟨lw_p17, List.forall_mem_cons.mpr ⟨lw_p18, List.forall_mem_cons.mpr ⟨lw_p19, List.forall_mem_cons.mpr ⟨lw_p20, List.forall_mem_cons.mpr ⟨lw_p21, List.forall_mem_cons.mpr ⟨lw_p22, List.forall_mem_cons.mpr ⟨lw_p23, List.forall_mem_cons.mpr ⟨lw_p24, List.forall_mem_cons.mpr ⟨lw_p25, List.forall_mem_cons.mpr ⟨lw_p26, List.forall_mem_cons.mpr ⟨lw_p27, List.forall_mem_cons.mpr ⟨lw_p28, List.forall_mem_cons.mpr ⟨lw_p29, List.forall_mem_cons.mpr ⟨lw_p30, List.forall_mem_cons.mpr ⟨lw_p31, fun _ h => absurd h List.not_mem_nil⟩⟩⟩⟩⟩⟩⟩⟩⟩⟩⟩⟩⟩⟩⟩⟩
theorem lw_p32 : lw_okq (⟨"TitleFinderModel", "readsMode", "()Z"⟩, 22) := ⟨⟨by decide +kernel, by decide +kernel⟩, List.mem_of_getElem? (i := 766) (by decide +kernel), List.mem_of_getElem? (i := 894) (by decide +kernel), List.mem_of_getElem? (i := 895) (by decide +kernel)⟩
theorem lw_p33 : lw_okq (⟨"TitleFinderModel", "readsOrder", "()Z"⟩, 22) := ⟨⟨by decide +kernel, by decide +kernel⟩, List.mem_of_getElem? (i := 766) (by decide +kernel), List.mem_of_getElem? (i := 903) (by decide +kernel), List.mem_of_getElem? (i := 904) (by decide +kernel)⟩
theorem lw_p34 : lw_okq (⟨"TitleFinderModel", "record", "()V"⟩, 22) := ⟨⟨by decide +kernel, by decide +kernel⟩, List.mem_of_getElem? (i := 766) (by decide +kernel), List.mem_of_getElem? (i := 916) (by decide +kernel), List.mem_of_getElem? (i := 917) (by decide +kernel)⟩
theorem lw_p35 : lw_okq (⟨"TitleFinderModel", "mayDo", "()Z"⟩, 22) := ⟨⟨by decide +kernel, by decide +kernel⟩, List.mem_of_getElem? (i := 766) (by decide +kernel), List.mem_of_getElem? (i := 920) (by decide +kernel), List.mem_of_getElem? (i := 921) (by decide +kernel)⟩
theorem lw_p36 : lw_okq (⟨"TitleFinderModel", "whyNotAdded", "(II)I"⟩, 22) := ⟨⟨by decide +kernel, by decide +kernel⟩, List.mem_of_getElem? (i := 766) (by decide +kernel), List.mem_of_getElem? (i := 924) (by decide +kernel), List.mem_of_getElem? (i := 925) (by decide +kernel)⟩
theorem lw_p37 : lw_okq (⟨"TitleFinderModel", "isThere", "(II)Z"⟩, 22) := ⟨⟨by decide +kernel, by decide +kernel⟩, List.mem_of_getElem? (i := 766) (by decide +kernel), List.mem_of_getElem? (i := 928) (by decide +kernel), List.mem_of_getElem? (i := 929) (by decide +kernel)⟩
theorem lw_p38 : lw_okq (⟨"TitleFinderModel", "lengthOf", "(I)I"⟩, 22) := ⟨⟨by decide +kernel, by decide +kernel⟩, List.mem_of_getElem? (i := 766) (by decide +kernel), List.mem_of_getElem? (i := 932) (by decide +kernel), List.mem_of_getElem? (i := 933) (by decide +kernel)⟩
theorem lw_p39 : lw_okq (⟨"TitleFinderModel", "part", "(II)I"⟩, 22) := ⟨⟨by decide +kernel, by decide +kernel⟩, List.mem_of_getElem? (i := 766) (by decide +kernel), List.mem_of_getElem? (i := 936) (by decide +kernel), List.mem_of_getElem? (i := 937) (by decide +kernel)⟩
theorem lw_p40 : lw_okq (⟨"TitleFinderModel", "characterOf", "(II)I"⟩, 22) := ⟨⟨by decide +kernel, by decide +kernel⟩, List.mem_of_getElem? (i := 766) (by decide +kernel), List.mem_of_getElem? (i := 940) (by decide +kernel), List.mem_of_getElem? (i := 941) (by decide +kernel)⟩
theorem lw_p41 : lw_okq (⟨"TitleFinderModel", "isTitle", "(I)Z"⟩, 22) := ⟨⟨by decide +kernel, by decide +kernel⟩, List.mem_of_getElem? (i := 766) (by decide +kernel), List.mem_of_getElem? (i := 944) (by decide +kernel), List.mem_of_getElem? (i := 945) (by decide +kernel)⟩
theorem lw_p42 : lw_okq (⟨"TitleFinderModel", "isRank", "(I)Z"⟩, 22) := ⟨⟨by decide +kernel, by decide +kernel⟩, List.mem_of_getElem? (i := 766) (by decide +kernel), List.mem_of_getElem? (i := 948) (by decide +kernel), List.mem_of_getElem? (i := 949) (by decide +kernel)⟩
theorem lw_p43 : lw_okq (⟨"TitleFinderModel", "findResults", "()V"⟩, 22) := ⟨⟨by decide +kernel, by decide +kernel⟩, List.mem_of_getElem? (i := 766) (by decide +kernel), List.mem_of_getElem? (i := 952) (by decide +kernel), List.mem_of_getElem? (i := 953) (by decide +kernel)⟩
theorem lw_p44 : lw_okq (⟨"TitleFinderModel", "findSources", "()V"⟩, 22) := ⟨⟨by decide +kernel, by decide +kernel⟩, List.mem_of_getElem? (i := 766) (by decide +kernel), List.mem_of_getElem? (i := 956) (by decide +kernel), List.mem_of_getElem? (i := 957) (by decide +kernel)⟩
theorem lw_p45 : lw_okq (⟨"TitleFinderModel", "beginsWord", "(II)Z"⟩, 22) := ⟨⟨by decide +kernel, by decide +kernel⟩, List.mem_of_getElem? (i := 766) (by decide +kernel), List.mem_of_getElem? (i := 960) (by decide +kernel), List.mem_of_getElem? (i := 961) (by decide +kernel)⟩
theorem lw_p46 : lw_okq (⟨"TitleFinderModel", "findPlaces", "()V"⟩, 22) := ⟨⟨by decide +kernel, by decide +kernel⟩, List.mem_of_getElem? (i := 766) (by decide +kernel), List.mem_of_getElem? (i := 964) (by decide +kernel), List.mem_of_getElem? (i := 965) (by decide +kernel)⟩
theorem lw_p47 : lw_okq (⟨"TitleFinderModel", "placeIn", "(I)I"⟩, 22) := ⟨⟨by decide +kernel, by decide +kernel⟩, List.mem_of_getElem? (i := 766) (by decide +kernel), List.mem_of_getElem? (i := 968) (by decide +kernel), List.mem_of_getElem? (i := 969) (by decide +kernel)⟩
def lw_privs_3 : List (MethodName × Nat) := [(⟨"TitleFinderModel", "readsMode", "()Z"⟩, 22), (⟨"TitleFinderModel", "readsOrder", "()Z"⟩, 22), (⟨"TitleFinderModel", "record", "()V"⟩, 22), (⟨"TitleFinderModel", "mayDo", "()Z"⟩, 22), (⟨"TitleFinderModel", "whyNotAdded", "(II)I"⟩, 22), (⟨"TitleFinderModel", "isThere", "(II)Z"⟩, 22), (⟨"TitleFinderModel", "lengthOf", "(I)I"⟩, 22), (⟨"TitleFinderModel", "part", "(II)I"⟩, 22), (⟨"TitleFinderModel", "characterOf", "(II)I"⟩, 22), (⟨"TitleFinderModel", "isTitle", "(I)Z"⟩, 22), (⟨"TitleFinderModel", "isRank", "(I)Z"⟩, 22), (⟨"TitleFinderModel", "findResults", "()V"⟩, 22), (⟨"TitleFinderModel", "findSources", "()V"⟩, 22), (⟨"TitleFinderModel", "beginsWord", "(II)Z"⟩, 22), (⟨"TitleFinderModel", "findPlaces", "()V"⟩, 22), (⟨"TitleFinderModel", "placeIn", "(I)I"⟩, 22)]
theorem lw_r3 : ∀ q ∈ lw_privs_3, lw_okq q := List.forall_mem_cons.mpr ⟨lw_p32, List.forall_mem_cons.mpr ⟨lw_p33, List.forall_mem_cons.mpr ⟨lw_p34, List.forall_mem_cons.mpr ⟨lw_p35, List.forall_mem_cons.mpr ⟨lw_p36, List.forall_mem_cons.mpr ⟨lw_p37, List.forall_mem_cons.mpr ⟨lw_p38, List.forall_mem_cons.mpr ⟨lw_p39, List.forall_mem_cons.mpr ⟨lw_p40, List.forall_mem_cons.mpr ⟨lw_p41, List.forall_mem_cons.mpr ⟨lw_p42, List.forall_mem_cons.mpr ⟨lw_p43, List.forall_mem_cons.mpr ⟨lw_p44, List.forall_mem_cons.mpr ⟨lw_p45, List.forall_mem_cons.mpr ⟨lw_p46, List.forall_mem_cons.mpr ⟨lw_p47, fun _ h => absurd h List.not_mem_nil⟩⟩⟩⟩⟩⟩⟩⟩⟩⟩⟩⟩⟩⟩⟩⟩
theorem lw_p48 : lw_okq (⟨"TitleFinderModel", "isPiece", "(III)Z"⟩, 22) := ⟨⟨by decide +kernel, by decide +kernel⟩, List.mem_of_getElem? (i := 766) (by decide +kernel), List.mem_of_getElem? (i := 972) (by decide +kernel), List.mem_of_getElem? (i := 973) (by decide +kernel)⟩
theorem lw_p49 : lw_okq (⟨"TitleFinderModel", "canStart", "(II)Z"⟩, 22) := ⟨⟨by decide +kernel, by decide +kernel⟩, List.mem_of_getElem? (i := 766) (by decide +kernel), List.mem_of_getElem? (i := 976) (by decide +kernel), List.mem_of_getElem? (i := 977) (by decide +kernel)⟩
theorem lw_p50 : lw_okq (⟨"TitleFinderModel", "sourceAt", "(II)I"⟩, 22) := ⟨⟨by decide +kernel, by decide +kernel⟩, List.mem_of_getElem? (i := 766) (by decide +kernel), List.mem_of_getElem? (i := 980) (by decide +kernel), List.mem_of_getElem? (i := 981) (by decide +kernel)⟩
theorem lw_p51 : lw_okq (⟨"TitleFinderModel", "isAhead", "(II)Z"⟩, 22) := ⟨⟨by decide +kernel, by decide +kernel⟩, List.mem_of_getElem? (i := 766) (by decide +kernel), List.mem_of_getElem? (i := 984) (by decide +kernel), List.mem_of_getElem? (i := 985) (by decide +kernel)⟩
theorem lw_p52 : lw_okq (⟨"TitleFinderModel", "isAheadByName", "(II)Z"⟩, 22) := ⟨⟨by decide +kernel, by decide +kernel⟩, List.mem_of_getElem? (i := 766) (by decide +kernel), List.mem_of_getElem? (i := 988) (by decide +kernel), List.mem_of_getElem? (i := 989) (by decide +kernel)⟩
theorem lw_p53 : lw_okq (⟨"TitleFinderModel", "isAheadByPlace", "(II)Z"⟩, 22) := ⟨⟨by decide +kernel, by decide +kernel⟩, List.mem_of_getElem? (i := 766) (by decide +kernel), List.mem_of_getElem? (i := 992) (by decide +kernel), List.mem_of_getElem? (i := 993) (by decide +kernel)⟩
theorem lw_p54 : lw_okq (⟨"TitleFinderModel", "does", "()V"⟩, 22) := ⟨⟨by decide +kernel, by decide +kernel⟩, List.mem_of_getElem? (i := 766) (by decide +kernel), List.mem_of_getElem? (i := 996) (by decide +kernel), List.mem_of_getElem? (i := 997) (by decide +kernel)⟩
theorem lw_p55 : lw_okq (⟨"TitleFinderModel", "adds", "(II)I"⟩, 22) := ⟨⟨by decide +kernel, by decide +kernel⟩, List.mem_of_getElem? (i := 766) (by decide +kernel), List.mem_of_getElem? (i := 1000) (by decide +kernel), List.mem_of_getElem? (i := 1001) (by decide +kernel)⟩
theorem lw_p56 : lw_okq (⟨"TitleFinderModel", "drops", "(I)I"⟩, 22) := ⟨⟨by decide +kernel, by decide +kernel⟩, List.mem_of_getElem? (i := 766) (by decide +kernel), List.mem_of_getElem? (i := 1004) (by decide +kernel), List.mem_of_getElem? (i := 1005) (by decide +kernel)⟩
theorem lw_p57 : lw_okq (⟨"TitleFinderModel", "picks", "(I)I"⟩, 22) := ⟨⟨by decide +kernel, by decide +kernel⟩, List.mem_of_getElem? (i := 766) (by decide +kernel), List.mem_of_getElem? (i := 1008) (by decide +kernel), List.mem_of_getElem? (i := 1009) (by decide +kernel)⟩
theorem lw_p58 : lw_okq (⟨"TitleFinderModel", "clearsQuery", "()V"⟩, 22) := ⟨⟨by decide +kernel, by decide +kernel⟩, List.mem_of_getElem? (i := 766) (by decide +kernel), List.mem_of_getElem? (i := 1012) (by decide +kernel), List.mem_of_getElem? (i := 1013) (by decide +kernel)⟩
theorem lw_p59 : lw_okq (⟨"TitleFinderModel", "whyNotTyped", "()I"⟩, 22) := ⟨⟨by decide +kernel, by decide +kernel⟩, List.mem_of_getElem? (i := 766) (by decide +kernel), List.mem_of_getElem? (i := 1020) (by decide +kernel), List.mem_of_getElem? (i := 1021) (by decide +kernel)⟩
theorem lw_p60 : lw_okq (⟨"TitleFinderModel", "ofTitle", "(II)I"⟩, 22) := ⟨⟨by decide +kernel, by decide +kernel⟩, List.mem_of_getElem? (i := 766) (by decide +kernel), List.mem_of_getElem? (i := 1040) (by decide +kernel), List.mem_of_getElem? (i := 1041) (by decide +kernel)⟩
theorem lw_p61 : lw_okq (⟨"TitleFinderModel", "words", "(I)I"⟩, 22) := ⟨⟨by decide +kernel, by decide +kernel⟩, List.mem_of_getElem? (i := 766) (by decide +kernel), List.mem_of_getElem? (i := 1044) (by decide +kernel), List.mem_of_getElem? (i := 1045) (by decide +kernel)⟩
theorem lw_p62 : lw_okq (⟨"TitleFinderModel", "findPiece", "(IZ)V"⟩, 22) := ⟨⟨by decide +kernel, by decide +kernel⟩, List.mem_of_getElem? (i := 766) (by decide +kernel), List.mem_of_getElem? (i := 1048) (by decide +kernel), List.mem_of_getElem? (i := 1049) (by decide +kernel)⟩
theorem lw_p63 : lw_okq (⟨"TitleFinderModel", "asks", "(III)V"⟩, 22) := ⟨⟨by decide +kernel, by decide +kernel⟩, List.mem_of_getElem? (i := 766) (by decide +kernel), List.mem_of_getElem? (i := 1052) (by decide +kernel), List.mem_of_getElem? (i := 1053) (by decide +kernel)⟩
def lw_privs_4 : List (MethodName × Nat) := [(⟨"TitleFinderModel", "isPiece", "(III)Z"⟩, 22), (⟨"TitleFinderModel", "canStart", "(II)Z"⟩, 22), (⟨"TitleFinderModel", "sourceAt", "(II)I"⟩, 22), (⟨"TitleFinderModel", "isAhead", "(II)Z"⟩, 22), (⟨"TitleFinderModel", "isAheadByName", "(II)Z"⟩, 22), (⟨"TitleFinderModel", "isAheadByPlace", "(II)Z"⟩, 22), (⟨"TitleFinderModel", "does", "()V"⟩, 22), (⟨"TitleFinderModel", "adds", "(II)I"⟩, 22), (⟨"TitleFinderModel", "drops", "(I)I"⟩, 22), (⟨"TitleFinderModel", "picks", "(I)I"⟩, 22), (⟨"TitleFinderModel", "clearsQuery", "()V"⟩, 22), (⟨"TitleFinderModel", "whyNotTyped", "()I"⟩, 22), (⟨"TitleFinderModel", "ofTitle", "(II)I"⟩, 22), (⟨"TitleFinderModel", "words", "(I)I"⟩, 22), (⟨"TitleFinderModel", "findPiece", "(IZ)V"⟩, 22), (⟨"TitleFinderModel", "asks", "(III)V"⟩, 22)]
theorem lw_r4 : ∀ q ∈ lw_privs_4, lw_okq q := List.forall_mem_cons.mpr ⟨lw_p48, List.forall_mem_cons.mpr ⟨lw_p49, List.forall_mem_cons.mpr ⟨lw_p50, List.forall_mem_cons.mpr ⟨lw_p51, List.forall_mem_cons.mpr ⟨lw_p52, List.forall_mem_cons.mpr ⟨lw_p53, List.forall_mem_cons.mpr ⟨lw_p54, List.forall_mem_cons.mpr ⟨lw_p55, List.forall_mem_cons.mpr ⟨lw_p56, List.forall_mem_cons.mpr ⟨lw_p57, List.forall_mem_cons.mpr ⟨lw_p58, List.forall_mem_cons.mpr ⟨lw_p59, List.forall_mem_cons.mpr ⟨lw_p60, List.forall_mem_cons.mpr ⟨lw_p61, List.forall_mem_cons.mpr ⟨lw_p62, List.forall_mem_cons.mpr ⟨lw_p63, fun _ h => absurd h List.not_mem_nil⟩⟩⟩⟩⟩⟩⟩⟩⟩⟩⟩⟩⟩⟩⟩⟩
theorem lw_p64 : lw_okq (⟨"TitleFinderModel", "isAlone", "(I)Z"⟩, 22) := ⟨⟨by decide +kernel, by decide +kernel⟩, List.mem_of_getElem? (i := 766) (by decide +kernel), List.mem_of_getElem? (i := 1056) (by decide +kernel), List.mem_of_getElem? (i := 1057) (by decide +kernel)⟩
theorem lw_p65 : lw_okq (⟨"TitleFinderModel", "isFirst", "(I)Z"⟩, 22) := ⟨⟨by decide +kernel, by decide +kernel⟩, List.mem_of_getElem? (i := 766) (by decide +kernel), List.mem_of_getElem? (i := 1060) (by decide +kernel), List.mem_of_getElem? (i := 1061) (by decide +kernel)⟩
theorem lw_p66 : lw_okq (⟨"TitleFinderModel", "longestRun", "(II)I"⟩, 22) := ⟨⟨by decide +kernel, by decide +kernel⟩, List.mem_of_getElem? (i := 766) (by decide +kernel), List.mem_of_getElem? (i := 1068) (by decide +kernel), List.mem_of_getElem? (i := 1069) (by decide +kernel)⟩
theorem lw_p67 : lw_okq (⟨"TitleFinderModel", "findKeys", "()V"⟩, 22) := ⟨⟨by decide +kernel, by decide +kernel⟩, List.mem_of_getElem? (i := 766) (by decide +kernel), List.mem_of_getElem? (i := 1080) (by decide +kernel), List.mem_of_getElem? (i := 1081) (by decide +kernel)⟩
theorem lw_p68 : lw_okq (⟨"TitleFinderModel", "unknownNow", "()I"⟩, 22) := ⟨⟨by decide +kernel, by decide +kernel⟩, List.mem_of_getElem? (i := 766) (by decide +kernel), List.mem_of_getElem? (i := 1084) (by decide +kernel), List.mem_of_getElem? (i := 1085) (by decide +kernel)⟩
theorem lw_p69 : lw_okq (⟨"TitleFinderModel", "hardestNow", "()I"⟩, 22) := ⟨⟨by decide +kernel, by decide +kernel⟩, List.mem_of_getElem? (i := 766) (by decide +kernel), List.mem_of_getElem? (i := 1092) (by decide +kernel), List.mem_of_getElem? (i := 1093) (by decide +kernel)⟩
theorem lw_p70 : lw_okq (⟨"TitleFinderModel", "resultsMany", "()I"⟩, 22) := ⟨⟨by decide +kernel, by decide +kernel⟩, List.mem_of_getElem? (i := 766) (by decide +kernel), List.mem_of_getElem? (i := 1120) (by decide +kernel), List.mem_of_getElem? (i := 1121) (by decide +kernel)⟩
def lw_privs_5 : List (MethodName × Nat) := [(⟨"TitleFinderModel", "isAlone", "(I)Z"⟩, 22), (⟨"TitleFinderModel", "isFirst", "(I)Z"⟩, 22), (⟨"TitleFinderModel", "longestRun", "(II)I"⟩, 22), (⟨"TitleFinderModel", "findKeys", "()V"⟩, 22), (⟨"TitleFinderModel", "unknownNow", "()I"⟩, 22), (⟨"TitleFinderModel", "hardestNow", "()I"⟩, 22), (⟨"TitleFinderModel", "resultsMany", "()I"⟩, 22)]
theorem lw_r5 : ∀ q ∈ lw_privs_5, lw_okq q := List.forall_mem_cons.mpr ⟨lw_p64, List.forall_mem_cons.mpr ⟨lw_p65, List.forall_mem_cons.mpr ⟨lw_p66, List.forall_mem_cons.mpr ⟨lw_p67, List.forall_mem_cons.mpr ⟨lw_p68, List.forall_mem_cons.mpr ⟨lw_p69, List.forall_mem_cons.mpr ⟨lw_p70, fun _ h => absurd h List.not_mem_nil⟩⟩⟩⟩⟩⟩⟩
def lw_privs : List (MethodName × Nat) := lw_privs_1 ++ (lw_privs_2 ++ (lw_privs_3 ++ (lw_privs_4 ++ (lw_privs_5))))
def lw_tbl : List Cond := k2_sels lw_privs ++ tables_1
theorem lw_privs_ok : ∀ q ∈ lw_privs, lw_okq q := by
  show ∀ q ∈ lw_privs_1 ++ (lw_privs_2 ++ (lw_privs_3 ++ (lw_privs_4 ++ (lw_privs_5)))), lw_okq q
  exact List.forall_mem_append.mpr ⟨lw_r1, List.forall_mem_append.mpr ⟨lw_r2, List.forall_mem_append.mpr ⟨lw_r3, List.forall_mem_append.mpr ⟨lw_r4, lw_r5⟩⟩⟩⟩
-- ===== end of PART A; then your names; then what follows =====
/-! ===== BEGIN words of one list among another's, by their places ===== -/
theorem goodIn_r {big : List Cond} (ws : List Cond) (ps : List Nat) (hp : ws = ps.filterMap (fun i => big[i]?)) (h : ws.all goodWord = true) : GoodIn big ws := by
  intro w hw
  have h1 := List.all_eq_true.mp h w hw
  rw [hp] at hw
  obtain ⟨i, -, hi⟩ := List.mem_filterMap.mp hw
  have hm : w ∈ big := by first | exact List.mem_of_getElem? hi | exact List.getElem?_mem hi
  exact ⟨hm, good_of_word h1⟩
theorem goodIn_app {big a b : List Cond} (ha : GoodIn big a) (hb : GoodIn big b) : GoodIn big (a ++ b) := fun w h => (List.mem_append.mp h).elim (ha w) (hb w)
theorem goodIn_ca {big a b : List Cond} {c : Cond} (ha : GoodIn big (c :: a)) (hb : GoodIn big b) : GoodIn big (c :: (a ++ b)) := fun w h => (List.mem_cons.mp h).elim (fun e => ha w (List.mem_cons.mpr (Or.inl e))) (fun h => (List.mem_append.mp h).elim (fun h => ha w (List.mem_cons.mpr (Or.inr h))) (hb w))
theorem goodIn_sub {big ws : List Cond} (hm : ∀ w ∈ ws, w ∈ big) (h : ws.all goodWord = true) : GoodIn big ws := fun w hw => ⟨hm w hw, good_of_word (List.all_eq_true.mp h w hw)⟩
/-! ===== END ===== -/


/-! ===== BEGIN printed: names, fields, word lists, decode rows ===== -/
def RX0 : String := "TitleFinder$History"
def TX0 : u_T := fun k => match k with
  | 0 => ("TitleFinder$History", "rows", "[LTitleFinder$State;", true)
  | 1 => ("TitleFinder$History", "newest", "I", false)
  | _ => ("TitleFinder$History", "count", "I", false)
def tyX0 : Nat → FieldType := fun k => match k with
  | 0 => .array (.object "TitleFinder$State")
  | 1 => .int
  | _ => .int
abbrev wsX00 : List Cond := u_ws RX0 TX0 3
theorem nmX0 : ∀ a, a < 3 → ∀ b, b < 3 → a ≠ b → (TX0 a).2.1 ≠ (TX0 b).2.1 := by decide +kernel
theorem tyX0_ok : ∀ k, k < 3 → parseFieldDescriptor (TX0 k).2.2.1 = some (tyX0 k) := by decide +kernel
abbrev cX0_init : ByteArray := prog_2_method_1_code
def yX0_init : MethodName := ⟨RX0, "<init>", "()V"⟩
abbrev cX0_save : ByteArray := prog_2_method_2_code
def yX0_save : MethodName := ⟨RX0, "save", "(LTitleFinder$State;)V"⟩
abbrev cX0_restore : ByteArray := prog_2_method_3_code
def yX0_restore : MethodName := ⟨RX0, "restore", "(LTitleFinder$State;)V"⟩
def RX1 : String := "TitleFinder$Ranking"
def TX1 : u_T := fun k => match k with
  | 0 => ("TitleFinder$Ranking", "ranked", "[I", true)
  | 1 => ("TitleFinder$Ranking", "places", "[I", true)
  | _ => ("TitleFinder$Ranking", "count", "I", false)
def tyX1 : Nat → FieldType := fun k => match k with
  | 0 => .array .int
  | 1 => .array .int
  | _ => .int
abbrev wsX10 : List Cond := u_ws RX1 TX1 3
theorem nmX1 : ∀ a, a < 3 → ∀ b, b < 3 → a ≠ b → (TX1 a).2.1 ≠ (TX1 b).2.1 := by decide +kernel
theorem tyX1_ok : ∀ k, k < 3 → parseFieldDescriptor (TX1 k).2.2.1 = some (tyX1 k) := by decide +kernel
abbrev cX1_init : ByteArray := prog_3_method_1_code
def yX1_init : MethodName := ⟨RX1, "<init>", "()V"⟩
abbrev cX1_rank : ByteArray := prog_3_method_2_code
def yX1_rank : MethodName := ⟨RX1, "rank", "(LTitleFinder$State;)V"⟩
abbrev cX1_insert : ByteArray := prog_3_method_3_code
def yX1_insert : MethodName := ⟨RX1, "insert", "(LTitleFinder$State;II)V"⟩
abbrev cX1_has : ByteArray := prog_3_method_4_code
def yX1_has : MethodName := ⟨RX1, "has", "(I)Z"⟩
abbrev cX1_titleAt : ByteArray := prog_3_method_5_code
def yX1_titleAt : MethodName := ⟨RX1, "titleAt", "(I)I"⟩
abbrev cX1_placeAt : ByteArray := prog_3_method_6_code
def yX1_placeAt : MethodName := ⟨RX1, "placeAt", "(I)I"⟩
def RX2 : String := "TitleFinder$State"
def TX2 : u_T := fun k => match k with
  | 0 => ("TitleFinder$State", "titles", "Ljava/util/ArrayList;", true)
  | 1 => ("TitleFinder$State", "query", "[C", true)
  | 2 => ("TitleFinder$State", "queryLength", "I", false)
  | 3 => ("TitleFinder$State", "mode", "I", false)
  | _ => ("TitleFinder$State", "order", "I", false)
def tyX2 : Nat → FieldType := fun k => match k with
  | 0 => .object "java/util/ArrayList"
  | 1 => .array .char
  | 2 => .int
  | 3 => .int
  | _ => .int
abbrev wsX20 : List Cond := u_ws RX2 TX2 5
theorem nmX2 : ∀ a, a < 5 → ∀ b, b < 5 → a ≠ b → (TX2 a).2.1 ≠ (TX2 b).2.1 := by decide +kernel
theorem tyX2_ok : ∀ k, k < 5 → parseFieldDescriptor (TX2 k).2.2.1 = some (tyX2 k) := by decide +kernel
abbrev cX2_init : ByteArray := prog_4_method_1_code
def yX2_init : MethodName := ⟨RX2, "<init>", "()V"⟩
abbrev cX2_copyFrom : ByteArray := prog_4_method_2_code
def yX2_copyFrom : MethodName := ⟨RX2, "copyFrom", "(LTitleFinder$State;)V"⟩
abbrev cX2_has : ByteArray := prog_4_method_3_code
def yX2_has : MethodName := ⟨RX2, "has", "(I)Z"⟩
abbrev cX2_refusal : ByteArray := prog_4_method_4_code
def yX2_refusal : MethodName := ⟨RX2, "refusal", "(LTitleFinder$Title;)I"⟩
abbrev cX2_appendToQuery : ByteArray := prog_4_method_5_code
def yX2_appendToQuery : MethodName := ⟨RX2, "appendToQuery", "(C)V"⟩
abbrev cX2_queryEndsWithLetter : ByteArray := prog_4_method_6_code
def yX2_queryEndsWithLetter : MethodName := ⟨RX2, "queryEndsWithLetter", "()Z"⟩
abbrev cX2_placeOfMatch : ByteArray := prog_4_method_7_code
def yX2_placeOfMatch : MethodName := ⟨RX2, "placeOfMatch", "(I)I"⟩
abbrev cX2_comesBefore : ByteArray := prog_4_method_8_code
def yX2_comesBefore : MethodName := ⟨RX2, "comesBefore", "(IIII)Z"⟩
def RX3 : String := "TitleFinder$Study"
def TX3 : u_T := fun k => match k with
  | 0 => ("TitleFinder$Study", "places", "[[I", true)
  | 1 => ("TitleFinder$Study", "keyStart", "I", false)
  | 2 => ("TitleFinder$Study", "keyLength", "I", false)
  | 3 => ("TitleFinder$Study", "shortcutStart", "I", false)
  | _ => ("TitleFinder$Study", "shortcutLength", "I", false)
def tyX3 : Nat → FieldType := fun k => match k with
  | 0 => .array (.array .int)
  | 1 => .int
  | 2 => .int
  | 3 => .int
  | _ => .int
abbrev wsX30 : List Cond := u_ws RX3 TX3 5
theorem nmX3 : ∀ a, a < 5 → ∀ b, b < 5 → a ≠ b → (TX3 a).2.1 ≠ (TX3 b).2.1 := by decide +kernel
theorem tyX3_ok : ∀ k, k < 5 → parseFieldDescriptor (TX3 k).2.2.1 = some (tyX3 k) := by decide +kernel
abbrev cX3_init : ByteArray := prog_5_method_1_code
def yX3_init : MethodName := ⟨RX3, "<init>", "()V"⟩
abbrev cX3_look : ByteArray := prog_5_method_2_code
def yX3_look : MethodName := ⟨RX3, "look", "(LTitleFinder$State;I)V"⟩
abbrev cX3_hasKey : ByteArray := prog_5_method_3_code
def yX3_hasKey : MethodName := ⟨RX3, "hasKey", "()Z"⟩
abbrev cX3_hasShortcut : ByteArray := prog_5_method_4_code
def yX3_hasShortcut : MethodName := ⟨RX3, "hasShortcut", "()Z"⟩
abbrev cX3_lookAtPiecesFrom : ByteArray := prog_5_method_5_code
def yX3_lookAtPiecesFrom : MethodName := ⟨RX3, "lookAtPiecesFrom", "(I[CLTitleFinder$State;I)V"⟩
abbrev cX3_longestWanted : ByteArray := prog_5_method_6_code
def yX3_longestWanted : MethodName := ⟨RX3, "longestWanted", "()I"⟩
abbrev cX3_findPlaces : ByteArray := prog_5_method_7_code
def yX3_findPlaces : MethodName := ⟨RX3, "findPlaces", "([II[CILTitleFinder$Title;I)V"⟩
abbrev cX3_isKnownBy : ByteArray := prog_5_method_8_code
def yX3_isKnownBy : MethodName := ⟨RX3, "isKnownBy", "(ILTitleFinder$State;I)Z"⟩
abbrev cX3_isFirstFor : ByteArray := prog_5_method_9_code
def yX3_isFirstFor : MethodName := ⟨RX3, "isFirstFor", "(ILTitleFinder$State;I)Z"⟩
abbrev cX3_placeOf : ByteArray := prog_5_method_10_code
def yX3_placeOf : MethodName := ⟨RX3, "placeOf", "(II)I"⟩
def RX4 : String := "TitleFinder$Text"
def TX4 : u_T := fun k => match k with
  | 0 => ("TitleFinder$Text", "signs", "[C", true)
  | 1 => ("TitleFinder$Text", "length", "I", false)
  | 2 => ("TitleFinder$Text", "at", "I", false)
  | 3 => ("TitleFinder$Text", "command", "I", false)
  | 4 => ("TitleFinder$Text", "value", "I", false)
  | 5 => ("TitleFinder$Text", "from", "I", false)
  | _ => ("TitleFinder$Text", "to", "I", false)
def tyX4 : Nat → FieldType := fun k => match k with
  | 0 => .array .char
  | 1 => .int
  | 2 => .int
  | 3 => .int
  | 4 => .int
  | 5 => .int
  | _ => .int
abbrev wsX40 : List Cond := u_ws RX4 TX4 7
theorem nmX4 : ∀ a, a < 7 → ∀ b, b < 7 → a ≠ b → (TX4 a).2.1 ≠ (TX4 b).2.1 := by decide +kernel
theorem tyX4_ok : ∀ k, k < 7 → parseFieldDescriptor (TX4 k).2.2.1 = some (tyX4 k) := by decide +kernel
abbrev cX4_init : ByteArray := prog_6_method_1_code
def yX4_init : MethodName := ⟨RX4, "<init>", "()V"⟩
abbrev cX4_append : ByteArray := prog_6_method_2_code
def yX4_append : MethodName := ⟨RX4, "append", "(C)Z"⟩
abbrev cX4_makeEmpty : ByteArray := prog_6_method_3_code
def yX4_makeEmpty : MethodName := ⟨RX4, "makeEmpty", "()V"⟩
abbrev cX4_rewind : ByteArray := prog_6_method_4_code
def yX4_rewind : MethodName := ⟨RX4, "rewind", "()V"⟩
abbrev cX4_findFault : ByteArray := prog_6_method_5_code
def yX4_findFault : MethodName := ⟨RX4, "findFault", "()I"⟩
abbrev cX4_isTitle : ByteArray := prog_6_method_6_code
def yX4_isTitle : MethodName := ⟨RX4, "isTitle", "()Z"⟩
abbrev cX4_passCommand : ByteArray := prog_6_method_7_code
def yX4_passCommand : MethodName := ⟨RX4, "passCommand", "()Z"⟩
abbrev cX4_passSemicolon : ByteArray := prog_6_method_8_code
def yX4_passSemicolon : MethodName := ⟨RX4, "passSemicolon", "()Z"⟩
abbrev cX4_passTitle : ByteArray := prog_6_method_9_code
def yX4_passTitle : MethodName := ⟨RX4, "passTitle", "()Z"⟩
abbrev cX4_passNumber : ByteArray := prog_6_method_10_code
def yX4_passNumber : MethodName := ⟨RX4, "passNumber", "()Z"⟩
abbrev cX4_passName : ByteArray := prog_6_method_11_code
def yX4_passName : MethodName := ⟨RX4, "passName", "(II)Z"⟩
abbrev cX4_passOneOf : ByteArray := prog_6_method_12_code
def yX4_passOneOf : MethodName := ⟨RX4, "passOneOf", "(II)I"⟩
abbrev cX4_sameLength : ByteArray := prog_6_method_13_code
def yX4_sameLength : MethodName := ⟨RX4, "sameLength", "(Ljava/lang/String;)I"⟩
abbrev cX4_hasSign : ByteArray := prog_6_method_14_code
def yX4_hasSign : MethodName := ⟨RX4, "hasSign", "()Z"⟩
abbrev cX4_word : ByteArray := prog_6_method_15_code
def yX4_word : MethodName := ⟨RX4, "word", "(I)Ljava/lang/String;"⟩
abbrev cX4_name : ByteArray := prog_6_method_16_code
def yX4_name : MethodName := ⟨RX4, "name", "(I)Ljava/lang/String;"⟩
abbrev cX4_isLetter : ByteArray := prog_6_method_17_code
def yX4_isLetter : MethodName := ⟨RX4, "isLetter", "(I)Z"⟩
abbrev cX4_isDigit : ByteArray := prog_6_method_18_code
def yX4_isDigit : MethodName := ⟨RX4, "isDigit", "(I)Z"⟩
abbrev cX4_passedTitle : ByteArray := prog_6_method_19_code
def yX4_passedTitle : MethodName := ⟨RX4, "passedTitle", "()LTitleFinder$Title;"⟩
abbrev cX4_copyPassed : ByteArray := prog_6_method_20_code
def yX4_copyPassed : MethodName := ⟨RX4, "copyPassed", "(LTitleFinder$State;)V"⟩
def RX5 : String := "TitleFinder$Title"
def TX5 : u_T := fun k => match k with
  | 0 => ("TitleFinder$Title", "letters", "[C", true)
  | 1 => ("TitleFinder$Title", "initials", "[C", true)
  | _ => ("TitleFinder$Title", "uses", "I", true)
def tyX5 : Nat → FieldType := fun k => match k with
  | 0 => .array .char
  | 1 => .array .char
  | _ => .int
abbrev wsX50 : List Cond := u_ws RX5 TX5 3
theorem nmX5 : ∀ a, a < 3 → ∀ b, b < 3 → a ≠ b → (TX5 a).2.1 ≠ (TX5 b).2.1 := by decide +kernel
theorem tyX5_ok : ∀ k, k < 3 → parseFieldDescriptor (TX5 k).2.2.1 = some (tyX5 k) := by decide +kernel
abbrev cX5_init : ByteArray := prog_7_method_1_code
def yX5_init : MethodName := ⟨RX5, "<init>", "([C[CI)V"⟩
abbrev cX5_unused : ByteArray := prog_7_method_2_code
def yX5_unused : MethodName := ⟨RX5, "unused", "([C)LTitleFinder$Title;"⟩
abbrev cX5_initialsOf : ByteArray := prog_7_method_3_code
def yX5_initialsOf : MethodName := ⟨RX5, "initialsOf", "([C)[C"⟩
abbrev cX5_wordCount : ByteArray := prog_7_method_4_code
def yX5_wordCount : MethodName := ⟨RX5, "wordCount", "([C)I"⟩
abbrev cX5_usedOnceMore : ByteArray := prog_7_method_5_code
def yX5_usedOnceMore : MethodName := ⟨RX5, "usedOnceMore", "()LTitleFinder$Title;"⟩
abbrev cX5_run : ByteArray := prog_7_method_6_code
def yX5_run : MethodName := ⟨RX5, "run", "(I)[C"⟩
abbrev cX5_startsPiece : ByteArray := prog_7_method_7_code
def yX5_startsPiece : MethodName := ⟨RX5, "startsPiece", "(II)Z"⟩
abbrev cX5_placeOf : ByteArray := prog_7_method_8_code
def yX5_placeOf : MethodName := ⟨RX5, "placeOf", "([CII)I"⟩
abbrev cX5_commonRun : ByteArray := prog_7_method_9_code
def yX5_commonRun : MethodName := ⟨RX5, "commonRun", "(LTitleFinder$Title;)I"⟩
abbrev cX5_hasLettersOf : ByteArray := prog_7_method_10_code
def yX5_hasLettersOf : MethodName := ⟨RX5, "hasLettersOf", "(LTitleFinder$Title;)Z"⟩
abbrev cX5_comesByNameBefore : ByteArray := prog_7_method_11_code
def yX5_comesByNameBefore : MethodName := ⟨RX5, "comesByNameBefore", "(LTitleFinder$Title;)Z"⟩
abbrev cX5_sameLength : ByteArray := prog_7_method_12_code
def yX5_sameLength : MethodName := ⟨RX5, "sameLength", "([CI[CII)I"⟩
def RX6 : String := "TitleFinder"
def TX6 : u_T := fun k => match k with
  | 0 => ("TitleFinder", "state", "LTitleFinder$State;", true)
  | 1 => ("TitleFinder", "trial", "LTitleFinder$State;", true)
  | 2 => ("TitleFinder", "history", "LTitleFinder$History;", true)
  | 3 => ("TitleFinder", "text", "LTitleFinder$Text;", true)
  | 4 => ("TitleFinder", "ranking", "LTitleFinder$Ranking;", true)
  | _ => ("TitleFinder", "study", "LTitleFinder$Study;", true)
def tyX6 : Nat → FieldType := fun k => match k with
  | 0 => .object "TitleFinder$State"
  | 1 => .object "TitleFinder$State"
  | 2 => .object "TitleFinder$History"
  | 3 => .object "TitleFinder$Text"
  | 4 => .object "TitleFinder$Ranking"
  | _ => .object "TitleFinder$Study"
abbrev wsX60 : List Cond := u_ws RX6 TX6 6
theorem nmX6 : ∀ a, a < 6 → ∀ b, b < 6 → a ≠ b → (TX6 a).2.1 ≠ (TX6 b).2.1 := by decide +kernel
theorem tyX6_ok : ∀ k, k < 6 → parseFieldDescriptor (TX6 k).2.2.1 = some (tyX6 k) := by decide +kernel
abbrev cX6_init : ByteArray := prog_1_method_1_code
def yX6_init : MethodName := ⟨RX6, "<init>", "()V"⟩
abbrev cX6_type : ByteArray := prog_1_method_2_code
def yX6_type : MethodName := ⟨RX6, "type", "(I)I"⟩
abbrev cX6_clearText : ByteArray := prog_1_method_3_code
def yX6_clearText : MethodName := ⟨RX6, "clearText", "()I"⟩
abbrev cX6_syntaxError : ByteArray := prog_1_method_4_code
def yX6_syntaxError : MethodName := ⟨RX6, "syntaxError", "()I"⟩
abbrev cX6_carryOut : ByteArray := prog_1_method_5_code
def yX6_carryOut : MethodName := ⟨RX6, "carryOut", "()I"⟩
abbrev cX6_obeyed : ByteArray := prog_1_method_6_code
def yX6_obeyed : MethodName := ⟨RX6, "obeyed", "()Z"⟩
abbrev cX6_add : ByteArray := prog_1_method_7_code
def yX6_add : MethodName := ⟨RX6, "add", "()I"⟩
abbrev cX6_addIfPossible : ByteArray := prog_1_method_8_code
def yX6_addIfPossible : MethodName := ⟨RX6, "addIfPossible", "(LTitleFinder$Title;)I"⟩
abbrev cX6_drop : ByteArray := prog_1_method_9_code
def yX6_drop : MethodName := ⟨RX6, "drop", "(I)I"⟩
abbrev cX6_dropIfThere : ByteArray := prog_1_method_10_code
def yX6_dropIfThere : MethodName := ⟨RX6, "dropIfThere", "(I)Z"⟩
abbrev cX6_titles : ByteArray := prog_1_method_11_code
def yX6_titles : MethodName := ⟨RX6, "titles", "()I"⟩
abbrev cX6_character : ByteArray := prog_1_method_12_code
def yX6_character : MethodName := ⟨RX6, "character", "(II)I"⟩
abbrev cX6_of : ByteArray := prog_1_method_13_code
def yX6_of : MethodName := ⟨RX6, "of", "(II)I"⟩
abbrev cX6_studiedNumber : ByteArray := prog_1_method_14_code
def yX6_studiedNumber : MethodName := ⟨RX6, "studiedNumber", "(LTitleFinder$Title;I)I"⟩
abbrev cX6_common : ByteArray := prog_1_method_15_code
def yX6_common : MethodName := ⟨RX6, "common", "(II)I"⟩
abbrev cX6_closest : ByteArray := prog_1_method_16_code
def yX6_closest : MethodName := ⟨RX6, "closest", "(I)I"⟩
abbrev cX6_unknown : ByteArray := prog_1_method_17_code
def yX6_unknown : MethodName := ⟨RX6, "unknown", "()I"⟩
abbrev cX6_hardest : ByteArray := prog_1_method_18_code
def yX6_hardest : MethodName := ⟨RX6, "hardest", "()I"⟩
abbrev cX6_ifAdded : ByteArray := prog_1_method_19_code
def yX6_ifAdded : MethodName := ⟨RX6, "ifAdded", "()I"⟩
abbrev cX6_keyWouldChange : ByteArray := prog_1_method_20_code
def yX6_keyWouldChange : MethodName := ⟨RX6, "keyWouldChange", "(I)Z"⟩
abbrev cX6_setMode : ByteArray := prog_1_method_21_code
def yX6_setMode : MethodName := ⟨RX6, "setMode", "(I)I"⟩
abbrev cX6_setOrder : ByteArray := prog_1_method_22_code
def yX6_setOrder : MethodName := ⟨RX6, "setOrder", "(I)I"⟩
abbrev cX6_mode : ByteArray := prog_1_method_23_code
def yX6_mode : MethodName := ⟨RX6, "mode", "()I"⟩
abbrev cX6_order : ByteArray := prog_1_method_24_code
def yX6_order : MethodName := ⟨RX6, "order", "()I"⟩
abbrev cX6_ask : ByteArray := prog_1_method_25_code
def yX6_ask : MethodName := ⟨RX6, "ask", "(I)I"⟩
abbrev cX6_erase : ByteArray := prog_1_method_26_code
def yX6_erase : MethodName := ⟨RX6, "erase", "()I"⟩
abbrev cX6_queryLength : ByteArray := prog_1_method_27_code
def yX6_queryLength : MethodName := ⟨RX6, "queryLength", "()I"⟩
abbrev cX6_queryCharacter : ByteArray := prog_1_method_28_code
def yX6_queryCharacter : MethodName := ⟨RX6, "queryCharacter", "(I)I"⟩
abbrev cX6_results : ByteArray := prog_1_method_29_code
def yX6_results : MethodName := ⟨RX6, "results", "()I"⟩
abbrev cX6_result : ByteArray := prog_1_method_30_code
def yX6_result : MethodName := ⟨RX6, "result", "(I)I"⟩
abbrev cX6_matchPlace : ByteArray := prog_1_method_31_code
def yX6_matchPlace : MethodName := ⟨RX6, "matchPlace", "(I)I"⟩
abbrev cX6_pick : ByteArray := prog_1_method_32_code
def yX6_pick : MethodName := ⟨RX6, "pick", "(I)I"⟩
abbrev cX6_pickIfThere : ByteArray := prog_1_method_33_code
def yX6_pickIfThere : MethodName := ⟨RX6, "pickIfThere", "(I)I"⟩
abbrev cX6_undo : ByteArray := prog_1_method_34_code
def yX6_undo : MethodName := ⟨RX6, "undo", "()I"⟩
abbrev cX6_digest : ByteArray := prog_1_method_35_code
def yX6_digest : MethodName := ⟨RX6, "digest", "()J"⟩
abbrev cX6_hashWithTitle : ByteArray := prog_1_method_36_code
def yX6_hashWithTitle : MethodName := ⟨RX6, "hashWithTitle", "(JILTitleFinder$Title;)J"⟩
abbrev cX6_hashWithResults : ByteArray := prog_1_method_37_code
def yX6_hashWithResults : MethodName := ⟨RX6, "hashWithResults", "(J)J"⟩
abbrev cX6_hashWith : ByteArray := prog_1_method_38_code
def yX6_hashWith : MethodName := ⟨RX6, "hashWith", "(JI)J"⟩
def RX7 : String := "TitleFinderModel"
def TX7 : u_T := fun k => match k with
  | 0 => ("TitleFinderModel", "state", "[I", true)
  | 1 => ("TitleFinderModel", "history", "[I", true)
  | 2 => ("TitleFinderModel", "recorded", "I", false)
  | 3 => ("TitleFinderModel", "text", "[I", true)
  | 4 => ("TitleFinderModel", "textLength", "I", false)
  | 5 => ("TitleFinderModel", "source", "[I", true)
  | 6 => ("TitleFinderModel", "sourceLength", "[I", true)
  | 7 => ("TitleFinderModel", "asked", "[I", true)
  | 8 => ("TitleFinderModel", "askedLength", "I", false)
  | 9 => ("TitleFinderModel", "ranked", "[I", true)
  | 10 => ("TitleFinderModel", "rankedMany", "I", false)
  | 11 => ("TitleFinderModel", "places", "[I", true)
  | 12 => ("TitleFinderModel", "foundStart", "I", false)
  | 13 => ("TitleFinderModel", "foundLength", "I", false)
  | 14 => ("TitleFinderModel", "starts", "[I", true)
  | 15 => ("TitleFinderModel", "lengths", "[I", true)
  | 16 => ("TitleFinderModel", "runs", "[I", true)
  | 17 => ("TitleFinderModel", "at", "I", false)
  | 18 => ("TitleFinderModel", "command", "I", false)
  | 19 => ("TitleFinderModel", "number", "I", false)
  | 20 => ("TitleFinderModel", "begin", "I", false)
  | _ => ("TitleFinderModel", "end", "I", false)
def tyX7 : Nat → FieldType := fun k => match k with
  | 0 => .array .int
  | 1 => .array .int
  | 2 => .int
  | 3 => .array .int
  | 4 => .int
  | 5 => .array .int
  | 6 => .array .int
  | 7 => .array .int
  | 8 => .int
  | 9 => .array .int
  | 10 => .int
  | 11 => .array .int
  | 12 => .int
  | 13 => .int
  | 14 => .array .int
  | 15 => .array .int
  | 16 => .array .int
  | 17 => .int
  | 18 => .int
  | 19 => .int
  | 20 => .int
  | _ => .int
abbrev wsX70 : List Cond := u_ws RX7 TX7 22
theorem nmX7 : ∀ a, a < 22 → ∀ b, b < 22 → a ≠ b → (TX7 a).2.1 ≠ (TX7 b).2.1 := by decide +kernel
theorem tyX7_ok : ∀ k, k < 22 → parseFieldDescriptor (TX7 k).2.2.1 = some (tyX7 k) := by decide +kernel
abbrev cX7_init : ByteArray := prog_9_method_1_code
def yX7_init : MethodName := ⟨RX7, "<init>", "()V"⟩
abbrev cX7_within : ByteArray := prog_9_method_3_code
def yX7_within : MethodName := ⟨RX7, "within", "(III)Z"⟩
abbrev cX7_record : ByteArray := prog_9_method_4_code
def yX7_record : MethodName := ⟨RX7, "record", "()V"⟩
abbrev cX7_isTitle : ByteArray := prog_9_method_5_code
def yX7_isTitle : MethodName := ⟨RX7, "isTitle", "(I)Z"⟩
abbrev cX7_part : ByteArray := prog_9_method_6_code
def yX7_part : MethodName := ⟨RX7, "part", "(II)I"⟩
abbrev cX7_lengthOf : ByteArray := prog_9_method_7_code
def yX7_lengthOf : MethodName := ⟨RX7, "lengthOf", "(I)I"⟩
abbrev cX7_characterOf : ByteArray := prog_9_method_8_code
def yX7_characterOf : MethodName := ⟨RX7, "characterOf", "(II)I"⟩
abbrev cX7_isLetter : ByteArray := prog_9_method_9_code
def yX7_isLetter : MethodName := ⟨RX7, "isLetter", "(I)Z"⟩
abbrev cX7_beginsWord : ByteArray := prog_9_method_10_code
def yX7_beginsWord : MethodName := ⟨RX7, "beginsWord", "(II)Z"⟩
abbrev cX7_findSources : ByteArray := prog_9_method_11_code
def yX7_findSources : MethodName := ⟨RX7, "findSources", "()V"⟩
abbrev cX7_sourceAt : ByteArray := prog_9_method_12_code
def yX7_sourceAt : MethodName := ⟨RX7, "sourceAt", "(II)I"⟩
abbrev cX7_canStart : ByteArray := prog_9_method_13_code
def yX7_canStart : MethodName := ⟨RX7, "canStart", "(II)Z"⟩
abbrev cX7_isPiece : ByteArray := prog_9_method_14_code
def yX7_isPiece : MethodName := ⟨RX7, "isPiece", "(III)Z"⟩
abbrev cX7_asks : ByteArray := prog_9_method_15_code
def yX7_asks : MethodName := ⟨RX7, "asks", "(III)V"⟩
abbrev cX7_placeIn : ByteArray := prog_9_method_16_code
def yX7_placeIn : MethodName := ⟨RX7, "placeIn", "(I)I"⟩
abbrev cX7_isAheadByName : ByteArray := prog_9_method_17_code
def yX7_isAheadByName : MethodName := ⟨RX7, "isAheadByName", "(II)Z"⟩
abbrev cX7_isAheadByPlace : ByteArray := prog_9_method_18_code
def yX7_isAheadByPlace : MethodName := ⟨RX7, "isAheadByPlace", "(II)Z"⟩
abbrev cX7_isAhead : ByteArray := prog_9_method_19_code
def yX7_isAhead : MethodName := ⟨RX7, "isAhead", "(II)Z"⟩
abbrev cX7_findPlaces : ByteArray := prog_9_method_20_code
def yX7_findPlaces : MethodName := ⟨RX7, "findPlaces", "()V"⟩
abbrev cX7_findResults : ByteArray := prog_9_method_21_code
def yX7_findResults : MethodName := ⟨RX7, "findResults", "()V"⟩
abbrev cX7_isAlone : ByteArray := prog_9_method_22_code
def yX7_isAlone : MethodName := ⟨RX7, "isAlone", "(I)Z"⟩
abbrev cX7_isFirst : ByteArray := prog_9_method_23_code
def yX7_isFirst : MethodName := ⟨RX7, "isFirst", "(I)Z"⟩
abbrev cX7_findPiece : ByteArray := prog_9_method_24_code
def yX7_findPiece : MethodName := ⟨RX7, "findPiece", "(IZ)V"⟩
abbrev cX7_findKeys : ByteArray := prog_9_method_25_code
def yX7_findKeys : MethodName := ⟨RX7, "findKeys", "()V"⟩
abbrev cX7_unknownNow : ByteArray := prog_9_method_26_code
def yX7_unknownNow : MethodName := ⟨RX7, "unknownNow", "()I"⟩
abbrev cX7_hardestNow : ByteArray := prog_9_method_27_code
def yX7_hardestNow : MethodName := ⟨RX7, "hardestNow", "()I"⟩
abbrev cX7_type : ByteArray := prog_9_method_28_code
def yX7_type : MethodName := ⟨RX7, "type", "(I)I"⟩
abbrev cX7_clearText : ByteArray := prog_9_method_29_code
def yX7_clearText : MethodName := ⟨RX7, "clearText", "()I"⟩
abbrev cX7_typedAt : ByteArray := prog_9_method_30_code
def yX7_typedAt : MethodName := ⟨RX7, "typedAt", "(I)I"⟩
abbrev cX7_isNext : ByteArray := prog_9_method_31_code
def yX7_isNext : MethodName := ⟨RX7, "isNext", "(I)Z"⟩
abbrev cX7_readsWord : ByteArray := prog_9_method_32_code
def yX7_readsWord : MethodName := ⟨RX7, "readsWord", "(J)Z"⟩
abbrev cX7_readsTitle : ByteArray := prog_9_method_33_code
def yX7_readsTitle : MethodName := ⟨RX7, "readsTitle", "()Z"⟩
abbrev cX7_readsNumber : ByteArray := prog_9_method_34_code
def yX7_readsNumber : MethodName := ⟨RX7, "readsNumber", "()Z"⟩
abbrev cX7_readsMode : ByteArray := prog_9_method_35_code
def yX7_readsMode : MethodName := ⟨RX7, "readsMode", "()Z"⟩
abbrev cX7_readsOrder : ByteArray := prog_9_method_36_code
def yX7_readsOrder : MethodName := ⟨RX7, "readsOrder", "()Z"⟩
abbrev cX7_readsAddOrAsk : ByteArray := prog_9_method_37_code
def yX7_readsAddOrAsk : MethodName := ⟨RX7, "readsAddOrAsk", "()Z"⟩
abbrev cX7_readsCommand : ByteArray := prog_9_method_38_code
def yX7_readsCommand : MethodName := ⟨RX7, "readsCommand", "()Z"⟩
abbrev cX7_findError : ByteArray := prog_9_method_39_code
def yX7_findError : MethodName := ⟨RX7, "findError", "()I"⟩
abbrev cX7_syntaxError : ByteArray := prog_9_method_40_code
def yX7_syntaxError : MethodName := ⟨RX7, "syntaxError", "()I"⟩
abbrev cX7_isThere : ByteArray := prog_9_method_41_code
def yX7_isThere : MethodName := ⟨RX7, "isThere", "(II)Z"⟩
abbrev cX7_whyNotAdded : ByteArray := prog_9_method_42_code
def yX7_whyNotAdded : MethodName := ⟨RX7, "whyNotAdded", "(II)I"⟩
abbrev cX7_adds : ByteArray := prog_9_method_43_code
def yX7_adds : MethodName := ⟨RX7, "adds", "(II)I"⟩
abbrev cX7_drops : ByteArray := prog_9_method_44_code
def yX7_drops : MethodName := ⟨RX7, "drops", "(I)I"⟩
abbrev cX7_clearsQuery : ByteArray := prog_9_method_45_code
def yX7_clearsQuery : MethodName := ⟨RX7, "clearsQuery", "()V"⟩
abbrev cX7_picks : ByteArray := prog_9_method_46_code
def yX7_picks : MethodName := ⟨RX7, "picks", "(I)I"⟩
abbrev cX7_isRank : ByteArray := prog_9_method_47_code
def yX7_isRank : MethodName := ⟨RX7, "isRank", "(I)Z"⟩
abbrev cX7_mayDo : ByteArray := prog_9_method_48_code
def yX7_mayDo : MethodName := ⟨RX7, "mayDo", "()Z"⟩
abbrev cX7_does : ByteArray := prog_9_method_49_code
def yX7_does : MethodName := ⟨RX7, "does", "()V"⟩
abbrev cX7_carryOut : ByteArray := prog_9_method_50_code
def yX7_carryOut : MethodName := ⟨RX7, "carryOut", "()I"⟩
abbrev cX7_whyNotTyped : ByteArray := prog_9_method_51_code
def yX7_whyNotTyped : MethodName := ⟨RX7, "whyNotTyped", "()I"⟩
abbrev cX7_add : ByteArray := prog_9_method_52_code
def yX7_add : MethodName := ⟨RX7, "add", "()I"⟩
abbrev cX7_drop : ByteArray := prog_9_method_53_code
def yX7_drop : MethodName := ⟨RX7, "drop", "(I)I"⟩
abbrev cX7_titles : ByteArray := prog_9_method_54_code
def yX7_titles : MethodName := ⟨RX7, "titles", "()I"⟩
abbrev cX7_character : ByteArray := prog_9_method_55_code
def yX7_character : MethodName := ⟨RX7, "character", "(II)I"⟩
abbrev cX7_words : ByteArray := prog_9_method_56_code
def yX7_words : MethodName := ⟨RX7, "words", "(I)I"⟩
abbrev cX7_ofTitle : ByteArray := prog_9_method_57_code
def yX7_ofTitle : MethodName := ⟨RX7, "ofTitle", "(II)I"⟩
abbrev cX7_of : ByteArray := prog_9_method_58_code
def yX7_of : MethodName := ⟨RX7, "of", "(II)I"⟩
abbrev cX7_longestRun : ByteArray := prog_9_method_59_code
def yX7_longestRun : MethodName := ⟨RX7, "longestRun", "(II)I"⟩
abbrev cX7_common : ByteArray := prog_9_method_60_code
def yX7_common : MethodName := ⟨RX7, "common", "(II)I"⟩
abbrev cX7_closest : ByteArray := prog_9_method_61_code
def yX7_closest : MethodName := ⟨RX7, "closest", "(I)I"⟩
abbrev cX7_unknown : ByteArray := prog_9_method_62_code
def yX7_unknown : MethodName := ⟨RX7, "unknown", "()I"⟩
abbrev cX7_hardest : ByteArray := prog_9_method_63_code
def yX7_hardest : MethodName := ⟨RX7, "hardest", "()I"⟩
abbrev cX7_ifAdded : ByteArray := prog_9_method_64_code
def yX7_ifAdded : MethodName := ⟨RX7, "ifAdded", "()I"⟩
abbrev cX7_setMode : ByteArray := prog_9_method_65_code
def yX7_setMode : MethodName := ⟨RX7, "setMode", "(I)I"⟩
abbrev cX7_setOrder : ByteArray := prog_9_method_66_code
def yX7_setOrder : MethodName := ⟨RX7, "setOrder", "(I)I"⟩
abbrev cX7_mode : ByteArray := prog_9_method_67_code
def yX7_mode : MethodName := ⟨RX7, "mode", "()I"⟩
abbrev cX7_order : ByteArray := prog_9_method_68_code
def yX7_order : MethodName := ⟨RX7, "order", "()I"⟩
abbrev cX7_resultsMany : ByteArray := prog_9_method_69_code
def yX7_resultsMany : MethodName := ⟨RX7, "resultsMany", "()I"⟩
abbrev cX7_ask : ByteArray := prog_9_method_70_code
def yX7_ask : MethodName := ⟨RX7, "ask", "(I)I"⟩
abbrev cX7_erase : ByteArray := prog_9_method_71_code
def yX7_erase : MethodName := ⟨RX7, "erase", "()I"⟩
abbrev cX7_queryLength : ByteArray := prog_9_method_72_code
def yX7_queryLength : MethodName := ⟨RX7, "queryLength", "()I"⟩
abbrev cX7_queryCharacter : ByteArray := prog_9_method_73_code
def yX7_queryCharacter : MethodName := ⟨RX7, "queryCharacter", "(I)I"⟩
abbrev cX7_results : ByteArray := prog_9_method_74_code
def yX7_results : MethodName := ⟨RX7, "results", "()I"⟩
abbrev cX7_result : ByteArray := prog_9_method_75_code
def yX7_result : MethodName := ⟨RX7, "result", "(I)I"⟩
abbrev cX7_matchPlace : ByteArray := prog_9_method_76_code
def yX7_matchPlace : MethodName := ⟨RX7, "matchPlace", "(I)I"⟩
abbrev cX7_pick : ByteArray := prog_9_method_77_code
def yX7_pick : MethodName := ⟨RX7, "pick", "(I)I"⟩
abbrev cX7_undo : ByteArray := prog_9_method_78_code
def yX7_undo : MethodName := ⟨RX7, "undo", "()I"⟩
abbrev cX7_digest : ByteArray := prog_9_method_79_code
def yX7_digest : MethodName := ⟨RX7, "digest", "()J"⟩
def RJx145de : String := "java/io/Serializable"
def TJx145de : u_T := fun k => match k with
  | _ => ("", "", "", false)
def tyJx145de : Nat → FieldType := fun k => match k with
  | _ => .int
abbrev wsJx145de0 : List Cond := u_ws RJx145de TJx145de 0
theorem nmJx145de : ∀ a, a < 0 → ∀ b, b < 0 → a ≠ b → (TJx145de a).2.1 ≠ (TJx145de b).2.1 := by decide +kernel
theorem tyJx145de_ok : ∀ k, k < 0 → parseFieldDescriptor (TJx145de k).2.2.1 = some (tyJx145de k) := by decide +kernel
def RJx9f9b0 : String := "java/lang/CharSequence"
def TJx9f9b0 : u_T := fun k => match k with
  | _ => ("", "", "", false)
def tyJx9f9b0 : Nat → FieldType := fun k => match k with
  | _ => .int
abbrev wsJx9f9b00 : List Cond := u_ws RJx9f9b0 TJx9f9b0 0
theorem nmJx9f9b0 : ∀ a, a < 0 → ∀ b, b < 0 → a ≠ b → (TJx9f9b0 a).2.1 ≠ (TJx9f9b0 b).2.1 := by decide +kernel
theorem tyJx9f9b0_ok : ∀ k, k < 0 → parseFieldDescriptor (TJx9f9b0 k).2.2.1 = some (tyJx9f9b0 k) := by decide +kernel
def RJx8e188 : String := "java/lang/Cloneable"
def TJx8e188 : u_T := fun k => match k with
  | _ => ("", "", "", false)
def tyJx8e188 : Nat → FieldType := fun k => match k with
  | _ => .int
abbrev wsJx8e1880 : List Cond := u_ws RJx8e188 TJx8e188 0
theorem nmJx8e188 : ∀ a, a < 0 → ∀ b, b < 0 → a ≠ b → (TJx8e188 a).2.1 ≠ (TJx8e188 b).2.1 := by decide +kernel
theorem tyJx8e188_ok : ∀ k, k < 0 → parseFieldDescriptor (TJx8e188 k).2.2.1 = some (tyJx8e188 k) := by decide +kernel
def RJxb160c : String := "java/lang/Comparable"
def TJxb160c : u_T := fun k => match k with
  | _ => ("", "", "", false)
def tyJxb160c : Nat → FieldType := fun k => match k with
  | _ => .int
abbrev wsJxb160c0 : List Cond := u_ws RJxb160c TJxb160c 0
theorem nmJxb160c : ∀ a, a < 0 → ∀ b, b < 0 → a ≠ b → (TJxb160c a).2.1 ≠ (TJxb160c b).2.1 := by decide +kernel
theorem tyJxb160c_ok : ∀ k, k < 0 → parseFieldDescriptor (TJxb160c k).2.2.1 = some (tyJxb160c k) := by decide +kernel
def RJxab1ab : String := "java/lang/Iterable"
def TJxab1ab : u_T := fun k => match k with
  | _ => ("", "", "", false)
def tyJxab1ab : Nat → FieldType := fun k => match k with
  | _ => .int
abbrev wsJxab1ab0 : List Cond := u_ws RJxab1ab TJxab1ab 0
theorem nmJxab1ab : ∀ a, a < 0 → ∀ b, b < 0 → a ≠ b → (TJxab1ab a).2.1 ≠ (TJxab1ab b).2.1 := by decide +kernel
theorem tyJxab1ab_ok : ∀ k, k < 0 → parseFieldDescriptor (TJxab1ab k).2.2.1 = some (tyJxab1ab k) := by decide +kernel
def RJ9 : String := "java/lang/Math"
def TJ9 : u_T := fun k => match k with
  | _ => ("", "", "", false)
def tyJ9 : Nat → FieldType := fun k => match k with
  | _ => .int
abbrev wsJ90 : List Cond := u_ws RJ9 TJ9 0
theorem nmJ9 : ∀ a, a < 0 → ∀ b, b < 0 → a ≠ b → (TJ9 a).2.1 ≠ (TJ9 b).2.1 := by decide +kernel
theorem tyJ9_ok : ∀ k, k < 0 → parseFieldDescriptor (TJ9 k).2.2.1 = some (tyJ9 k) := by decide +kernel
abbrev cJ9_max_7cf53 : ByteArray := prog_15_method_65_code
def yJ9_max_7cf53 : MethodName := ⟨RJ9, "max", "(II)I"⟩
abbrev cJ9_min_7cf53 : ByteArray := prog_15_method_69_code
def yJ9_min_7cf53 : MethodName := ⟨RJ9, "min", "(II)I"⟩
def RJ0 : String := "java/lang/String"
def TJ0 : u_T := fun k => match k with
  | _ => ("", "", "", false)
def tyJ0 : Nat → FieldType := fun k => match k with
  | _ => .int
abbrev wsJ00 : List Cond := u_ws RJ0 TJ0 0
theorem nmJ0 : ∀ a, a < 0 → ∀ b, b < 0 → a ≠ b → (TJ0 a).2.1 ≠ (TJ0 b).2.1 := by decide +kernel
theorem tyJ0_ok : ∀ k, k < 0 → parseFieldDescriptor (TJ0 k).2.2.1 = some (tyJ0 k) := by decide +kernel
abbrev cJ0_length_8abf5 : ByteArray := prog_16_method_54_code
def yJ0_length_8abf5 : MethodName := ⟨RJ0, "length", "()I"⟩
abbrev cJ0_charAt_5068e : ByteArray := prog_16_method_56_code
def yJ0_charAt_5068e : MethodName := ⟨RJ0, "charAt", "(I)C"⟩
abbrev cJ0_coder_7d493 : ByteArray := prog_16_method_152_code
def yJ0_coder_7d493 : MethodName := ⟨RJ0, "coder", "()B"⟩
abbrev cJ0_isLatin1_aae02 : ByteArray := prog_16_method_154_code
def yJ0_isLatin1_aae02 : MethodName := ⟨RJ0, "isLatin1", "()Z"⟩
abbrev cJ0_checkIndex_df160 : ByteArray := prog_16_method_155_code
def yJ0_checkIndex_df160 : MethodName := ⟨RJ0, "checkIndex", "(II)V"⟩
def RJ1 : String := "java/lang/StringLatin1"
def TJ1 : u_T := fun k => match k with
  | _ => ("", "", "", false)
def tyJ1 : Nat → FieldType := fun k => match k with
  | _ => .int
abbrev wsJ10 : List Cond := u_ws RJ1 TJ1 0
theorem nmJ1 : ∀ a, a < 0 → ∀ b, b < 0 → a ≠ b → (TJ1 a).2.1 ≠ (TJ1 b).2.1 := by decide +kernel
theorem tyJ1_ok : ∀ k, k < 0 → parseFieldDescriptor (TJ1 k).2.2.1 = some (tyJ1 k) := by decide +kernel
abbrev cJ1_charAt_3b067 : ByteArray := prog_17_method_2_code
def yJ1_charAt_3b067 : MethodName := ⟨RJ1, "charAt", "([BI)C"⟩
def RJ2 : String := "java/lang/StringUTF16"
def TJ2 : u_T := fun k => match k with
  | _ => ("", "", "", false)
def tyJ2 : Nat → FieldType := fun k => match k with
  | _ => .int
abbrev wsJ20 : List Cond := u_ws RJ2 TJ2 0
theorem nmJ2 : ∀ a, a < 0 → ∀ b, b < 0 → a ≠ b → (TJ2 a).2.1 ≠ (TJ2 b).2.1 := by decide +kernel
theorem tyJ2_ok : ∀ k, k < 0 → parseFieldDescriptor (TJ2 k).2.2.1 = some (tyJ2 k) := by decide +kernel
abbrev cJ2_getChar_3b067 : ByteArray := prog_18_method_5_code
def yJ2_getChar_3b067 : MethodName := ⟨RJ2, "getChar", "([BI)C"⟩
abbrev cJ2_length_9d52b : ByteArray := prog_18_method_6_code
def yJ2_length_9d52b : MethodName := ⟨RJ2, "length", "([B)I"⟩
abbrev cJ2_charAt_3b067 : ByteArray := prog_18_method_83_code
def yJ2_charAt_3b067 : MethodName := ⟨RJ2, "charAt", "([BI)C"⟩
abbrev cJ2_checkIndex_2214a : ByteArray := prog_18_method_91_code
def yJ2_checkIndex_2214a : MethodName := ⟨RJ2, "checkIndex", "(I[B)V"⟩
def RJ10 : String := "java/lang/System"
def TJ10 : u_T := fun k => match k with
  | _ => ("", "", "", false)
def tyJ10 : Nat → FieldType := fun k => match k with
  | _ => .int
abbrev wsJ100 : List Cond := u_ws RJ10 TJ10 0
theorem nmJ10 : ∀ a, a < 0 → ∀ b, b < 0 → a ≠ b → (TJ10 a).2.1 ≠ (TJ10 b).2.1 := by decide +kernel
theorem tyJ10_ok : ∀ k, k < 0 → parseFieldDescriptor (TJ10 k).2.2.1 = some (tyJ10 k) := by decide +kernel
def RJxfd54e : String := "java/lang/constant/Constable"
def TJxfd54e : u_T := fun k => match k with
  | _ => ("", "", "", false)
def tyJxfd54e : Nat → FieldType := fun k => match k with
  | _ => .int
abbrev wsJxfd54e0 : List Cond := u_ws RJxfd54e TJxfd54e 0
theorem nmJxfd54e : ∀ a, a < 0 → ∀ b, b < 0 → a ≠ b → (TJxfd54e a).2.1 ≠ (TJxfd54e b).2.1 := by decide +kernel
theorem tyJxfd54e_ok : ∀ k, k < 0 → parseFieldDescriptor (TJxfd54e k).2.2.1 = some (tyJxfd54e k) := by decide +kernel
def RJx3cf43 : String := "java/lang/constant/ConstantDesc"
def TJx3cf43 : u_T := fun k => match k with
  | _ => ("", "", "", false)
def tyJx3cf43 : Nat → FieldType := fun k => match k with
  | _ => .int
abbrev wsJx3cf430 : List Cond := u_ws RJx3cf43 TJx3cf43 0
theorem nmJx3cf43 : ∀ a, a < 0 → ∀ b, b < 0 → a ≠ b → (TJx3cf43 a).2.1 ≠ (TJx3cf43 b).2.1 := by decide +kernel
theorem tyJx3cf43_ok : ∀ k, k < 0 → parseFieldDescriptor (TJx3cf43 k).2.2.1 = some (tyJx3cf43 k) := by decide +kernel
def RJxa1e45 : String := "java/util/AbstractCollection"
def TJxa1e45 : u_T := fun k => match k with
  | _ => ("", "", "", false)
def tyJxa1e45 : Nat → FieldType := fun k => match k with
  | _ => .int
abbrev wsJxa1e450 : List Cond := u_ws RJxa1e45 TJxa1e45 0
theorem nmJxa1e45 : ∀ a, a < 0 → ∀ b, b < 0 → a ≠ b → (TJxa1e45 a).2.1 ≠ (TJxa1e45 b).2.1 := by decide +kernel
theorem tyJxa1e45_ok : ∀ k, k < 0 → parseFieldDescriptor (TJxa1e45 k).2.2.1 = some (tyJxa1e45 k) := by decide +kernel
abbrev cJxa1e45_init_da8c8 : ByteArray := prog_22_method_1_code
def yJxa1e45_init_da8c8 : MethodName := ⟨RJxa1e45, "<init>", "()V"⟩
def RJxc12de : String := "java/util/AbstractList"
def TJxc12de : u_T := fun k => match k with
  | _ => ("", "", "", false)
def tyJxc12de : Nat → FieldType := fun k => match k with
  | _ => .int
abbrev wsJxc12de0 : List Cond := u_ws RJxc12de TJxc12de 0
theorem nmJxc12de : ∀ a, a < 0 → ∀ b, b < 0 → a ≠ b → (TJxc12de a).2.1 ≠ (TJxc12de b).2.1 := by decide +kernel
theorem tyJxc12de_ok : ∀ k, k < 0 → parseFieldDescriptor (TJxc12de k).2.2.1 = some (tyJxc12de k) := by decide +kernel
abbrev cJxc12de_init_da8c8 : ByteArray := prog_23_method_1_code
def yJxc12de_init_da8c8 : MethodName := ⟨RJxc12de, "<init>", "()V"⟩
def RJx4a65c : String := "java/util/ArrayList"
def TJx4a65c : u_T := fun k => match k with
  | 0 => ("java/util/AbstractList", "modCount", "I", false)
  | 1 => ("java/util/ArrayList", "elementData", "[Ljava/lang/Object;", false)
  | _ => ("java/util/ArrayList", "size", "I", false)
def tyJx4a65c : Nat → FieldType := fun k => match k with
  | 0 => .int
  | 1 => .array (.object "java/lang/Object")
  | _ => .int
abbrev wsJx4a65c0 : List Cond := u_ws RJx4a65c TJx4a65c 3
theorem nmJx4a65c : ∀ a, a < 3 → ∀ b, b < 3 → a ≠ b → (TJx4a65c a).2.1 ≠ (TJx4a65c b).2.1 := by decide +kernel
theorem tyJx4a65c_ok : ∀ k, k < 3 → parseFieldDescriptor (TJx4a65c k).2.2.1 = some (tyJx4a65c k) := by decide +kernel
abbrev cJx4a65c_init_da8c8 : ByteArray := prog_24_method_2_code
def yJx4a65c_init_da8c8 : MethodName := ⟨RJx4a65c, "<init>", "()V"⟩
abbrev cJx4a65c_grow_92f84 : ByteArray := prog_24_method_6_code
def yJx4a65c_grow_92f84 : MethodName := ⟨RJx4a65c, "grow", "(I)[Ljava/lang/Object;"⟩
abbrev cJx4a65c_grow_d5877 : ByteArray := prog_24_method_7_code
def yJx4a65c_grow_d5877 : MethodName := ⟨RJx4a65c, "grow", "()[Ljava/lang/Object;"⟩
abbrev cJx4a65c_size_8abf5 : ByteArray := prog_24_method_8_code
def yJx4a65c_size_8abf5 : MethodName := ⟨RJx4a65c, "size", "()I"⟩
abbrev cJx4a65c_elementData_915e3 : ByteArray := prog_24_method_18_code
def yJx4a65c_elementData_915e3 : MethodName := ⟨RJx4a65c, "elementData", "(I)Ljava/lang/Object;"⟩
abbrev cJx4a65c_get_915e3 : ByteArray := prog_24_method_20_code
def yJx4a65c_get_915e3 : MethodName := ⟨RJx4a65c, "get", "(I)Ljava/lang/Object;"⟩
abbrev cJx4a65c_set_bcc79 : ByteArray := prog_24_method_23_code
def yJx4a65c_set_bcc79 : MethodName := ⟨RJx4a65c, "set", "(ILjava/lang/Object;)Ljava/lang/Object;"⟩
abbrev cJx4a65c_add_72be8 : ByteArray := prog_24_method_24_code
def yJx4a65c_add_72be8 : MethodName := ⟨RJx4a65c, "add", "(Ljava/lang/Object;[Ljava/lang/Object;I)V"⟩
abbrev cJx4a65c_add_9ea2d : ByteArray := prog_24_method_25_code
def yJx4a65c_add_9ea2d : MethodName := ⟨RJx4a65c, "add", "(Ljava/lang/Object;)Z"⟩
abbrev cJx4a65c_remove_915e3 : ByteArray := prog_24_method_29_code
def yJx4a65c_remove_915e3 : MethodName := ⟨RJx4a65c, "remove", "(I)Ljava/lang/Object;"⟩
abbrev cJx4a65c_fastRemove_b59b0 : ByteArray := prog_24_method_39_code
def yJx4a65c_fastRemove_b59b0 : MethodName := ⟨RJx4a65c, "fastRemove", "([Ljava/lang/Object;I)V"⟩
abbrev cJx4a65c_clear_da8c8 : ByteArray := prog_24_method_40_code
def yJx4a65c_clear_da8c8 : MethodName := ⟨RJx4a65c, "clear", "()V"⟩
def RJ7 : String := "java/util/Arrays"
def TJ7 : u_T := fun k => match k with
  | _ => ("", "", "", false)
def tyJ7 : Nat → FieldType := fun k => match k with
  | _ => .int
abbrev wsJ70 : List Cond := u_ws RJ7 TJ7 0
theorem nmJ7 : ∀ a, a < 0 → ∀ b, b < 0 → a ≠ b → (TJ7 a).2.1 ≠ (TJ7 b).2.1 := by decide +kernel
theorem tyJ7_ok : ∀ k, k < 0 → parseFieldDescriptor (TJ7 k).2.2.1 = some (tyJ7 k) := by decide +kernel
abbrev cJ7_copyOf_1904c : ByteArray := prog_25_method_119_code
def yJ7_copyOf_1904c : MethodName := ⟨RJ7, "copyOf", "([Ljava/lang/Object;I)[Ljava/lang/Object;"⟩
abbrev cJ7_copyOf_6403c : ByteArray := prog_25_method_120_code
def yJ7_copyOf_6403c : MethodName := ⟨RJ7, "copyOf", "([Ljava/lang/Object;ILjava/lang/Class;)[Ljava/lang/Object;"⟩
def RJx5ef63 : String := "java/util/Collection"
def TJx5ef63 : u_T := fun k => match k with
  | _ => ("", "", "", false)
def tyJx5ef63 : Nat → FieldType := fun k => match k with
  | _ => .int
abbrev wsJx5ef630 : List Cond := u_ws RJx5ef63 TJx5ef63 0
theorem nmJx5ef63 : ∀ a, a < 0 → ∀ b, b < 0 → a ≠ b → (TJx5ef63 a).2.1 ≠ (TJx5ef63 b).2.1 := by decide +kernel
theorem tyJx5ef63_ok : ∀ k, k < 0 → parseFieldDescriptor (TJx5ef63 k).2.2.1 = some (tyJx5ef63 k) := by decide +kernel
def RJxbd725 : String := "java/util/List"
def TJxbd725 : u_T := fun k => match k with
  | _ => ("", "", "", false)
def tyJxbd725 : Nat → FieldType := fun k => match k with
  | _ => .int
abbrev wsJxbd7250 : List Cond := u_ws RJxbd725 TJxbd725 0
theorem nmJxbd725 : ∀ a, a < 0 → ∀ b, b < 0 → a ≠ b → (TJxbd725 a).2.1 ≠ (TJxbd725 b).2.1 := by decide +kernel
theorem tyJxbd725_ok : ∀ k, k < 0 → parseFieldDescriptor (TJxbd725 k).2.2.1 = some (tyJxbd725 k) := by decide +kernel
def RJ15 : String := "java/util/Objects"
def TJ15 : u_T := fun k => match k with
  | _ => ("", "", "", false)
def tyJ15 : Nat → FieldType := fun k => match k with
  | _ => .int
abbrev wsJ150 : List Cond := u_ws RJ15 TJ15 0
theorem nmJ15 : ∀ a, a < 0 → ∀ b, b < 0 → a ≠ b → (TJ15 a).2.1 ≠ (TJ15 b).2.1 := by decide +kernel
theorem tyJ15_ok : ∀ k, k < 0 → parseFieldDescriptor (TJ15 k).2.2.1 = some (tyJ15 k) := by decide +kernel
abbrev cJ15_checkIndex_7cf53 : ByteArray := prog_28_method_17_code
def yJ15_checkIndex_7cf53 : MethodName := ⟨RJ15, "checkIndex", "(II)I"⟩
def RJxf0a74 : String := "java/util/RandomAccess"
def TJxf0a74 : u_T := fun k => match k with
  | _ => ("", "", "", false)
def tyJxf0a74 : Nat → FieldType := fun k => match k with
  | _ => .int
abbrev wsJxf0a740 : List Cond := u_ws RJxf0a74 TJxf0a74 0
theorem nmJxf0a74 : ∀ a, a < 0 → ∀ b, b < 0 → a ≠ b → (TJxf0a74 a).2.1 ≠ (TJxf0a74 b).2.1 := by decide +kernel
theorem tyJxf0a74_ok : ∀ k, k < 0 → parseFieldDescriptor (TJxf0a74 k).2.2.1 = some (tyJxf0a74 k) := by decide +kernel
def RJxa66e6 : String := "java/util/SequencedCollection"
def TJxa66e6 : u_T := fun k => match k with
  | _ => ("", "", "", false)
def tyJxa66e6 : Nat → FieldType := fun k => match k with
  | _ => .int
abbrev wsJxa66e60 : List Cond := u_ws RJxa66e6 TJxa66e6 0
theorem nmJxa66e6 : ∀ a, a < 0 → ∀ b, b < 0 → a ≠ b → (TJxa66e6 a).2.1 ≠ (TJxa66e6 b).2.1 := by decide +kernel
theorem tyJxa66e6_ok : ∀ k, k < 0 → parseFieldDescriptor (TJxa66e6 k).2.2.1 = some (tyJxa66e6 k) := by decide +kernel
def RJ8 : String := "jdk/internal/util/ArraysSupport"
def TJ8 : u_T := fun k => match k with
  | _ => ("", "", "", false)
def tyJ8 : Nat → FieldType := fun k => match k with
  | _ => .int
abbrev wsJ80 : List Cond := u_ws RJ8 TJ8 0
theorem nmJ8 : ∀ a, a < 0 → ∀ b, b < 0 → a ≠ b → (TJ8 a).2.1 ≠ (TJ8 b).2.1 := by decide +kernel
theorem tyJ8_ok : ∀ k, k < 0 → parseFieldDescriptor (TJ8 k).2.2.1 = some (tyJ8 k) := by decide +kernel
abbrev cJ8_newLength_cabcc : ByteArray := prog_31_method_27_code
def yJ8_newLength_cabcc : MethodName := ⟨RJ8, "newLength", "(III)I"⟩
abbrev cJ8_hugeLength_7cf53 : ByteArray := prog_31_method_28_code
def yJ8_hugeLength_7cf53 : MethodName := ⟨RJ8, "hugeLength", "(II)I"⟩
def RJ3 : String := "jdk/internal/util/Preconditions"
def TJ3 : u_T := fun k => match k with
  | _ => ("", "", "", false)
def tyJ3 : Nat → FieldType := fun k => match k with
  | _ => .int
abbrev wsJ30 : List Cond := u_ws RJ3 TJ3 0
theorem nmJ3 : ∀ a, a < 0 → ∀ b, b < 0 → a ≠ b → (TJ3 a).2.1 ≠ (TJ3 b).2.1 := by decide +kernel
theorem tyJ3_ok : ∀ k, k < 0 → parseFieldDescriptor (TJ3 k).2.2.1 = some (tyJ3 k) := by decide +kernel
abbrev cJ3_checkIndex_8e157 : ByteArray := prog_32_method_11_code
def yJ3_checkIndex_8e157 : MethodName := ⟨RJ3, "checkIndex", "(IILjava/util/function/BiFunction;)I"⟩
def RL : String := "TitleFinderLaw"
abbrev cL_law : ByteArray := code
def yL_law : MethodName := ⟨RL, "law", "([I)Z"⟩
abbrev vwCl : List vw_C := [(RJx4a65c, TJx4a65c, 3), (RX0, TX0, 3), (RX1, TX1, 3), (RX2, TX2, 5), (RX3, TX3, 5), (RX4, TX4, 7), (RX5, TX5, 3), (RX6, TX6, 6), (RX7, TX7, 22)]
/-- the tables' words that every method may take along -/
def BIG : List Cond := lw_tbl.filter goodWord
theorem big_good : ∀ w ∈ BIG, (w.onTables && w.keeps) = true ∨ ∃ ty, w = .arrayClass ty := fun w h => good_of_word (List.mem_filter.mp h).2
theorem bw (i : Nat) {w : Cond} (h : lw_tbl[i]? = some w) (hg : goodWord w = true) : w ∈ BIG := List.mem_filter.mpr ⟨List.mem_of_getElem? h, hg⟩
