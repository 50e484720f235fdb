section
-- ===== PART A: goes FIRST, ahead of the names: the tables' words, and 'selects' of the private methods out of them =====
/-- a private method of a class that the tables say can be made, by its rows of tables_1 -/
def lw_okq (q : MethodName × Nat) : Prop := (q.1.cls ≠ "java/lang/invoke/MethodHandle" ∧ q.1.cls ≠ "java/lang/invoke/VarHandle") ∧ Cond.instantiable q.1.cls q.2 ∈ tables_1 ∧ Cond.privateMethod q.1 ∈ tables_1 ∧ Cond.instanceMethod q.1 ∈ tables_1
theorem lw_p0 : lw_okq (⟨"TitleFinder$Text", "passOneOf", "(II)I"⟩, 7) := ⟨⟨by decide +kernel, by decide +kernel⟩, List.mem_of_getElem? (i := 108) (by decide +kernel), List.mem_of_getElem? (i := 236) (by decide +kernel), List.mem_of_getElem? (i := 237) (by decide +kernel)⟩
theorem lw_p1 : lw_okq (⟨"TitleFinder$Text", "sameLength", "(Ljava/lang/String;)I"⟩, 7) := ⟨⟨by decide +kernel, by decide +kernel⟩, List.mem_of_getElem? (i := 108) (by decide +kernel), List.mem_of_getElem? (i := 260) (by decide +kernel), List.mem_of_getElem? (i := 261) (by decide +kernel)⟩
theorem lw_p2 : lw_okq (⟨"TitleFinder$Text", "passTitle", "()Z"⟩, 7) := ⟨⟨by decide +kernel, by decide +kernel⟩, List.mem_of_getElem? (i := 108) (by decide +kernel), List.mem_of_getElem? (i := 315) (by decide +kernel), List.mem_of_getElem? (i := 316) (by decide +kernel)⟩
theorem lw_p3 : lw_okq (⟨"TitleFinder$Text", "hasSign", "()Z"⟩, 7) := ⟨⟨by decide +kernel, by decide +kernel⟩, List.mem_of_getElem? (i := 108) (by decide +kernel), List.mem_of_getElem? (i := 319) (by decide +kernel), List.mem_of_getElem? (i := 320) (by decide +kernel)⟩
theorem lw_p4 : lw_okq (⟨"TitleFinder$Text", "passNumber", "()Z"⟩, 7) := ⟨⟨by decide +kernel, by decide +kernel⟩, List.mem_of_getElem? (i := 108) (by decide +kernel), List.mem_of_getElem? (i := 329) (by decide +kernel), List.mem_of_getElem? (i := 330) (by decide +kernel)⟩
theorem lw_p5 : lw_okq (⟨"TitleFinder$Text", "passName", "(II)Z"⟩, 7) := ⟨⟨by decide +kernel, by decide +kernel⟩, List.mem_of_getElem? (i := 108) (by decide +kernel), List.mem_of_getElem? (i := 333) (by decide +kernel), List.mem_of_getElem? (i := 334) (by decide +kernel)⟩
theorem lw_p6 : lw_okq (⟨"java/util/ArrayList", "add", "(Ljava/lang/Object;[Ljava/lang/Object;I)V"⟩, 3) := ⟨⟨by decide +kernel, by decide +kernel⟩, List.mem_of_getElem? (i := 36) (by decide +kernel), List.mem_of_getElem? (i := 379) (by decide +kernel), List.mem_of_getElem? (i := 380) (by decide +kernel)⟩
theorem lw_p7 : lw_okq (⟨"java/util/ArrayList", "grow", "()[Ljava/lang/Object;"⟩, 3) := ⟨⟨by decide +kernel, by decide +kernel⟩, List.mem_of_getElem? (i := 36) (by decide +kernel), List.mem_of_getElem? (i := 383) (by decide +kernel), List.mem_of_getElem? (i := 384) (by decide +kernel)⟩
theorem lw_p8 : lw_okq (⟨"java/util/ArrayList", "grow", "(I)[Ljava/lang/Object;"⟩, 3) := ⟨⟨by decide +kernel, by decide +kernel⟩, List.mem_of_getElem? (i := 36) (by decide +kernel), List.mem_of_getElem? (i := 387) (by decide +kernel), List.mem_of_getElem? (i := 388) (by decide +kernel)⟩
theorem lw_p9 : lw_okq (⟨"TitleFinder", "obeyed", "()Z"⟩, 6) := ⟨⟨by decide +kernel, by decide +kernel⟩, List.mem_of_getElem? (i := 22) (by decide +kernel), List.mem_of_getElem? (i := 432) (by decide +kernel), List.mem_of_getElem? (i := 433) (by decide +kernel)⟩
theorem lw_p10 : lw_okq (⟨"TitleFinder", "addIfPossible", "(LTitleFinder$Title;)I"⟩, 6) := ⟨⟨by decide +kernel, by decide +kernel⟩, List.mem_of_getElem? (i := 22) (by decide +kernel), List.mem_of_getElem? (i := 470) (by decide +kernel), List.mem_of_getElem? (i := 471) (by decide +kernel)⟩
theorem lw_p11 : lw_okq (⟨"TitleFinder", "dropIfThere", "(I)Z"⟩, 6) := ⟨⟨by decide +kernel, by decide +kernel⟩, List.mem_of_getElem? (i := 22) (by decide +kernel), List.mem_of_getElem? (i := 487) (by decide +kernel), List.mem_of_getElem? (i := 488) (by decide +kernel)⟩
theorem lw_p12 : lw_okq (⟨"java/util/ArrayList", "fastRemove", "([Ljava/lang/Object;I)V"⟩, 3) := ⟨⟨by decide +kernel, by decide +kernel⟩, List.mem_of_getElem? (i := 36) (by decide +kernel), List.mem_of_getElem? (i := 499) (by decide +kernel), List.mem_of_getElem? (i := 500) (by decide +kernel)⟩
theorem lw_p13 : lw_okq (⟨"TitleFinder", "pickIfThere", "(I)I"⟩, 6) := ⟨⟨by decide +kernel, by decide +kernel⟩, List.mem_of_getElem? (i := 22) (by decide +kernel), List.mem_of_getElem? (i := 512) (by decide +kernel), List.mem_of_getElem? (i := 513) (by decide +kernel)⟩
theorem lw_p14 : lw_okq (⟨"TitleFinder$Ranking", "insert", "(LTitleFinder$State;II)V"⟩, 3) := ⟨⟨by decide +kernel, by decide +kernel⟩, List.mem_of_getElem? (i := 139) (by decide +kernel), List.mem_of_getElem? (i := 541) (by decide +kernel), List.mem_of_getElem? (i := 542) (by decide +kernel)⟩
theorem lw_p15 : lw_okq (⟨"TitleFinder$Study", "lookAtPiecesFrom", "(I[CLTitleFinder$State;I)V"⟩, 5) := ⟨⟨by decide +kernel, by decide +kernel⟩, List.mem_of_getElem? (i := 157) (by decide +kernel), List.mem_of_getElem? (i := 606) (by decide +kernel), List.mem_of_getElem? (i := 607) (by decide +kernel)⟩
def lw_privs_1 : List (MethodName × Nat) := [(⟨"TitleFinder$Text", "passOneOf", "(II)I"⟩, 7), (⟨"TitleFinder$Text", "sameLength", "(Ljava/lang/String;)I"⟩, 7), (⟨"TitleFinder$Text", "passTitle", "()Z"⟩, 7), (⟨"TitleFinder$Text", "hasSign", "()Z"⟩, 7), (⟨"TitleFinder$Text", "passNumber", "()Z"⟩, 7), (⟨"TitleFinder$Text", "passName", "(II)Z"⟩, 7), (⟨"java/util/ArrayList", "add", "(Ljava/lang/Object;[Ljava/lang/Object;I)V"⟩, 3), (⟨"java/util/ArrayList", "grow", "()[Ljava/lang/Object;"⟩, 3), (⟨"java/util/ArrayList", "grow", "(I)[Ljava/lang/Object;"⟩, 3), (⟨"TitleFinder", "obeyed", "()Z"⟩, 6), (⟨"TitleFinder", "addIfPossible", "(LTitleFinder$Title;)I"⟩, 6), (⟨"TitleFinder", "dropIfThere", "(I)Z"⟩, 6), (⟨"java/util/ArrayList", "fastRemove", "([Ljava/lang/Object;I)V"⟩, 3), (⟨"TitleFinder", "pickIfThere", "(I)I"⟩, 6), (⟨"TitleFinder$Ranking", "insert", "(LTitleFinder$State;II)V"⟩, 3), (⟨"TitleFinder$Study", "lookAtPiecesFrom", "(I[CLTitleFinder$State;I)V"⟩, 5)]
theorem lw_r1 : ∀ q ∈ lw_privs_1, lw_okq q := List.forall_mem_cons.mpr ⟨lw_p0, List.forall_mem_cons.mpr ⟨lw_p1, List.forall_mem_cons.mpr ⟨lw_p2, List.forall_mem_cons.mpr ⟨lw_p3, List.forall_mem_cons.mpr ⟨lw_p4, List.forall_mem_cons.mpr ⟨lw_p5, List.forall_mem_cons.mpr ⟨lw_p6, List.forall_mem_cons.mpr ⟨lw_p7, List.forall_mem_cons.mpr ⟨lw_p8, List.forall_mem_cons.mpr ⟨lw_p9, List.forall_mem_cons.mpr ⟨lw_p10, List.forall_mem_cons.mpr ⟨lw_p11, List.forall_mem_cons.mpr ⟨lw_p12, List.forall_mem_cons.mpr ⟨lw_p13, List.forall_mem_cons.mpr ⟨lw_p14, List.forall_mem_cons.mpr ⟨lw_p15, fun _ h => absurd h List.not_mem_nil⟩⟩⟩⟩⟩⟩⟩⟩⟩⟩⟩⟩⟩⟩⟩⟩
theorem lw_p16 : lw_okq (⟨"TitleFinder$Study", "longestWanted", "()I"⟩, 5) := ⟨⟨by decide +kernel, by decide +kernel⟩, List.mem_of_getElem? (i := 157) (by decide +kernel), List.mem_of_getElem? (i := 610) (by decide +kernel), List.mem_of_getElem? (i := 611) (by decide +kernel)⟩
theorem lw_p17 : lw_okq (⟨"TitleFinder$Study", "isKnownBy", "(ILTitleFinder$State;I)Z"⟩, 5) := ⟨⟨by decide +kernel, by decide +kernel⟩, List.mem_of_getElem? (i := 157) (by decide +kernel), List.mem_of_getElem? (i := 629) (by decide +kernel), List.mem_of_getElem? (i := 630) (by decide +kernel)⟩
theorem lw_p18 : lw_okq (⟨"TitleFinder$Study", "placeOf", "(II)I"⟩, 5) := ⟨⟨by decide +kernel, by decide +kernel⟩, List.mem_of_getElem? (i := 157) (by decide +kernel), List.mem_of_getElem? (i := 633) (by decide +kernel), List.mem_of_getElem? (i := 634) (by decide +kernel)⟩
theorem lw_p19 : lw_okq (⟨"TitleFinder$Study", "isFirstFor", "(ILTitleFinder$State;I)Z"⟩, 5) := ⟨⟨by decide +kernel, by decide +kernel⟩, List.mem_of_getElem? (i := 157) (by decide +kernel), List.mem_of_getElem? (i := 637) (by decide +kernel), List.mem_of_getElem? (i := 638) (by decide +kernel)⟩
theorem lw_p20 : lw_okq (⟨"TitleFinder", "studiedNumber", "(LTitleFinder$Title;I)I"⟩, 6) := ⟨⟨by decide +kernel, by decide +kernel⟩, List.mem_of_getElem? (i := 22) (by decide +kernel), List.mem_of_getElem? (i := 642) (by decide +kernel), List.mem_of_getElem? (i := 643) (by decide +kernel)⟩
theorem lw_p21 : lw_okq (⟨"TitleFinder", "keyWouldChange", "(I)Z"⟩, 6) := ⟨⟨by decide +kernel, by decide +kernel⟩, List.mem_of_getElem? (i := 22) (by decide +kernel), List.mem_of_getElem? (i := 674) (by decide +kernel), List.mem_of_getElem? (i := 675) (by decide +kernel)⟩
theorem lw_p22 : lw_okq (⟨"TitleFinder", "hashWithTitle", "(JILTitleFinder$Title;)J"⟩, 6) := ⟨⟨by decide +kernel, by decide +kernel⟩, List.mem_of_getElem? (i := 22) (by decide +kernel), List.mem_of_getElem? (i := 752) (by decide +kernel), List.mem_of_getElem? (i := 753) (by decide +kernel)⟩
theorem lw_p23 : lw_okq (⟨"TitleFinder", "hashWithResults", "(J)J"⟩, 6) := ⟨⟨by decide +kernel, by decide +kernel⟩, List.mem_of_getElem? (i := 22) (by decide +kernel), List.mem_of_getElem? (i := 762) (by decide +kernel), List.mem_of_getElem? (i := 763) (by decide +kernel)⟩
theorem lw_p24 : lw_okq (⟨"TitleFinderModel", "findError", "()I"⟩, 22) := ⟨⟨by decide +kernel, by decide +kernel⟩, List.mem_of_getElem? (i := 766) (by decide +kernel), List.mem_of_getElem? (i := 854) (by decide +kernel), List.mem_of_getElem? (i := 855) (by decide +kernel)⟩
theorem lw_p25 : lw_okq (⟨"TitleFinderModel", "readsCommand", "()Z"⟩, 22) := ⟨⟨by decide +kernel, by decide +kernel⟩, List.mem_of_getElem? (i := 766) (by decide +kernel), List.mem_of_getElem? (i := 858) (by decide +kernel), List.mem_of_getElem? (i := 859) (by decide +kernel)⟩
theorem lw_p26 : lw_okq (⟨"TitleFinderModel", "typedAt", "(I)I"⟩, 22) := ⟨⟨by decide +kernel, by decide +kernel⟩, List.mem_of_getElem? (i := 766) (by decide +kernel), List.mem_of_getElem? (i := 862) (by decide +kernel), List.mem_of_getElem? (i := 863) (by decide +kernel)⟩
theorem lw_p27 : lw_okq (⟨"TitleFinderModel", "readsAddOrAsk", "()Z"⟩, 22) := ⟨⟨by decide +kernel, by decide +kernel⟩, List.mem_of_getElem? (i := 766) (by decide +kernel), List.mem_of_getElem? (i := 866) (by decide +kernel), List.mem_of_getElem? (i := 867) (by decide +kernel)⟩
theorem lw_p28 : lw_okq (⟨"TitleFinderModel", "readsWord", "(J)Z"⟩, 22) := ⟨⟨by decide +kernel, by decide +kernel⟩, List.mem_of_getElem? (i := 766) (by decide +kernel), List.mem_of_getElem? (i := 872) (by decide +kernel), List.mem_of_getElem? (i := 873) (by decide +kernel)⟩
theorem lw_p29 : lw_okq (⟨"TitleFinderModel", "isNext", "(I)Z"⟩, 22) := ⟨⟨by decide +kernel, by decide +kernel⟩, List.mem_of_getElem? (i := 766) (by decide +kernel), List.mem_of_getElem? (i := 877) (by decide +kernel), List.mem_of_getElem? (i := 878) (by decide +kernel)⟩
theorem lw_p30 : lw_okq (⟨"TitleFinderModel", "readsTitle", "()Z"⟩, 22) := ⟨⟨by decide +kernel, by decide +kernel⟩, List.mem_of_getElem? (i := 766) (by decide +kernel), List.mem_of_getElem? (i := 881) (by decide +kernel), List.mem_of_getElem? (i := 882) (by decide +kernel)⟩
theorem lw_p31 : lw_okq (⟨"TitleFinderModel", "readsNumber", "()Z"⟩, 22) := ⟨⟨by decide +kernel, by decide +kernel⟩, List.mem_of_getElem? (i := 766) (by decide +kernel), List.mem_of_getElem? (i := 889) (by decide +kernel), List.mem_of_getElem? (i := 890) (by decide +kernel)⟩
def lw_privs_2 : List (MethodName × Nat) := [(⟨"TitleFinder$Study", "longestWanted", "()I"⟩, 5), (⟨"TitleFinder$Study", "isKnownBy", "(ILTitleFinder$State;I)Z"⟩, 5), (⟨"TitleFinder$Study", "placeOf", "(II)I"⟩, 5), (⟨"TitleFinder$Study", "isFirstFor", "(ILTitleFinder$State;I)Z"⟩, 5), (⟨"TitleFinder", "studiedNumber", "(LTitleFinder$Title;I)I"⟩, 6), (⟨"TitleFinder", "keyWouldChange", "(I)Z"⟩, 6), (⟨"TitleFinder", "hashWithTitle", "(JILTitleFinder$Title;)J"⟩, 6), (⟨"TitleFinder", "hashWithResults", "(J)J"⟩, 6), (⟨"TitleFinderModel", "findError", "()I"⟩, 22), (⟨"TitleFinderModel", "readsCommand", "()Z"⟩, 22), (⟨"TitleFinderModel", "typedAt", "(I)I"⟩, 22), (⟨"TitleFinderModel", "readsAddOrAsk", "()Z"⟩, 22), (⟨"TitleFinderModel", "readsWord", "(J)Z"⟩, 22), (⟨"TitleFinderModel", "isNext", "(I)Z"⟩, 22), (⟨"TitleFinderModel", "readsTitle", "()Z"⟩, 22), (⟨"TitleFinderModel", "readsNumber", "()Z"⟩, 22)]
theorem lw_r2 : ∀ q ∈ lw_privs_2, lw_okq q := List.forall_mem_cons.mpr ⟨lw_p16, List.forall_mem_cons.mpr ⟨lw_p17, List.forall_mem_cons.mpr ⟨lw_p18, List.forall_mem_cons.mpr ⟨lw_p19, List.forall_mem_cons.mpr ⟨lw_p20, List.forall_mem_cons.mpr ⟨lw_p21, List.forall_mem_cons.mpr ⟨lw_p22, List.forall_mem_cons.mpr ⟨lw_p23, List.forall_mem_cons.mpr ⟨lw_p24, List.forall_mem_cons.mpr ⟨lw_p25, List.forall_mem_cons.mpr ⟨lw_p26, List.forall_mem_cons.mpr ⟨lw_p27, List.forall_mem_cons.mpr ⟨lw_p28, List.forall_mem_cons.mpr ⟨lw_p29, List.forall_mem_cons.mpr ⟨lw_p30, List.forall_mem_cons.mpr ⟨lw_p31, fun _ h => absurd h List.not_mem_nil⟩⟩⟩⟩⟩⟩⟩⟩⟩⟩⟩⟩⟩⟩⟩⟩
theorem lw_p32 : lw_okq (⟨"TitleFinderModel", "readsMode", "()Z"⟩, 22) := ⟨⟨by decide +kernel, by decide +kernel⟩, List.mem_of_getElem? (i := 766) (by decide +kernel), List.mem_of_getElem? (i := 894) (by decide +kernel), List.mem_of_getElem? (i := 895) (by decide +kernel)⟩
theorem lw_p33 : lw_okq (⟨"TitleFinderModel", "readsOrder", "()Z"⟩, 22) := ⟨⟨by decide +kernel, by decide +kernel⟩, List.mem_of_getElem? (i := 766) (by decide +kernel), List.mem_of_getElem? (i := 903) (by decide +kernel), List.mem_of_getElem? (i := 904) (by decide +kernel)⟩
theorem lw_p34 : lw_okq (⟨"TitleFinderModel", "record", "()V"⟩, 22) := ⟨⟨by decide +kernel, by decide +kernel⟩, List.mem_of_getElem? (i := 766) (by decide +kernel), List.mem_of_getElem? (i := 916) (by decide +kernel), List.mem_of_getElem? (i := 917) (by decide +kernel)⟩
theorem lw_p35 : lw_okq (⟨"TitleFinderModel", "mayDo", "()Z"⟩, 22) := ⟨⟨by decide +kernel, by decide +kernel⟩, List.mem_of_getElem? (i := 766) (by decide +kernel), List.mem_of_getElem? (i := 920) (by decide +kernel), List.mem_of_getElem? (i := 921) (by decide +kernel)⟩
theorem lw_p36 : lw_okq (⟨"TitleFinderModel", "whyNotAdded", "(II)I"⟩, 22) := ⟨⟨by decide +kernel, by decide +kernel⟩, List.mem_of_getElem? (i := 766) (by decide +kernel), List.mem_of_getElem? (i := 924) (by decide +kernel), List.mem_of_getElem? (i := 925) (by decide +kernel)⟩
theorem lw_p37 : lw_okq (⟨"TitleFinderModel", "isThere", "(II)Z"⟩, 22) := ⟨⟨by decide +kernel, by decide +kernel⟩, List.mem_of_getElem? (i := 766) (by decide +kernel), List.mem_of_getElem? (i := 928) (by decide +kernel), List.mem_of_getElem? (i := 929) (by decide +kernel)⟩
theorem lw_p38 : lw_okq (⟨"TitleFinderModel", "lengthOf", "(I)I"⟩, 22) := ⟨⟨by decide +kernel, by decide +kernel⟩, List.mem_of_getElem? (i := 766) (by decide +kernel), List.mem_of_getElem? (i := 932) (by decide +kernel), List.mem_of_getElem? (i := 933) (by decide +kernel)⟩
theorem lw_p39 : lw_okq (⟨"TitleFinderModel", "part", "(II)I"⟩, 22) := ⟨⟨by decide +kernel, by decide +kernel⟩, List.mem_of_getElem? (i := 766) (by decide +kernel), List.mem_of_getElem? (i := 936) (by decide +kernel), List.mem_of_getElem? (i := 937) (by decide +kernel)⟩
theorem lw_p40 : lw_okq (⟨"TitleFinderModel", "characterOf", "(II)I"⟩, 22) := ⟨⟨by decide +kernel, by decide +kernel⟩, List.mem_of_getElem? (i := 766) (by decide +kernel), List.mem_of_getElem? (i := 940) (by decide +kernel), List.mem_of_getElem? (i := 941) (by decide +kernel)⟩
theorem lw_p41 : lw_okq (⟨"TitleFinderModel", "isTitle", "(I)Z"⟩, 22) := ⟨⟨by decide +kernel, by decide +kernel⟩, List.mem_of_getElem? (i := 766) (by decide +kernel), List.mem_of_getElem? (i := 944) (by decide +kernel), List.mem_of_getElem? (i := 945) (by decide +kernel)⟩
theorem lw_p42 : lw_okq (⟨"TitleFinderModel", "isRank", "(I)Z"⟩, 22) := ⟨⟨by decide +kernel, by decide +kernel⟩, List.mem_of_getElem? (i := 766) (by decide +kernel), List.mem_of_getElem? (i := 948) (by decide +kernel), List.mem_of_getElem? (i := 949) (by decide +kernel)⟩
theorem lw_p43 : lw_okq (⟨"TitleFinderModel", "findResults", "()V"⟩, 22) := ⟨⟨by decide +kernel, by decide +kernel⟩, List.mem_of_getElem? (i := 766) (by decide +kernel), List.mem_of_getElem? (i := 952) (by decide +kernel), List.mem_of_getElem? (i := 953) (by decide +kernel)⟩
theorem lw_p44 : lw_okq (⟨"TitleFinderModel", "findSources", "()V"⟩, 22) := ⟨⟨by decide +kernel, by decide +kernel⟩, List.mem_of_getElem? (i := 766) (by decide +kernel), List.mem_of_getElem? (i := 956) (by decide +kernel), List.mem_of_getElem? (i := 957) (by decide +kernel)⟩
theorem lw_p45 : lw_okq (⟨"TitleFinderModel", "beginsWord", "(II)Z"⟩, 22) := ⟨⟨by decide +kernel, by decide +kernel⟩, List.mem_of_getElem? (i := 766) (by decide +kernel), List.mem_of_getElem? (i := 960) (by decide +kernel), List.mem_of_getElem? (i := 961) (by decide +kernel)⟩
theorem lw_p46 : lw_okq (⟨"TitleFinderModel", "findPlaces", "()V"⟩, 22) := ⟨⟨by decide +kernel, by decide +kernel⟩, List.mem_of_getElem? (i := 766) (by decide +kernel), List.mem_of_getElem? (i := 964) (by decide +kernel), List.mem_of_getElem? (i := 965) (by decide +kernel)⟩
theorem lw_p47 : lw_okq (⟨"TitleFinderModel", "placeIn", "(I)I"⟩, 22) := ⟨⟨by decide +kernel, by decide +kernel⟩, List.mem_of_getElem? (i := 766) (by decide +kernel), List.mem_of_getElem? (i := 968) (by decide +kernel), List.mem_of_getElem? (i := 969) (by decide +kernel)⟩
def lw_privs_3 : List (MethodName × Nat) := [(⟨"TitleFinderModel", "readsMode", "()Z"⟩, 22), (⟨"TitleFinderModel", "readsOrder", "()Z"⟩, 22), (⟨"TitleFinderModel", "record", "()V"⟩, 22), (⟨"TitleFinderModel", "mayDo", "()Z"⟩, 22), (⟨"TitleFinderModel", "whyNotAdded", "(II)I"⟩, 22), (⟨"TitleFinderModel", "isThere", "(II)Z"⟩, 22), (⟨"TitleFinderModel", "lengthOf", "(I)I"⟩, 22), (⟨"TitleFinderModel", "part", "(II)I"⟩, 22), (⟨"TitleFinderModel", "characterOf", "(II)I"⟩, 22), (⟨"TitleFinderModel", "isTitle", "(I)Z"⟩, 22), (⟨"TitleFinderModel", "isRank", "(I)Z"⟩, 22), (⟨"TitleFinderModel", "findResults", "()V"⟩, 22), (⟨"TitleFinderModel", "findSources", "()V"⟩, 22), (⟨"TitleFinderModel", "beginsWord", "(II)Z"⟩, 22), (⟨"TitleFinderModel", "findPlaces", "()V"⟩, 22), (⟨"TitleFinderModel", "placeIn", "(I)I"⟩, 22)]
theorem lw_r3 : ∀ q ∈ lw_privs_3, lw_okq q := List.forall_mem_cons.mpr ⟨lw_p32, List.forall_mem_cons.mpr ⟨lw_p33, List.forall_mem_cons.mpr ⟨lw_p34, List.forall_mem_cons.mpr ⟨lw_p35, List.forall_mem_cons.mpr ⟨lw_p36, List.forall_mem_cons.mpr ⟨lw_p37, List.forall_mem_cons.mpr ⟨lw_p38, List.forall_mem_cons.mpr ⟨lw_p39, List.forall_mem_cons.mpr ⟨lw_p40, List.forall_mem_cons.mpr ⟨lw_p41, List.forall_mem_cons.mpr ⟨lw_p42, List.forall_mem_cons.mpr ⟨lw_p43, List.forall_mem_cons.mpr ⟨lw_p44, List.forall_mem_cons.mpr ⟨lw_p45, List.forall_mem_cons.mpr ⟨lw_p46, List.forall_mem_cons.mpr ⟨lw_p47, fun _ h => absurd h List.not_mem_nil⟩⟩⟩⟩⟩⟩⟩⟩⟩⟩⟩⟩⟩⟩⟩⟩
theorem lw_p48 : lw_okq (⟨"TitleFinderModel", "isPiece", "(III)Z"⟩, 22) := ⟨⟨by decide +kernel, by decide +kernel⟩, List.mem_of_getElem? (i := 766) (by decide +kernel), List.mem_of_getElem? (i := 972) (by decide +kernel), List.mem_of_getElem? (i := 973) (by decide +kernel)⟩
theorem lw_p49 : lw_okq (⟨"TitleFinderModel", "canStart", "(II)Z"⟩, 22) := ⟨⟨by decide +kernel, by decide +kernel⟩, List.mem_of_getElem? (i := 766) (by decide +kernel), List.mem_of_getElem? (i := 976) (by decide +kernel), List.mem_of_getElem? (i := 977) (by decide +kernel)⟩
theorem lw_p50 : lw_okq (⟨"TitleFinderModel", "sourceAt", "(II)I"⟩, 22) := ⟨⟨by decide +kernel, by decide +kernel⟩, List.mem_of_getElem? (i := 766) (by decide +kernel), List.mem_of_getElem? (i := 980) (by decide +kernel), List.mem_of_getElem? (i := 981) (by decide +kernel)⟩
theorem lw_p51 : lw_okq (⟨"TitleFinderModel", "isAhead", "(II)Z"⟩, 22) := ⟨⟨by decide +kernel, by decide +kernel⟩, List.mem_of_getElem? (i := 766) (by decide +kernel), List.mem_of_getElem? (i := 984) (by decide +kernel), List.mem_of_getElem? (i := 985) (by decide +kernel)⟩
theorem lw_p52 : lw_okq (⟨"TitleFinderModel", "isAheadByName", "(II)Z"⟩, 22) := ⟨⟨by decide +kernel, by decide +kernel⟩, List.mem_of_getElem? (i := 766) (by decide +kernel), List.mem_of_getElem? (i := 988) (by decide +kernel), List.mem_of_getElem? (i := 989) (by decide +kernel)⟩
theorem lw_p53 : lw_okq (⟨"TitleFinderModel", "isAheadByPlace", "(II)Z"⟩, 22) := ⟨⟨by decide +kernel, by decide +kernel⟩, List.mem_of_getElem? (i := 766) (by decide +kernel), List.mem_of_getElem? (i := 992) (by decide +kernel), List.mem_of_getElem? (i := 993) (by decide +kernel)⟩
theorem lw_p54 : lw_okq (⟨"TitleFinderModel", "does", "()V"⟩, 22) := ⟨⟨by decide +kernel, by decide +kernel⟩, List.mem_of_getElem? (i := 766) (by decide +kernel), List.mem_of_getElem? (i := 996) (by decide +kernel), List.mem_of_getElem? (i := 997) (by decide +kernel)⟩
theorem lw_p55 : lw_okq (⟨"TitleFinderModel", "adds", "(II)I"⟩, 22) := ⟨⟨by decide +kernel, by decide +kernel⟩, List.mem_of_getElem? (i := 766) (by decide +kernel), List.mem_of_getElem? (i := 1000) (by decide +kernel), List.mem_of_getElem? (i := 1001) (by decide +kernel)⟩
theorem lw_p56 : lw_okq (⟨"TitleFinderModel", "drops", "(I)I"⟩, 22) := ⟨⟨by decide +kernel, by decide +kernel⟩, List.mem_of_getElem? (i := 766) (by decide +kernel), List.mem_of_getElem? (i := 1004) (by decide +kernel), List.mem_of_getElem? (i := 1005) (by decide +kernel)⟩
theorem lw_p57 : lw_okq (⟨"TitleFinderModel", "picks", "(I)I"⟩, 22) := ⟨⟨by decide +kernel, by decide +kernel⟩, List.mem_of_getElem? (i := 766) (by decide +kernel), List.mem_of_getElem? (i := 1008) (by decide +kernel), List.mem_of_getElem? (i := 1009) (by decide +kernel)⟩
theorem lw_p58 : lw_okq (⟨"TitleFinderModel", "clearsQuery", "()V"⟩, 22) := ⟨⟨by decide +kernel, by decide +kernel⟩, List.mem_of_getElem? (i := 766) (by decide +kernel), List.mem_of_getElem? (i := 1012) (by decide +kernel), List.mem_of_getElem? (i := 1013) (by decide +kernel)⟩
theorem lw_p59 : lw_okq (⟨"TitleFinderModel", "whyNotTyped", "()I"⟩, 22) := ⟨⟨by decide +kernel, by decide +kernel⟩, List.mem_of_getElem? (i := 766) (by decide +kernel), List.mem_of_getElem? (i := 1020) (by decide +kernel), List.mem_of_getElem? (i := 1021) (by decide +kernel)⟩
theorem lw_p60 : lw_okq (⟨"TitleFinderModel", "ofTitle", "(II)I"⟩, 22) := ⟨⟨by decide +kernel, by decide +kernel⟩, List.mem_of_getElem? (i := 766) (by decide +kernel), List.mem_of_getElem? (i := 1040) (by decide +kernel), List.mem_of_getElem? (i := 1041) (by decide +kernel)⟩
theorem lw_p61 : lw_okq (⟨"TitleFinderModel", "words", "(I)I"⟩, 22) := ⟨⟨by decide +kernel, by decide +kernel⟩, List.mem_of_getElem? (i := 766) (by decide +kernel), List.mem_of_getElem? (i := 1044) (by decide +kernel), List.mem_of_getElem? (i := 1045) (by decide +kernel)⟩
theorem lw_p62 : lw_okq (⟨"TitleFinderModel", "findPiece", "(IZ)V"⟩, 22) := ⟨⟨by decide +kernel, by decide +kernel⟩, List.mem_of_getElem? (i := 766) (by decide +kernel), List.mem_of_getElem? (i := 1048) (by decide +kernel), List.mem_of_getElem? (i := 1049) (by decide +kernel)⟩
theorem lw_p63 : lw_okq (⟨"TitleFinderModel", "asks", "(III)V"⟩, 22) := ⟨⟨by decide +kernel, by decide +kernel⟩, List.mem_of_getElem? (i := 766) (by decide +kernel), List.mem_of_getElem? (i := 1052) (by decide +kernel), List.mem_of_getElem? (i := 1053) (by decide +kernel)⟩
def lw_privs_4 : List (MethodName × Nat) := [(⟨"TitleFinderModel", "isPiece", "(III)Z"⟩, 22), (⟨"TitleFinderModel", "canStart", "(II)Z"⟩, 22), (⟨"TitleFinderModel", "sourceAt", "(II)I"⟩, 22), (⟨"TitleFinderModel", "isAhead", "(II)Z"⟩, 22), (⟨"TitleFinderModel", "isAheadByName", "(II)Z"⟩, 22), (⟨"TitleFinderModel", "isAheadByPlace", "(II)Z"⟩, 22), (⟨"TitleFinderModel", "does", "()V"⟩, 22), (⟨"TitleFinderModel", "adds", "(II)I"⟩, 22), (⟨"TitleFinderModel", "drops", "(I)I"⟩, 22), (⟨"TitleFinderModel", "picks", "(I)I"⟩, 22), (⟨"TitleFinderModel", "clearsQuery", "()V"⟩, 22), (⟨"TitleFinderModel", "whyNotTyped", "()I"⟩, 22), (⟨"TitleFinderModel", "ofTitle", "(II)I"⟩, 22), (⟨"TitleFinderModel", "words", "(I)I"⟩, 22), (⟨"TitleFinderModel", "findPiece", "(IZ)V"⟩, 22), (⟨"TitleFinderModel", "asks", "(III)V"⟩, 22)]
theorem lw_r4 : ∀ q ∈ lw_privs_4, lw_okq q := List.forall_mem_cons.mpr ⟨lw_p48, List.forall_mem_cons.mpr ⟨lw_p49, List.forall_mem_cons.mpr ⟨lw_p50, List.forall_mem_cons.mpr ⟨lw_p51, List.forall_mem_cons.mpr ⟨lw_p52, List.forall_mem_cons.mpr ⟨lw_p53, List.forall_mem_cons.mpr ⟨lw_p54, List.forall_mem_cons.mpr ⟨lw_p55, List.forall_mem_cons.mpr ⟨lw_p56, List.forall_mem_cons.mpr ⟨lw_p57, List.forall_mem_cons.mpr ⟨lw_p58, List.forall_mem_cons.mpr ⟨lw_p59, List.forall_mem_cons.mpr ⟨lw_p60, List.forall_mem_cons.mpr ⟨lw_p61, List.forall_mem_cons.mpr ⟨lw_p62, List.forall_mem_cons.mpr ⟨lw_p63, fun _ h => absurd h List.not_mem_nil⟩⟩⟩⟩⟩⟩⟩⟩⟩⟩⟩⟩⟩⟩⟩⟩
theorem lw_p64 : lw_okq (⟨"TitleFinderModel", "isAlone", "(I)Z"⟩, 22) := ⟨⟨by decide +kernel, by decide +kernel⟩, List.mem_of_getElem? (i := 766) (by decide +kernel), List.mem_of_getElem? (i := 1056) (by decide +kernel), List.mem_of_getElem? (i := 1057) (by decide +kernel)⟩
theorem lw_p65 : lw_okq (⟨"TitleFinderModel", "isFirst", "(I)Z"⟩, 22) := ⟨⟨by decide +kernel, by decide +kernel⟩, List.mem_of_getElem? (i := 766) (by decide +kernel), List.mem_of_getElem? (i := 1060) (by decide +kernel), List.mem_of_getElem? (i := 1061) (by decide +kernel)⟩
theorem lw_p66 : lw_okq (⟨"TitleFinderModel", "longestRun", "(II)I"⟩, 22) := ⟨⟨by decide +kernel, by decide +kernel⟩, List.mem_of_getElem? (i := 766) (by decide +kernel), List.mem_of_getElem? (i := 1068) (by decide +kernel), List.mem_of_getElem? (i := 1069) (by decide +kernel)⟩
theorem lw_p67 : lw_okq (⟨"TitleFinderModel", "findKeys", "()V"⟩, 22) := ⟨⟨by decide +kernel, by decide +kernel⟩, List.mem_of_getElem? (i := 766) (by decide +kernel), List.mem_of_getElem? (i := 1080) (by decide +kernel), List.mem_of_getElem? (i := 1081) (by decide +kernel)⟩
theorem lw_p68 : lw_okq (⟨"TitleFinderModel", "unknownNow", "()I"⟩, 22) := ⟨⟨by decide +kernel, by decide +kernel⟩, List.mem_of_getElem? (i := 766) (by decide +kernel), List.mem_of_getElem? (i := 1084) (by decide +kernel), List.mem_of_getElem? (i := 1085) (by decide +kernel)⟩
theorem lw_p69 : lw_okq (⟨"TitleFinderModel", "hardestNow", "()I"⟩, 22) := ⟨⟨by decide +kernel, by decide +kernel⟩, List.mem_of_getElem? (i := 766) (by decide +kernel), List.mem_of_getElem? (i := 1092) (by decide +kernel), List.mem_of_getElem? (i := 1093) (by decide +kernel)⟩
theorem lw_p70 : lw_okq (⟨"TitleFinderModel", "resultsMany", "()I"⟩, 22) := ⟨⟨by decide +kernel, by decide +kernel⟩, List.mem_of_getElem? (i := 766) (by decide +kernel), List.mem_of_getElem? (i := 1120) (by decide +kernel), List.mem_of_getElem? (i := 1121) (by decide +kernel)⟩
def lw_privs_5 : List (MethodName × Nat) := [(⟨"TitleFinderModel", "isAlone", "(I)Z"⟩, 22), (⟨"TitleFinderModel", "isFirst", "(I)Z"⟩, 22), (⟨"TitleFinderModel", "longestRun", "(II)I"⟩, 22), (⟨"TitleFinderModel", "findKeys", "()V"⟩, 22), (⟨"TitleFinderModel", "unknownNow", "()I"⟩, 22), (⟨"TitleFinderModel", "hardestNow", "()I"⟩, 22), (⟨"TitleFinderModel", "resultsMany", "()I"⟩, 22)]
theorem lw_r5 : ∀ q ∈ lw_privs_5, lw_okq q := List.forall_mem_cons.mpr ⟨lw_p64, List.forall_mem_cons.mpr ⟨lw_p65, List.forall_mem_cons.mpr ⟨lw_p66, List.forall_mem_cons.mpr ⟨lw_p67, List.forall_mem_cons.mpr ⟨lw_p68, List.forall_mem_cons.mpr ⟨lw_p69, List.forall_mem_cons.mpr ⟨lw_p70, fun _ h => absurd h List.not_mem_nil⟩⟩⟩⟩⟩⟩⟩
def lw_privs : List (MethodName × Nat) := lw_privs_1 ++ (lw_privs_2 ++ (lw_privs_3 ++ (lw_privs_4 ++ (lw_privs_5))))
def lw_tbl : List Cond := k2_sels lw_privs ++ tables_1
theorem lw_privs_ok : ∀ q ∈ lw_privs, lw_okq q := by
  show ∀ q ∈ lw_privs_1 ++ (lw_privs_2 ++ (lw_privs_3 ++ (lw_privs_4 ++ (lw_privs_5)))), lw_okq q
  exact List.forall_mem_append.mpr ⟨lw_r1, List.forall_mem_append.mpr ⟨lw_r2, List.forall_mem_append.mpr ⟨lw_r3, List.forall_mem_append.mpr ⟨lw_r4, lw_r5⟩⟩⟩⟩
-- ===== end of PART A; then your names; then what follows =====
/-! ===== BEGIN words of one list among another's, by their places ===== -/
theorem goodIn_r {big : List Cond} (ws : List Cond) (ps : List Nat) (hp : ws = ps.filterMap (fun i => big[i]?)) (h : ws.all goodWord = true) : GoodIn big ws := by
  intro w hw
  have h1 := List.all_eq_true.mp h w hw
  rw [hp] at hw
  obtain ⟨i, -, hi⟩ := List.mem_filterMap.mp hw
  have hm : w ∈ big := by first | exact List.mem_of_getElem? hi | exact List.getElem?_mem hi
  exact ⟨hm, good_of_word h1⟩
theorem goodIn_app {big a b : List Cond} (ha : GoodIn big a) (hb : GoodIn big b) : GoodIn big (a ++ b) := fun w h => (List.mem_append.mp h).elim (ha w) (hb w)
theorem goodIn_ca {big a b : List Cond} {c : Cond} (ha : GoodIn big (c :: a)) (hb : GoodIn big b) : GoodIn big (c :: (a ++ b)) := fun w h => (List.mem_cons.mp h).elim (fun e => ha w (List.mem_cons.mpr (Or.inl e))) (fun h => (List.mem_append.mp h).elim (fun h => ha w (List.mem_cons.mpr (Or.inr h))) (hb w))
theorem goodIn_sub {big ws : List Cond} (hm : ∀ w ∈ ws, w ∈ big) (h : ws.all goodWord = true) : GoodIn big ws := fun w hw => ⟨hm w hw, good_of_word (List.all_eq_true.mp h w hw)⟩
/-! ===== END ===== -/


/-! ===== BEGIN printed: names, fields, word lists, decode rows ===== -/
def RX0 : String := "TitleFinder$History"
def TX0 : u_T := fun k => match k with
  | 0 => ("TitleFinder$History", "rows", "[LTitleFinder$State;", true)
  | 1 => ("TitleFinder$History", "newest", "I", false)
  | _ => ("TitleFinder$History", "count", "I", false)
def tyX0 : Nat → FieldType := fun k => match k with
  | 0 => .array (.object "TitleFinder$State")
  | 1 => .int
  | _ => .int
abbrev wsX00 : List Cond := u_ws RX0 TX0 3
theorem nmX0 : ∀ a, a < 3 → ∀ b, b < 3 → a ≠ b → (TX0 a).2.1 ≠ (TX0 b).2.1 := by decide +kernel
theorem tyX0_ok : ∀ k, k < 3 → parseFieldDescriptor (TX0 k).2.2.1 = some (tyX0 k) := by decide +kernel
abbrev cX0_init : ByteArray := prog_2_method_1_code
def yX0_init : MethodName := ⟨RX0, "<init>", "()V"⟩
abbrev cX0_save : ByteArray := prog_2_method_2_code
def yX0_save : MethodName := ⟨RX0, "save", "(LTitleFinder$State;)V"⟩
abbrev cX0_restore : ByteArray := prog_2_method_3_code
def yX0_restore : MethodName := ⟨RX0, "restore", "(LTitleFinder$State;)V"⟩
def RX1 : String := "TitleFinder$Ranking"
def TX1 : u_T := fun k => match k with
  | 0 => ("TitleFinder$Ranking", "ranked", "[I", true)
  | 1 => ("TitleFinder$Ranking", "places", "[I", true)
  | _ => ("TitleFinder$Ranking", "count", "I", false)
def tyX1 : Nat → FieldType := fun k => match k with
  | 0 => .array .int
  | 1 => .array .int
  | _ => .int
abbrev wsX10 : List Cond := u_ws RX1 TX1 3
theorem nmX1 : ∀ a, a < 3 → ∀ b, b < 3 → a ≠ b → (TX1 a).2.1 ≠ (TX1 b).2.1 := by decide +kernel
theorem tyX1_ok : ∀ k, k < 3 → parseFieldDescriptor (TX1 k).2.2.1 = some (tyX1 k) := by decide +kernel
abbrev cX1_init : ByteArray := prog_3_method_1_code
def yX1_init : MethodName := ⟨RX1, "<init>", "()V"⟩
abbrev cX1_rank : ByteArray := prog_3_method_2_code
def yX1_rank : MethodName := ⟨RX1, "rank", "(LTitleFinder$State;)V"⟩
abbrev cX1_insert : ByteArray := prog_3_method_3_code
def yX1_insert : MethodName := ⟨RX1, "insert", "(LTitleFinder$State;II)V"⟩
abbrev cX1_has : ByteArray := prog_3_method_4_code
def yX1_has : MethodName := ⟨RX1, "has", "(I)Z"⟩
abbrev cX1_titleAt : ByteArray := prog_3_method_5_code
def yX1_titleAt : MethodName := ⟨RX1, "titleAt", "(I)I"⟩
abbrev cX1_placeAt : ByteArray := prog_3_method_6_code
def yX1_placeAt : MethodName := ⟨RX1, "placeAt", "(I)I"⟩
def RX2 : String := "TitleFinder$State"
def TX2 : u_T := fun k => match k with
  | 0 => ("TitleFinder$State", "titles", "Ljava/util/ArrayList;", true)
  | 1 => ("TitleFinder$State", "query", "[C", true)
  | 2 => ("TitleFinder$State", "queryLength", "I", false)
  | 3 => ("TitleFinder$State", "mode", "I", false)
  | _ => ("TitleFinder$State", "order", "I", false)
def tyX2 : Nat → FieldType := fun k => match k with
  | 0 => .object "java/util/ArrayList"
  | 1 => .array .char
  | 2 => .int
  | 3 => .int
  | _ => .int
abbrev wsX20 : List Cond := u_ws RX2 TX2 5
theorem nmX2 : ∀ a, a < 5 → ∀ b, b < 5 → a ≠ b → (TX2 a).2.1 ≠ (TX2 b).2.1 := by decide +kernel
theorem tyX2_ok : ∀ k, k < 5 → parseFieldDescriptor (TX2 k).2.2.1 = some (tyX2 k) := by decide +kernel
abbrev cX2_init : ByteArray := prog_4_method_1_code
def yX2_init : MethodName := ⟨RX2, "<init>", "()V"⟩
abbrev cX2_copyFrom : ByteArray := prog_4_method_2_code
def yX2_copyFrom : MethodName := ⟨RX2, "copyFrom", "(LTitleFinder$State;)V"⟩
abbrev cX2_has : ByteArray := prog_4_method_3_code
def yX2_has : MethodName := ⟨RX2, "has", "(I)Z"⟩
abbrev cX2_refusal : ByteArray := prog_4_method_4_code
def yX2_refusal : MethodName := ⟨RX2, "refusal", "(LTitleFinder$Title;)I"⟩
abbrev cX2_appendToQuery : ByteArray := prog_4_method_5_code
def yX2_appendToQuery : MethodName := ⟨RX2, "appendToQuery", "(C)V"⟩
abbrev cX2_queryEndsWithLetter : ByteArray := prog_4_method_6_code
def yX2_queryEndsWithLetter : MethodName := ⟨RX2, "queryEndsWithLetter", "()Z"⟩
abbrev cX2_placeOfMatch : ByteArray := prog_4_method_7_code
def yX2_placeOfMatch : MethodName := ⟨RX2, "placeOfMatch", "(I)I"⟩
abbrev cX2_comesBefore : ByteArray := prog_4_method_8_code
def yX2_comesBefore : MethodName := ⟨RX2, "comesBefore", "(IIII)Z"⟩
def RX3 : String := "TitleFinder$Study"
def TX3 : u_T := fun k => match k with
  | 0 => ("TitleFinder$Study", "places", "[[I", true)
  | 1 => ("TitleFinder$Study", "keyStart", "I", false)
  | 2 => ("TitleFinder$Study", "keyLength", "I", false)
  | 3 => ("TitleFinder$Study", "shortcutStart", "I", false)
  | _ => ("TitleFinder$Study", "shortcutLength", "I", false)
def tyX3 : Nat → FieldType := fun k => match k with
  | 0 => .array (.array .int)
  | 1 => .int
  | 2 => .int
  | 3 => .int
  | _ => .int
abbrev wsX30 : List Cond := u_ws RX3 TX3 5
theorem nmX3 : ∀ a, a < 5 → ∀ b, b < 5 → a ≠ b → (TX3 a).2.1 ≠ (TX3 b).2.1 := by decide +kernel
theorem tyX3_ok : ∀ k, k < 5 → parseFieldDescriptor (TX3 k).2.2.1 = some (tyX3 k) := by decide +kernel
abbrev cX3_init : ByteArray := prog_5_method_1_code
def yX3_init : MethodName := ⟨RX3, "<init>", "()V"⟩
abbrev cX3_look : ByteArray := prog_5_method_2_code
def yX3_look : MethodName := ⟨RX3, "look", "(LTitleFinder$State;I)V"⟩
abbrev cX3_hasKey : ByteArray := prog_5_method_3_code
def yX3_hasKey : MethodName := ⟨RX3, "hasKey", "()Z"⟩
abbrev cX3_hasShortcut : ByteArray := prog_5_method_4_code
def yX3_hasShortcut : MethodName := ⟨RX3, "hasShortcut", "()Z"⟩
abbrev cX3_lookAtPiecesFrom : ByteArray := prog_5_method_5_code
def yX3_lookAtPiecesFrom : MethodName := ⟨RX3, "lookAtPiecesFrom", "(I[CLTitleFinder$State;I)V"⟩
abbrev cX3_longestWanted : ByteArray := prog_5_method_6_code
def yX3_longestWanted : MethodName := ⟨RX3, "longestWanted", "()I"⟩
abbrev cX3_findPlaces : ByteArray := prog_5_method_7_code
def yX3_findPlaces : MethodName := ⟨RX3, "findPlaces", "([II[CILTitleFinder$Title;I)V"⟩
abbrev cX3_isKnownBy : ByteArray := prog_5_method_8_code
def yX3_isKnownBy : MethodName := ⟨RX3, "isKnownBy", "(ILTitleFinder$State;I)Z"⟩
abbrev cX3_isFirstFor : ByteArray := prog_5_method_9_code
def yX3_isFirstFor : MethodName := ⟨RX3, "isFirstFor", "(ILTitleFinder$State;I)Z"⟩
abbrev cX3_placeOf : ByteArray := prog_5_method_10_code
def yX3_placeOf : MethodName := ⟨RX3, "placeOf", "(II)I"⟩
def RX4 : String := "TitleFinder$Text"
def TX4 : u_T := fun k => match k with
  | 0 => ("TitleFinder$Text", "signs", "[C", true)
  | 1 => ("TitleFinder$Text", "length", "I", false)
  | 2 => ("TitleFinder$Text", "at", "I", false)
  | 3 => ("TitleFinder$Text", "command", "I", false)
  | 4 => ("TitleFinder$Text", "value", "I", false)
  | 5 => ("TitleFinder$Text", "from", "I", false)
  | _ => ("TitleFinder$Text", "to", "I", false)
def tyX4 : Nat → FieldType := fun k => match k with
  | 0 => .array .char
  | 1 => .int
  | 2 => .int
  | 3 => .int
  | 4 => .int
  | 5 => .int
  | _ => .int
abbrev wsX40 : List Cond := u_ws RX4 TX4 7
theorem nmX4 : ∀ a, a < 7 → ∀ b, b < 7 → a ≠ b → (TX4 a).2.1 ≠ (TX4 b).2.1 := by decide +kernel
theorem tyX4_ok : ∀ k, k < 7 → parseFieldDescriptor (TX4 k).2.2.1 = some (tyX4 k) := by decide +kernel
abbrev cX4_init : ByteArray := prog_6_method_1_code
def yX4_init : MethodName := ⟨RX4, "<init>", "()V"⟩
abbrev cX4_append : ByteArray := prog_6_method_2_code
def yX4_append : MethodName := ⟨RX4, "append", "(C)Z"⟩
abbrev cX4_makeEmpty : ByteArray := prog_6_method_3_code
def yX4_makeEmpty : MethodName := ⟨RX4, "makeEmpty", "()V"⟩
abbrev cX4_rewind : ByteArray := prog_6_method_4_code
def yX4_rewind : MethodName := ⟨RX4, "rewind", "()V"⟩
abbrev cX4_findFault : ByteArray := prog_6_method_5_code
def yX4_findFault : MethodName := ⟨RX4, "findFault", "()I"⟩
abbrev cX4_isTitle : ByteArray := prog_6_method_6_code
def yX4_isTitle : MethodName := ⟨RX4, "isTitle", "()Z"⟩
abbrev cX4_passCommand : ByteArray := prog_6_method_7_code
def yX4_passCommand : MethodName := ⟨RX4, "passCommand", "()Z"⟩
abbrev cX4_passSemicolon : ByteArray := prog_6_method_8_code
def yX4_passSemicolon : MethodName := ⟨RX4, "passSemicolon", "()Z"⟩
abbrev cX4_passTitle : ByteArray := prog_6_method_9_code
def yX4_passTitle : MethodName := ⟨RX4, "passTitle", "()Z"⟩
abbrev cX4_passNumber : ByteArray := prog_6_method_10_code
def yX4_passNumber : MethodName := ⟨RX4, "passNumber", "()Z"⟩
abbrev cX4_passName : ByteArray := prog_6_method_11_code
def yX4_passName : MethodName := ⟨RX4, "passName", "(II)Z"⟩
abbrev cX4_passOneOf : ByteArray := prog_6_method_12_code
def yX4_passOneOf : MethodName := ⟨RX4, "passOneOf", "(II)I"⟩
abbrev cX4_sameLength : ByteArray := prog_6_method_13_code
def yX4_sameLength : MethodName := ⟨RX4, "sameLength", "(Ljava/lang/String;)I"⟩
abbrev cX4_hasSign : ByteArray := prog_6_method_14_code
def yX4_hasSign : MethodName := ⟨RX4, "hasSign", "()Z"⟩
abbrev cX4_word : ByteArray := prog_6_method_15_code
def yX4_word : MethodName := ⟨RX4, "word", "(I)Ljava/lang/String;"⟩
abbrev cX4_name : ByteArray := prog_6_method_16_code
def yX4_name : MethodName := ⟨RX4, "name", "(I)Ljava/lang/String;"⟩
abbrev cX4_isLetter : ByteArray := prog_6_method_17_code
def yX4_isLetter : MethodName := ⟨RX4, "isLetter", "(I)Z"⟩
abbrev cX4_isDigit : ByteArray := prog_6_method_18_code
def yX4_isDigit : MethodName := ⟨RX4, "isDigit", "(I)Z"⟩
abbrev cX4_passedTitle : ByteArray := prog_6_method_19_code
def yX4_passedTitle : MethodName := ⟨RX4, "passedTitle", "()LTitleFinder$Title;"⟩
abbrev cX4_copyPassed : ByteArray := prog_6_method_20_code
def yX4_copyPassed : MethodName := ⟨RX4, "copyPassed", "(LTitleFinder$State;)V"⟩
def RX5 : String := "TitleFinder$Title"
def TX5 : u_T := fun k => match k with
  | 0 => ("TitleFinder$Title", "letters", "[C", true)
  | 1 => ("TitleFinder$Title", "initials", "[C", true)
  | _ => ("TitleFinder$Title", "uses", "I", true)
def tyX5 : Nat → FieldType := fun k => match k with
  | 0 => .array .char
  | 1 => .array .char
  | _ => .int
abbrev wsX50 : List Cond := u_ws RX5 TX5 3
theorem nmX5 : ∀ a, a < 3 → ∀ b, b < 3 → a ≠ b → (TX5 a).2.1 ≠ (TX5 b).2.1 := by decide +kernel
theorem tyX5_ok : ∀ k, k < 3 → parseFieldDescriptor (TX5 k).2.2.1 = some (tyX5 k) := by decide +kernel
abbrev cX5_init : ByteArray := prog_7_method_1_code
def yX5_init : MethodName := ⟨RX5, "<init>", "([C[CI)V"⟩
abbrev cX5_unused : ByteArray := prog_7_method_2_code
def yX5_unused : MethodName := ⟨RX5, "unused", "([C)LTitleFinder$Title;"⟩
abbrev cX5_initialsOf : ByteArray := prog_7_method_3_code
def yX5_initialsOf : MethodName := ⟨RX5, "initialsOf", "([C)[C"⟩
abbrev cX5_wordCount : ByteArray := prog_7_method_4_code
def yX5_wordCount : MethodName := ⟨RX5, "wordCount", "([C)I"⟩
abbrev cX5_usedOnceMore : ByteArray := prog_7_method_5_code
def yX5_usedOnceMore : MethodName := ⟨RX5, "usedOnceMore", "()LTitleFinder$Title;"⟩
abbrev cX5_run : ByteArray := prog_7_method_6_code
def yX5_run : MethodName := ⟨RX5, "run", "(I)[C"⟩
abbrev cX5_startsPiece : ByteArray := prog_7_method_7_code
def yX5_startsPiece : MethodName := ⟨RX5, "startsPiece", "(II)Z"⟩
abbrev cX5_placeOf : ByteArray := prog_7_method_8_code
def yX5_placeOf : MethodName := ⟨RX5, "placeOf", "([CII)I"⟩
abbrev cX5_commonRun : ByteArray := prog_7_method_9_code
def yX5_commonRun : MethodName := ⟨RX5, "commonRun", "(LTitleFinder$Title;)I"⟩
abbrev cX5_hasLettersOf : ByteArray := prog_7_method_10_code
def yX5_hasLettersOf : MethodName := ⟨RX5, "hasLettersOf", "(LTitleFinder$Title;)Z"⟩
abbrev cX5_comesByNameBefore : ByteArray := prog_7_method_11_code
def yX5_comesByNameBefore : MethodName := ⟨RX5, "comesByNameBefore", "(LTitleFinder$Title;)Z"⟩
abbrev cX5_sameLength : ByteArray := prog_7_method_12_code
def yX5_sameLength : MethodName := ⟨RX5, "sameLength", "([CI[CII)I"⟩
def RX6 : String := "TitleFinder"
def TX6 : u_T := fun k => match k with
  | 0 => ("TitleFinder", "state", "LTitleFinder$State;", true)
  | 1 => ("TitleFinder", "trial", "LTitleFinder$State;", true)
  | 2 => ("TitleFinder", "history", "LTitleFinder$History;", true)
  | 3 => ("TitleFinder", "text", "LTitleFinder$Text;", true)
  | 4 => ("TitleFinder", "ranking", "LTitleFinder$Ranking;", true)
  | _ => ("TitleFinder", "study", "LTitleFinder$Study;", true)
def tyX6 : Nat → FieldType := fun k => match k with
  | 0 => .object "TitleFinder$State"
  | 1 => .object "TitleFinder$State"
  | 2 => .object "TitleFinder$History"
  | 3 => .object "TitleFinder$Text"
  | 4 => .object "TitleFinder$Ranking"
  | _ => .object "TitleFinder$Study"
abbrev wsX60 : List Cond := u_ws RX6 TX6 6
theorem nmX6 : ∀ a, a < 6 → ∀ b, b < 6 → a ≠ b → (TX6 a).2.1 ≠ (TX6 b).2.1 := by decide +kernel
theorem tyX6_ok : ∀ k, k < 6 → parseFieldDescriptor (TX6 k).2.2.1 = some (tyX6 k) := by decide +kernel
abbrev cX6_init : ByteArray := prog_1_method_1_code
def yX6_init : MethodName := ⟨RX6, "<init>", "()V"⟩
abbrev cX6_type : ByteArray := prog_1_method_2_code
def yX6_type : MethodName := ⟨RX6, "type", "(I)I"⟩
abbrev cX6_clearText : ByteArray := prog_1_method_3_code
def yX6_clearText : MethodName := ⟨RX6, "clearText", "()I"⟩
abbrev cX6_syntaxError : ByteArray := prog_1_method_4_code
def yX6_syntaxError : MethodName := ⟨RX6, "syntaxError", "()I"⟩
abbrev cX6_carryOut : ByteArray := prog_1_method_5_code
def yX6_carryOut : MethodName := ⟨RX6, "carryOut", "()I"⟩
abbrev cX6_obeyed : ByteArray := prog_1_method_6_code
def yX6_obeyed : MethodName := ⟨RX6, "obeyed", "()Z"⟩
abbrev cX6_add : ByteArray := prog_1_method_7_code
def yX6_add : MethodName := ⟨RX6, "add", "()I"⟩
abbrev cX6_addIfPossible : ByteArray := prog_1_method_8_code
def yX6_addIfPossible : MethodName := ⟨RX6, "addIfPossible", "(LTitleFinder$Title;)I"⟩
abbrev cX6_drop : ByteArray := prog_1_method_9_code
def yX6_drop : MethodName := ⟨RX6, "drop", "(I)I"⟩
abbrev cX6_dropIfThere : ByteArray := prog_1_method_10_code
def yX6_dropIfThere : MethodName := ⟨RX6, "dropIfThere", "(I)Z"⟩
abbrev cX6_titles : ByteArray := prog_1_method_11_code
def yX6_titles : MethodName := ⟨RX6, "titles", "()I"⟩
abbrev cX6_character : ByteArray := prog_1_method_12_code
def yX6_character : MethodName := ⟨RX6, "character", "(II)I"⟩
abbrev cX6_of : ByteArray := prog_1_method_13_code
def yX6_of : MethodName := ⟨RX6, "of", "(II)I"⟩
abbrev cX6_studiedNumber : ByteArray := prog_1_method_14_code
def yX6_studiedNumber : MethodName := ⟨RX6, "studiedNumber", "(LTitleFinder$Title;I)I"⟩
abbrev cX6_common : ByteArray := prog_1_method_15_code
def yX6_common : MethodName := ⟨RX6, "common", "(II)I"⟩
abbrev cX6_closest : ByteArray := prog_1_method_16_code
def yX6_closest : MethodName := ⟨RX6, "closest", "(I)I"⟩
abbrev cX6_unknown : ByteArray := prog_1_method_17_code
def yX6_unknown : MethodName := ⟨RX6, "unknown", "()I"⟩
abbrev cX6_hardest : ByteArray := prog_1_method_18_code
def yX6_hardest : MethodName := ⟨RX6, "hardest", "()I"⟩
abbrev cX6_ifAdded : ByteArray := prog_1_method_19_code
def yX6_ifAdded : MethodName := ⟨RX6, "ifAdded", "()I"⟩
abbrev cX6_keyWouldChange : ByteArray := prog_1_method_20_code
def yX6_keyWouldChange : MethodName := ⟨RX6, "keyWouldChange", "(I)Z"⟩
abbrev cX6_setMode : ByteArray := prog_1_method_21_code
def yX6_setMode : MethodName := ⟨RX6, "setMode", "(I)I"⟩
abbrev cX6_setOrder : ByteArray := prog_1_method_22_code
def yX6_setOrder : MethodName := ⟨RX6, "setOrder", "(I)I"⟩
abbrev cX6_mode : ByteArray := prog_1_method_23_code
def yX6_mode : MethodName := ⟨RX6, "mode", "()I"⟩
abbrev cX6_order : ByteArray := prog_1_method_24_code
def yX6_order : MethodName := ⟨RX6, "order", "()I"⟩
abbrev cX6_ask : ByteArray := prog_1_method_25_code
def yX6_ask : MethodName := ⟨RX6, "ask", "(I)I"⟩
abbrev cX6_erase : ByteArray := prog_1_method_26_code
def yX6_erase : MethodName := ⟨RX6, "erase", "()I"⟩
abbrev cX6_queryLength : ByteArray := prog_1_method_27_code
def yX6_queryLength : MethodName := ⟨RX6, "queryLength", "()I"⟩
abbrev cX6_queryCharacter : ByteArray := prog_1_method_28_code
def yX6_queryCharacter : MethodName := ⟨RX6, "queryCharacter", "(I)I"⟩
abbrev cX6_results : ByteArray := prog_1_method_29_code
def yX6_results : MethodName := ⟨RX6, "results", "()I"⟩
abbrev cX6_result : ByteArray := prog_1_method_30_code
def yX6_result : MethodName := ⟨RX6, "result", "(I)I"⟩
abbrev cX6_matchPlace : ByteArray := prog_1_method_31_code
def yX6_matchPlace : MethodName := ⟨RX6, "matchPlace", "(I)I"⟩
abbrev cX6_pick : ByteArray := prog_1_method_32_code
def yX6_pick : MethodName := ⟨RX6, "pick", "(I)I"⟩
abbrev cX6_pickIfThere : ByteArray := prog_1_method_33_code
def yX6_pickIfThere : MethodName := ⟨RX6, "pickIfThere", "(I)I"⟩
abbrev cX6_undo : ByteArray := prog_1_method_34_code
def yX6_undo : MethodName := ⟨RX6, "undo", "()I"⟩
abbrev cX6_digest : ByteArray := prog_1_method_35_code
def yX6_digest : MethodName := ⟨RX6, "digest", "()J"⟩
abbrev cX6_hashWithTitle : ByteArray := prog_1_method_36_code
def yX6_hashWithTitle : MethodName := ⟨RX6, "hashWithTitle", "(JILTitleFinder$Title;)J"⟩
abbrev cX6_hashWithResults : ByteArray := prog_1_method_37_code
def yX6_hashWithResults : MethodName := ⟨RX6, "hashWithResults", "(J)J"⟩
abbrev cX6_hashWith : ByteArray := prog_1_method_38_code
def yX6_hashWith : MethodName := ⟨RX6, "hashWith", "(JI)J"⟩
def RX7 : String := "TitleFinderModel"
def TX7 : u_T := fun k => match k with
  | 0 => ("TitleFinderModel", "state", "[I", true)
  | 1 => ("TitleFinderModel", "history", "[I", true)
  | 2 => ("TitleFinderModel", "recorded", "I", false)
  | 3 => ("TitleFinderModel", "text", "[I", true)
  | 4 => ("TitleFinderModel", "textLength", "I", false)
  | 5 => ("TitleFinderModel", "source", "[I", true)
  | 6 => ("TitleFinderModel", "sourceLength", "[I", true)
  | 7 => ("TitleFinderModel", "asked", "[I", true)
  | 8 => ("TitleFinderModel", "askedLength", "I", false)
  | 9 => ("TitleFinderModel", "ranked", "[I", true)
  | 10 => ("TitleFinderModel", "rankedMany", "I", false)
  | 11 => ("TitleFinderModel", "places", "[I", true)
  | 12 => ("TitleFinderModel", "foundStart", "I", false)
  | 13 => ("TitleFinderModel", "foundLength", "I", false)
  | 14 => ("TitleFinderModel", "starts", "[I", true)
  | 15 => ("TitleFinderModel", "lengths", "[I", true)
  | 16 => ("TitleFinderModel", "runs", "[I", true)
  | 17 => ("TitleFinderModel", "at", "I", false)
  | 18 => ("TitleFinderModel", "command", "I", false)
  | 19 => ("TitleFinderModel", "number", "I", false)
  | 20 => ("TitleFinderModel", "begin", "I", false)
  | _ => ("TitleFinderModel", "end", "I", false)
def tyX7 : Nat → FieldType := fun k => match k with
  | 0 => .array .int
  | 1 => .array .int
  | 2 => .int
  | 3 => .array .int
  | 4 => .int
  | 5 => .array .int
  | 6 => .array .int
  | 7 => .array .int
  | 8 => .int
  | 9 => .array .int
  | 10 => .int
  | 11 => .array .int
  | 12 => .int
  | 13 => .int
  | 14 => .array .int
  | 15 => .array .int
  | 16 => .array .int
  | 17 => .int
  | 18 => .int
  | 19 => .int
  | 20 => .int
  | _ => .int
abbrev wsX70 : List Cond := u_ws RX7 TX7 22
theorem nmX7 : ∀ a, a < 22 → ∀ b, b < 22 → a ≠ b → (TX7 a).2.1 ≠ (TX7 b).2.1 := by decide +kernel
theorem tyX7_ok : ∀ k, k < 22 → parseFieldDescriptor (TX7 k).2.2.1 = some (tyX7 k) := by decide +kernel
abbrev cX7_init : ByteArray := prog_9_method_1_code
def yX7_init : MethodName := ⟨RX7, "<init>", "()V"⟩
abbrev cX7_within : ByteArray := prog_9_method_3_code
def yX7_within : MethodName := ⟨RX7, "within", "(III)Z"⟩
abbrev cX7_record : ByteArray := prog_9_method_4_code
def yX7_record : MethodName := ⟨RX7, "record", "()V"⟩
abbrev cX7_isTitle : ByteArray := prog_9_method_5_code
def yX7_isTitle : MethodName := ⟨RX7, "isTitle", "(I)Z"⟩
abbrev cX7_part : ByteArray := prog_9_method_6_code
def yX7_part : MethodName := ⟨RX7, "part", "(II)I"⟩
abbrev cX7_lengthOf : ByteArray := prog_9_method_7_code
def yX7_lengthOf : MethodName := ⟨RX7, "lengthOf", "(I)I"⟩
abbrev cX7_characterOf : ByteArray := prog_9_method_8_code
def yX7_characterOf : MethodName := ⟨RX7, "characterOf", "(II)I"⟩
abbrev cX7_isLetter : ByteArray := prog_9_method_9_code
def yX7_isLetter : MethodName := ⟨RX7, "isLetter", "(I)Z"⟩
abbrev cX7_beginsWord : ByteArray := prog_9_method_10_code
def yX7_beginsWord : MethodName := ⟨RX7, "beginsWord", "(II)Z"⟩
abbrev cX7_findSources : ByteArray := prog_9_method_11_code
def yX7_findSources : MethodName := ⟨RX7, "findSources", "()V"⟩
abbrev cX7_sourceAt : ByteArray := prog_9_method_12_code
def yX7_sourceAt : MethodName := ⟨RX7, "sourceAt", "(II)I"⟩
abbrev cX7_canStart : ByteArray := prog_9_method_13_code
def yX7_canStart : MethodName := ⟨RX7, "canStart", "(II)Z"⟩
abbrev cX7_isPiece : ByteArray := prog_9_method_14_code
def yX7_isPiece : MethodName := ⟨RX7, "isPiece", "(III)Z"⟩
abbrev cX7_asks : ByteArray := prog_9_method_15_code
def yX7_asks : MethodName := ⟨RX7, "asks", "(III)V"⟩
abbrev cX7_placeIn : ByteArray := prog_9_method_16_code
def yX7_placeIn : MethodName := ⟨RX7, "placeIn", "(I)I"⟩
abbrev cX7_isAheadByName : ByteArray := prog_9_method_17_code
def yX7_isAheadByName : MethodName := ⟨RX7, "isAheadByName", "(II)Z"⟩
abbrev cX7_isAheadByPlace : ByteArray := prog_9_method_18_code
def yX7_isAheadByPlace : MethodName := ⟨RX7, "isAheadByPlace", "(II)Z"⟩
abbrev cX7_isAhead : ByteArray := prog_9_method_19_code
def yX7_isAhead : MethodName := ⟨RX7, "isAhead", "(II)Z"⟩
abbrev cX7_findPlaces : ByteArray := prog_9_method_20_code
def yX7_findPlaces : MethodName := ⟨RX7, "findPlaces", "()V"⟩
abbrev cX7_findResults : ByteArray := prog_9_method_21_code
def yX7_findResults : MethodName := ⟨RX7, "findResults", "()V"⟩
abbrev cX7_isAlone : ByteArray := prog_9_method_22_code
def yX7_isAlone : MethodName := ⟨RX7, "isAlone", "(I)Z"⟩
abbrev cX7_isFirst : ByteArray := prog_9_method_23_code
def yX7_isFirst : MethodName := ⟨RX7, "isFirst", "(I)Z"⟩
abbrev cX7_findPiece : ByteArray := prog_9_method_24_code
def yX7_findPiece : MethodName := ⟨RX7, "findPiece", "(IZ)V"⟩
abbrev cX7_findKeys : ByteArray := prog_9_method_25_code
def yX7_findKeys : MethodName := ⟨RX7, "findKeys", "()V"⟩
abbrev cX7_unknownNow : ByteArray := prog_9_method_26_code
def yX7_unknownNow : MethodName := ⟨RX7, "unknownNow", "()I"⟩
abbrev cX7_hardestNow : ByteArray := prog_9_method_27_code
def yX7_hardestNow : MethodName := ⟨RX7, "hardestNow", "()I"⟩
abbrev cX7_type : ByteArray := prog_9_method_28_code
def yX7_type : MethodName := ⟨RX7, "type", "(I)I"⟩
abbrev cX7_clearText : ByteArray := prog_9_method_29_code
def yX7_clearText : MethodName := ⟨RX7, "clearText", "()I"⟩
abbrev cX7_typedAt : ByteArray := prog_9_method_30_code
def yX7_typedAt : MethodName := ⟨RX7, "typedAt", "(I)I"⟩
abbrev cX7_isNext : ByteArray := prog_9_method_31_code
def yX7_isNext : MethodName := ⟨RX7, "isNext", "(I)Z"⟩
abbrev cX7_readsWord : ByteArray := prog_9_method_32_code
def yX7_readsWord : MethodName := ⟨RX7, "readsWord", "(J)Z"⟩
abbrev cX7_readsTitle : ByteArray := prog_9_method_33_code
def yX7_readsTitle : MethodName := ⟨RX7, "readsTitle", "()Z"⟩
abbrev cX7_readsNumber : ByteArray := prog_9_method_34_code
def yX7_readsNumber : MethodName := ⟨RX7, "readsNumber", "()Z"⟩
abbrev cX7_readsMode : ByteArray := prog_9_method_35_code
def yX7_readsMode : MethodName := ⟨RX7, "readsMode", "()Z"⟩
abbrev cX7_readsOrder : ByteArray := prog_9_method_36_code
def yX7_readsOrder : MethodName := ⟨RX7, "readsOrder", "()Z"⟩
abbrev cX7_readsAddOrAsk : ByteArray := prog_9_method_37_code
def yX7_readsAddOrAsk : MethodName := ⟨RX7, "readsAddOrAsk", "()Z"⟩
abbrev cX7_readsCommand : ByteArray := prog_9_method_38_code
def yX7_readsCommand : MethodName := ⟨RX7, "readsCommand", "()Z"⟩
abbrev cX7_findError : ByteArray := prog_9_method_39_code
def yX7_findError : MethodName := ⟨RX7, "findError", "()I"⟩
abbrev cX7_syntaxError : ByteArray := prog_9_method_40_code
def yX7_syntaxError : MethodName := ⟨RX7, "syntaxError", "()I"⟩
abbrev cX7_isThere : ByteArray := prog_9_method_41_code
def yX7_isThere : MethodName := ⟨RX7, "isThere", "(II)Z"⟩
abbrev cX7_whyNotAdded : ByteArray := prog_9_method_42_code
def yX7_whyNotAdded : MethodName := ⟨RX7, "whyNotAdded", "(II)I"⟩
abbrev cX7_adds : ByteArray := prog_9_method_43_code
def yX7_adds : MethodName := ⟨RX7, "adds", "(II)I"⟩
abbrev cX7_drops : ByteArray := prog_9_method_44_code
def yX7_drops : MethodName := ⟨RX7, "drops", "(I)I"⟩
abbrev cX7_clearsQuery : ByteArray := prog_9_method_45_code
def yX7_clearsQuery : MethodName := ⟨RX7, "clearsQuery", "()V"⟩
abbrev cX7_picks : ByteArray := prog_9_method_46_code
def yX7_picks : MethodName := ⟨RX7, "picks", "(I)I"⟩
abbrev cX7_isRank : ByteArray := prog_9_method_47_code
def yX7_isRank : MethodName := ⟨RX7, "isRank", "(I)Z"⟩
abbrev cX7_mayDo : ByteArray := prog_9_method_48_code
def yX7_mayDo : MethodName := ⟨RX7, "mayDo", "()Z"⟩
abbrev cX7_does : ByteArray := prog_9_method_49_code
def yX7_does : MethodName := ⟨RX7, "does", "()V"⟩
abbrev cX7_carryOut : ByteArray := prog_9_method_50_code
def yX7_carryOut : MethodName := ⟨RX7, "carryOut", "()I"⟩
abbrev cX7_whyNotTyped : ByteArray := prog_9_method_51_code
def yX7_whyNotTyped : MethodName := ⟨RX7, "whyNotTyped", "()I"⟩
abbrev cX7_add : ByteArray := prog_9_method_52_code
def yX7_add : MethodName := ⟨RX7, "add", "()I"⟩
abbrev cX7_drop : ByteArray := prog_9_method_53_code
def yX7_drop : MethodName := ⟨RX7, "drop", "(I)I"⟩
abbrev cX7_titles : ByteArray := prog_9_method_54_code
def yX7_titles : MethodName := ⟨RX7, "titles", "()I"⟩
abbrev cX7_character : ByteArray := prog_9_method_55_code
def yX7_character : MethodName := ⟨RX7, "character", "(II)I"⟩
abbrev cX7_words : ByteArray := prog_9_method_56_code
def yX7_words : MethodName := ⟨RX7, "words", "(I)I"⟩
abbrev cX7_ofTitle : ByteArray := prog_9_method_57_code
def yX7_ofTitle : MethodName := ⟨RX7, "ofTitle", "(II)I"⟩
abbrev cX7_of : ByteArray := prog_9_method_58_code
def yX7_of : MethodName := ⟨RX7, "of", "(II)I"⟩
abbrev cX7_longestRun : ByteArray := prog_9_method_59_code
def yX7_longestRun : MethodName := ⟨RX7, "longestRun", "(II)I"⟩
abbrev cX7_common : ByteArray := prog_9_method_60_code
def yX7_common : MethodName := ⟨RX7, "common", "(II)I"⟩
abbrev cX7_closest : ByteArray := prog_9_method_61_code
def yX7_closest : MethodName := ⟨RX7, "closest", "(I)I"⟩
abbrev cX7_unknown : ByteArray := prog_9_method_62_code
def yX7_unknown : MethodName := ⟨RX7, "unknown", "()I"⟩
abbrev cX7_hardest : ByteArray := prog_9_method_63_code
def yX7_hardest : MethodName := ⟨RX7, "hardest", "()I"⟩
abbrev cX7_ifAdded : ByteArray := prog_9_method_64_code
def yX7_ifAdded : MethodName := ⟨RX7, "ifAdded", "()I"⟩
abbrev cX7_setMode : ByteArray := prog_9_method_65_code
def yX7_setMode : MethodName := ⟨RX7, "setMode", "(I)I"⟩
abbrev cX7_setOrder : ByteArray := prog_9_method_66_code
def yX7_setOrder : MethodName := ⟨RX7, "setOrder", "(I)I"⟩
abbrev cX7_mode : ByteArray := prog_9_method_67_code
def yX7_mode : MethodName := ⟨RX7, "mode", "()I"⟩
abbrev cX7_order : ByteArray := prog_9_method_68_code
def yX7_order : MethodName := ⟨RX7, "order", "()I"⟩
abbrev cX7_resultsMany : ByteArray := prog_9_method_69_code
def yX7_resultsMany : MethodName := ⟨RX7, "resultsMany", "()I"⟩
abbrev cX7_ask : ByteArray := prog_9_method_70_code
def yX7_ask : MethodName := ⟨RX7, "ask", "(I)I"⟩
abbrev cX7_erase : ByteArray := prog_9_method_71_code
def yX7_erase : MethodName := ⟨RX7, "erase", "()I"⟩
abbrev cX7_queryLength : ByteArray := prog_9_method_72_code
def yX7_queryLength : MethodName := ⟨RX7, "queryLength", "()I"⟩
abbrev cX7_queryCharacter : ByteArray := prog_9_method_73_code
def yX7_queryCharacter : MethodName := ⟨RX7, "queryCharacter", "(I)I"⟩
abbrev cX7_results : ByteArray := prog_9_method_74_code
def yX7_results : MethodName := ⟨RX7, "results", "()I"⟩
abbrev cX7_result : ByteArray := prog_9_method_75_code
def yX7_result : MethodName := ⟨RX7, "result", "(I)I"⟩
abbrev cX7_matchPlace : ByteArray := prog_9_method_76_code
def yX7_matchPlace : MethodName := ⟨RX7, "matchPlace", "(I)I"⟩
abbrev cX7_pick : ByteArray := prog_9_method_77_code
def yX7_pick : MethodName := ⟨RX7, "pick", "(I)I"⟩
abbrev cX7_undo : ByteArray := prog_9_method_78_code
def yX7_undo : MethodName := ⟨RX7, "undo", "()I"⟩
abbrev cX7_digest : ByteArray := prog_9_method_79_code
def yX7_digest : MethodName := ⟨RX7, "digest", "()J"⟩
def RJx145de : String := "java/io/Serializable"
def TJx145de : u_T := fun k => match k with
  | _ => ("", "", "", false)
def tyJx145de : Nat → FieldType := fun k => match k with
  | _ => .int
abbrev wsJx145de0 : List Cond := u_ws RJx145de TJx145de 0
theorem nmJx145de : ∀ a, a < 0 → ∀ b, b < 0 → a ≠ b → (TJx145de a).2.1 ≠ (TJx145de b).2.1 := by decide +kernel
theorem tyJx145de_ok : ∀ k, k < 0 → parseFieldDescriptor (TJx145de k).2.2.1 = some (tyJx145de k) := by decide +kernel
def RJx9f9b0 : String := "java/lang/CharSequence"
def TJx9f9b0 : u_T := fun k => match k with
  | _ => ("", "", "", false)
def tyJx9f9b0 : Nat → FieldType := fun k => match k with
  | _ => .int
abbrev wsJx9f9b00 : List Cond := u_ws RJx9f9b0 TJx9f9b0 0
theorem nmJx9f9b0 : ∀ a, a < 0 → ∀ b, b < 0 → a ≠ b → (TJx9f9b0 a).2.1 ≠ (TJx9f9b0 b).2.1 := by decide +kernel
theorem tyJx9f9b0_ok : ∀ k, k < 0 → parseFieldDescriptor (TJx9f9b0 k).2.2.1 = some (tyJx9f9b0 k) := by decide +kernel
def RJx8e188 : String := "java/lang/Cloneable"
def TJx8e188 : u_T := fun k => match k with
  | _ => ("", "", "", false)
def tyJx8e188 : Nat → FieldType := fun k => match k with
  | _ => .int
abbrev wsJx8e1880 : List Cond := u_ws RJx8e188 TJx8e188 0
theorem nmJx8e188 : ∀ a, a < 0 → ∀ b, b < 0 → a ≠ b → (TJx8e188 a).2.1 ≠ (TJx8e188 b).2.1 := by decide +kernel
theorem tyJx8e188_ok : ∀ k, k < 0 → parseFieldDescriptor (TJx8e188 k).2.2.1 = some (tyJx8e188 k) := by decide +kernel
def RJxb160c : String := "java/lang/Comparable"
def TJxb160c : u_T := fun k => match k with
  | _ => ("", "", "", false)
def tyJxb160c : Nat → FieldType := fun k => match k with
  | _ => .int
abbrev wsJxb160c0 : List Cond := u_ws RJxb160c TJxb160c 0
theorem nmJxb160c : ∀ a, a < 0 → ∀ b, b < 0 → a ≠ b → (TJxb160c a).2.1 ≠ (TJxb160c b).2.1 := by decide +kernel
theorem tyJxb160c_ok : ∀ k, k < 0 → parseFieldDescriptor (TJxb160c k).2.2.1 = some (tyJxb160c k) := by decide +kernel
def RJxab1ab : String := "java/lang/Iterable"
def TJxab1ab : u_T := fun k => match k with
  | _ => ("", "", "", false)
def tyJxab1ab : Nat → FieldType := fun k => match k with
  | _ => .int
abbrev wsJxab1ab0 : List Cond := u_ws RJxab1ab TJxab1ab 0
theorem nmJxab1ab : ∀ a, a < 0 → ∀ b, b < 0 → a ≠ b → (TJxab1ab a).2.1 ≠ (TJxab1ab b).2.1 := by decide +kernel
theorem tyJxab1ab_ok : ∀ k, k < 0 → parseFieldDescriptor (TJxab1ab k).2.2.1 = some (tyJxab1ab k) := by decide +kernel
def RJ9 : String := "java/lang/Math"
def TJ9 : u_T := fun k => match k with
  | _ => ("", "", "", false)
def tyJ9 : Nat → FieldType := fun k => match k with
  | _ => .int
abbrev wsJ90 : List Cond := u_ws RJ9 TJ9 0
theorem nmJ9 : ∀ a, a < 0 → ∀ b, b < 0 → a ≠ b → (TJ9 a).2.1 ≠ (TJ9 b).2.1 := by decide +kernel
theorem tyJ9_ok : ∀ k, k < 0 → parseFieldDescriptor (TJ9 k).2.2.1 = some (tyJ9 k) := by decide +kernel
abbrev cJ9_max_7cf53 : ByteArray := prog_15_method_65_code
def yJ9_max_7cf53 : MethodName := ⟨RJ9, "max", "(II)I"⟩
abbrev cJ9_min_7cf53 : ByteArray := prog_15_method_69_code
def yJ9_min_7cf53 : MethodName := ⟨RJ9, "min", "(II)I"⟩
def RJ0 : String := "java/lang/String"
def TJ0 : u_T := fun k => match k with
  | _ => ("", "", "", false)
def tyJ0 : Nat → FieldType := fun k => match k with
  | _ => .int
abbrev wsJ00 : List Cond := u_ws RJ0 TJ0 0
theorem nmJ0 : ∀ a, a < 0 → ∀ b, b < 0 → a ≠ b → (TJ0 a).2.1 ≠ (TJ0 b).2.1 := by decide +kernel
theorem tyJ0_ok : ∀ k, k < 0 → parseFieldDescriptor (TJ0 k).2.2.1 = some (tyJ0 k) := by decide +kernel
abbrev cJ0_length_8abf5 : ByteArray := prog_16_method_54_code
def yJ0_length_8abf5 : MethodName := ⟨RJ0, "length", "()I"⟩
abbrev cJ0_charAt_5068e : ByteArray := prog_16_method_56_code
def yJ0_charAt_5068e : MethodName := ⟨RJ0, "charAt", "(I)C"⟩
abbrev cJ0_coder_7d493 : ByteArray := prog_16_method_152_code
def yJ0_coder_7d493 : MethodName := ⟨RJ0, "coder", "()B"⟩
abbrev cJ0_isLatin1_aae02 : ByteArray := prog_16_method_154_code
def yJ0_isLatin1_aae02 : MethodName := ⟨RJ0, "isLatin1", "()Z"⟩
abbrev cJ0_checkIndex_df160 : ByteArray := prog_16_method_155_code
def yJ0_checkIndex_df160 : MethodName := ⟨RJ0, "checkIndex", "(II)V"⟩
def RJ1 : String := "java/lang/StringLatin1"
def TJ1 : u_T := fun k => match k with
  | _ => ("", "", "", false)
def tyJ1 : Nat → FieldType := fun k => match k with
  | _ => .int
abbrev wsJ10 : List Cond := u_ws RJ1 TJ1 0
theorem nmJ1 : ∀ a, a < 0 → ∀ b, b < 0 → a ≠ b → (TJ1 a).2.1 ≠ (TJ1 b).2.1 := by decide +kernel
theorem tyJ1_ok : ∀ k, k < 0 → parseFieldDescriptor (TJ1 k).2.2.1 = some (tyJ1 k) := by decide +kernel
abbrev cJ1_charAt_3b067 : ByteArray := prog_17_method_2_code
def yJ1_charAt_3b067 : MethodName := ⟨RJ1, "charAt", "([BI)C"⟩
def RJ2 : String := "java/lang/StringUTF16"
def TJ2 : u_T := fun k => match k with
  | _ => ("", "", "", false)
def tyJ2 : Nat → FieldType := fun k => match k with
  | _ => .int
abbrev wsJ20 : List Cond := u_ws RJ2 TJ2 0
theorem nmJ2 : ∀ a, a < 0 → ∀ b, b < 0 → a ≠ b → (TJ2 a).2.1 ≠ (TJ2 b).2.1 := by decide +kernel
theorem tyJ2_ok : ∀ k, k < 0 → parseFieldDescriptor (TJ2 k).2.2.1 = some (tyJ2 k) := by decide +kernel
abbrev cJ2_getChar_3b067 : ByteArray := prog_18_method_5_code
def yJ2_getChar_3b067 : MethodName := ⟨RJ2, "getChar", "([BI)C"⟩
abbrev cJ2_length_9d52b : ByteArray := prog_18_method_6_code
def yJ2_length_9d52b : MethodName := ⟨RJ2, "length", "([B)I"⟩
abbrev cJ2_charAt_3b067 : ByteArray := prog_18_method_83_code
def yJ2_charAt_3b067 : MethodName := ⟨RJ2, "charAt", "([BI)C"⟩
abbrev cJ2_checkIndex_2214a : ByteArray := prog_18_method_91_code
def yJ2_checkIndex_2214a : MethodName := ⟨RJ2, "checkIndex", "(I[B)V"⟩
def RJ10 : String := "java/lang/System"
def TJ10 : u_T := fun k => match k with
  | _ => ("", "", "", false)
def tyJ10 : Nat → FieldType := fun k => match k with
  | _ => .int
abbrev wsJ100 : List Cond := u_ws RJ10 TJ10 0
theorem nmJ10 : ∀ a, a < 0 → ∀ b, b < 0 → a ≠ b → (TJ10 a).2.1 ≠ (TJ10 b).2.1 := by decide +kernel
theorem tyJ10_ok : ∀ k, k < 0 → parseFieldDescriptor (TJ10 k).2.2.1 = some (tyJ10 k) := by decide +kernel
def RJxfd54e : String := "java/lang/constant/Constable"
def TJxfd54e : u_T := fun k => match k with
  | _ => ("", "", "", false)
def tyJxfd54e : Nat → FieldType := fun k => match k with
  | _ => .int
abbrev wsJxfd54e0 : List Cond := u_ws RJxfd54e TJxfd54e 0
theorem nmJxfd54e : ∀ a, a < 0 → ∀ b, b < 0 → a ≠ b → (TJxfd54e a).2.1 ≠ (TJxfd54e b).2.1 := by decide +kernel
theorem tyJxfd54e_ok : ∀ k, k < 0 → parseFieldDescriptor (TJxfd54e k).2.2.1 = some (tyJxfd54e k) := by decide +kernel
def RJx3cf43 : String := "java/lang/constant/ConstantDesc"
def TJx3cf43 : u_T := fun k => match k with
  | _ => ("", "", "", false)
def tyJx3cf43 : Nat → FieldType := fun k => match k with
  | _ => .int
abbrev wsJx3cf430 : List Cond := u_ws RJx3cf43 TJx3cf43 0
theorem nmJx3cf43 : ∀ a, a < 0 → ∀ b, b < 0 → a ≠ b → (TJx3cf43 a).2.1 ≠ (TJx3cf43 b).2.1 := by decide +kernel
theorem tyJx3cf43_ok : ∀ k, k < 0 → parseFieldDescriptor (TJx3cf43 k).2.2.1 = some (tyJx3cf43 k) := by decide +kernel
def RJxa1e45 : String := "java/util/AbstractCollection"
def TJxa1e45 : u_T := fun k => match k with
  | _ => ("", "", "", false)
def tyJxa1e45 : Nat → FieldType := fun k => match k with
  | _ => .int
abbrev wsJxa1e450 : List Cond := u_ws RJxa1e45 TJxa1e45 0
theorem nmJxa1e45 : ∀ a, a < 0 → ∀ b, b < 0 → a ≠ b → (TJxa1e45 a).2.1 ≠ (TJxa1e45 b).2.1 := by decide +kernel
theorem tyJxa1e45_ok : ∀ k, k < 0 → parseFieldDescriptor (TJxa1e45 k).2.2.1 = some (tyJxa1e45 k) := by decide +kernel
abbrev cJxa1e45_init_da8c8 : ByteArray := prog_22_method_1_code
def yJxa1e45_init_da8c8 : MethodName := ⟨RJxa1e45, "<init>", "()V"⟩
def RJxc12de : String := "java/util/AbstractList"
def TJxc12de : u_T := fun k => match k with
  | _ => ("", "", "", false)
def tyJxc12de : Nat → FieldType := fun k => match k with
  | _ => .int
abbrev wsJxc12de0 : List Cond := u_ws RJxc12de TJxc12de 0
theorem nmJxc12de : ∀ a, a < 0 → ∀ b, b < 0 → a ≠ b → (TJxc12de a).2.1 ≠ (TJxc12de b).2.1 := by decide +kernel
theorem tyJxc12de_ok : ∀ k, k < 0 → parseFieldDescriptor (TJxc12de k).2.2.1 = some (tyJxc12de k) := by decide +kernel
abbrev cJxc12de_init_da8c8 : ByteArray := prog_23_method_1_code
def yJxc12de_init_da8c8 : MethodName := ⟨RJxc12de, "<init>", "()V"⟩
def RJx4a65c : String := "java/util/ArrayList"
def TJx4a65c : u_T := fun k => match k with
  | 0 => ("java/util/AbstractList", "modCount", "I", false)
  | 1 => ("java/util/ArrayList", "elementData", "[Ljava/lang/Object;", false)
  | _ => ("java/util/ArrayList", "size", "I", false)
def tyJx4a65c : Nat → FieldType := fun k => match k with
  | 0 => .int
  | 1 => .array (.object "java/lang/Object")
  | _ => .int
abbrev wsJx4a65c0 : List Cond := u_ws RJx4a65c TJx4a65c 3
theorem nmJx4a65c : ∀ a, a < 3 → ∀ b, b < 3 → a ≠ b → (TJx4a65c a).2.1 ≠ (TJx4a65c b).2.1 := by decide +kernel
theorem tyJx4a65c_ok : ∀ k, k < 3 → parseFieldDescriptor (TJx4a65c k).2.2.1 = some (tyJx4a65c k) := by decide +kernel
abbrev cJx4a65c_init_da8c8 : ByteArray := prog_24_method_2_code
def yJx4a65c_init_da8c8 : MethodName := ⟨RJx4a65c, "<init>", "()V"⟩
abbrev cJx4a65c_grow_92f84 : ByteArray := prog_24_method_6_code
def yJx4a65c_grow_92f84 : MethodName := ⟨RJx4a65c, "grow", "(I)[Ljava/lang/Object;"⟩
abbrev cJx4a65c_grow_d5877 : ByteArray := prog_24_method_7_code
def yJx4a65c_grow_d5877 : MethodName := ⟨RJx4a65c, "grow", "()[Ljava/lang/Object;"⟩
abbrev cJx4a65c_size_8abf5 : ByteArray := prog_24_method_8_code
def yJx4a65c_size_8abf5 : MethodName := ⟨RJx4a65c, "size", "()I"⟩
abbrev cJx4a65c_elementData_915e3 : ByteArray := prog_24_method_18_code
def yJx4a65c_elementData_915e3 : MethodName := ⟨RJx4a65c, "elementData", "(I)Ljava/lang/Object;"⟩
abbrev cJx4a65c_get_915e3 : ByteArray := prog_24_method_20_code
def yJx4a65c_get_915e3 : MethodName := ⟨RJx4a65c, "get", "(I)Ljava/lang/Object;"⟩
abbrev cJx4a65c_set_bcc79 : ByteArray := prog_24_method_23_code
def yJx4a65c_set_bcc79 : MethodName := ⟨RJx4a65c, "set", "(ILjava/lang/Object;)Ljava/lang/Object;"⟩
abbrev cJx4a65c_add_72be8 : ByteArray := prog_24_method_24_code
def yJx4a65c_add_72be8 : MethodName := ⟨RJx4a65c, "add", "(Ljava/lang/Object;[Ljava/lang/Object;I)V"⟩
abbrev cJx4a65c_add_9ea2d : ByteArray := prog_24_method_25_code
def yJx4a65c_add_9ea2d : MethodName := ⟨RJx4a65c, "add", "(Ljava/lang/Object;)Z"⟩
abbrev cJx4a65c_remove_915e3 : ByteArray := prog_24_method_29_code
def yJx4a65c_remove_915e3 : MethodName := ⟨RJx4a65c, "remove", "(I)Ljava/lang/Object;"⟩
abbrev cJx4a65c_fastRemove_b59b0 : ByteArray := prog_24_method_39_code
def yJx4a65c_fastRemove_b59b0 : MethodName := ⟨RJx4a65c, "fastRemove", "([Ljava/lang/Object;I)V"⟩
abbrev cJx4a65c_clear_da8c8 : ByteArray := prog_24_method_40_code
def yJx4a65c_clear_da8c8 : MethodName := ⟨RJx4a65c, "clear", "()V"⟩
def RJ7 : String := "java/util/Arrays"
def TJ7 : u_T := fun k => match k with
  | _ => ("", "", "", false)
def tyJ7 : Nat → FieldType := fun k => match k with
  | _ => .int
abbrev wsJ70 : List Cond := u_ws RJ7 TJ7 0
theorem nmJ7 : ∀ a, a < 0 → ∀ b, b < 0 → a ≠ b → (TJ7 a).2.1 ≠ (TJ7 b).2.1 := by decide +kernel
theorem tyJ7_ok : ∀ k, k < 0 → parseFieldDescriptor (TJ7 k).2.2.1 = some (tyJ7 k) := by decide +kernel
abbrev cJ7_copyOf_1904c : ByteArray := prog_25_method_119_code
def yJ7_copyOf_1904c : MethodName := ⟨RJ7, "copyOf", "([Ljava/lang/Object;I)[Ljava/lang/Object;"⟩
abbrev cJ7_copyOf_6403c : ByteArray := prog_25_method_120_code
def yJ7_copyOf_6403c : MethodName := ⟨RJ7, "copyOf", "([Ljava/lang/Object;ILjava/lang/Class;)[Ljava/lang/Object;"⟩
def RJx5ef63 : String := "java/util/Collection"
def TJx5ef63 : u_T := fun k => match k with
  | _ => ("", "", "", false)
def tyJx5ef63 : Nat → FieldType := fun k => match k with
  | _ => .int
abbrev wsJx5ef630 : List Cond := u_ws RJx5ef63 TJx5ef63 0
theorem nmJx5ef63 : ∀ a, a < 0 → ∀ b, b < 0 → a ≠ b → (TJx5ef63 a).2.1 ≠ (TJx5ef63 b).2.1 := by decide +kernel
theorem tyJx5ef63_ok : ∀ k, k < 0 → parseFieldDescriptor (TJx5ef63 k).2.2.1 = some (tyJx5ef63 k) := by decide +kernel
def RJxbd725 : String := "java/util/List"
def TJxbd725 : u_T := fun k => match k with
  | _ => ("", "", "", false)
def tyJxbd725 : Nat → FieldType := fun k => match k with
  | _ => .int
abbrev wsJxbd7250 : List Cond := u_ws RJxbd725 TJxbd725 0
theorem nmJxbd725 : ∀ a, a < 0 → ∀ b, b < 0 → a ≠ b → (TJxbd725 a).2.1 ≠ (TJxbd725 b).2.1 := by decide +kernel
theorem tyJxbd725_ok : ∀ k, k < 0 → parseFieldDescriptor (TJxbd725 k).2.2.1 = some (tyJxbd725 k) := by decide +kernel
def RJ15 : String := "java/util/Objects"
def TJ15 : u_T := fun k => match k with
  | _ => ("", "", "", false)
def tyJ15 : Nat → FieldType := fun k => match k with
  | _ => .int
abbrev wsJ150 : List Cond := u_ws RJ15 TJ15 0
theorem nmJ15 : ∀ a, a < 0 → ∀ b, b < 0 → a ≠ b → (TJ15 a).2.1 ≠ (TJ15 b).2.1 := by decide +kernel
theorem tyJ15_ok : ∀ k, k < 0 → parseFieldDescriptor (TJ15 k).2.2.1 = some (tyJ15 k) := by decide +kernel
abbrev cJ15_checkIndex_7cf53 : ByteArray := prog_28_method_17_code
def yJ15_checkIndex_7cf53 : MethodName := ⟨RJ15, "checkIndex", "(II)I"⟩
def RJxf0a74 : String := "java/util/RandomAccess"
def TJxf0a74 : u_T := fun k => match k with
  | _ => ("", "", "", false)
def tyJxf0a74 : Nat → FieldType := fun k => match k with
  | _ => .int
abbrev wsJxf0a740 : List Cond := u_ws RJxf0a74 TJxf0a74 0
theorem nmJxf0a74 : ∀ a, a < 0 → ∀ b, b < 0 → a ≠ b → (TJxf0a74 a).2.1 ≠ (TJxf0a74 b).2.1 := by decide +kernel
theorem tyJxf0a74_ok : ∀ k, k < 0 → parseFieldDescriptor (TJxf0a74 k).2.2.1 = some (tyJxf0a74 k) := by decide +kernel
def RJxa66e6 : String := "java/util/SequencedCollection"
def TJxa66e6 : u_T := fun k => match k with
  | _ => ("", "", "", false)
def tyJxa66e6 : Nat → FieldType := fun k => match k with
  | _ => .int
abbrev wsJxa66e60 : List Cond := u_ws RJxa66e6 TJxa66e6 0
theorem nmJxa66e6 : ∀ a, a < 0 → ∀ b, b < 0 → a ≠ b → (TJxa66e6 a).2.1 ≠ (TJxa66e6 b).2.1 := by decide +kernel
theorem tyJxa66e6_ok : ∀ k, k < 0 → parseFieldDescriptor (TJxa66e6 k).2.2.1 = some (tyJxa66e6 k) := by decide +kernel
def RJ8 : String := "jdk/internal/util/ArraysSupport"
def TJ8 : u_T := fun k => match k with
  | _ => ("", "", "", false)
def tyJ8 : Nat → FieldType := fun k => match k with
  | _ => .int
abbrev wsJ80 : List Cond := u_ws RJ8 TJ8 0
theorem nmJ8 : ∀ a, a < 0 → ∀ b, b < 0 → a ≠ b → (TJ8 a).2.1 ≠ (TJ8 b).2.1 := by decide +kernel
theorem tyJ8_ok : ∀ k, k < 0 → parseFieldDescriptor (TJ8 k).2.2.1 = some (tyJ8 k) := by decide +kernel
abbrev cJ8_newLength_cabcc : ByteArray := prog_31_method_27_code
def yJ8_newLength_cabcc : MethodName := ⟨RJ8, "newLength", "(III)I"⟩
abbrev cJ8_hugeLength_7cf53 : ByteArray := prog_31_method_28_code
def yJ8_hugeLength_7cf53 : MethodName := ⟨RJ8, "hugeLength", "(II)I"⟩
def RJ3 : String := "jdk/internal/util/Preconditions"
def TJ3 : u_T := fun k => match k with
  | _ => ("", "", "", false)
def tyJ3 : Nat → FieldType := fun k => match k with
  | _ => .int
abbrev wsJ30 : List Cond := u_ws RJ3 TJ3 0
theorem nmJ3 : ∀ a, a < 0 → ∀ b, b < 0 → a ≠ b → (TJ3 a).2.1 ≠ (TJ3 b).2.1 := by decide +kernel
theorem tyJ3_ok : ∀ k, k < 0 → parseFieldDescriptor (TJ3 k).2.2.1 = some (tyJ3 k) := by decide +kernel
abbrev cJ3_checkIndex_8e157 : ByteArray := prog_32_method_11_code
def yJ3_checkIndex_8e157 : MethodName := ⟨RJ3, "checkIndex", "(IILjava/util/function/BiFunction;)I"⟩
def RL : String := "TitleFinderLaw"
abbrev cL_law : ByteArray := code
def yL_law : MethodName := ⟨RL, "law", "([I)Z"⟩
abbrev vwCl : List vw_C := [(RJx4a65c, TJx4a65c, 3), (RX0, TX0, 3), (RX1, TX1, 3), (RX2, TX2, 5), (RX3, TX3, 5), (RX4, TX4, 7), (RX5, TX5, 3), (RX6, TX6, 6), (RX7, TX7, 22)]
/-- the tables' words that every method may take along -/
def BIG : List Cond := lw_tbl.filter goodWord
theorem big_good : ∀ w ∈ BIG, (w.onTables && w.keeps) = true ∨ ∃ ty, w = .arrayClass ty := fun w h => good_of_word (List.mem_filter.mp h).2
theorem bw (i : Nat) {w : Cond} (h : lw_tbl[i]? = some w) (hg : goodWord w = true) : w ∈ BIG := List.mem_filter.mpr ⟨List.mem_of_getElem? h, hg⟩
end
section
theorem dX0_init_0 : decode cX0_init 0 = .ok (.aload_n 0, 1) := by decide +kernel
theorem dX0_init_1 : decode cX0_init 1 = .ok (.invokespecial 3, 3) := by decide +kernel
theorem dX0_init_4 : decode cX0_init 4 = .ok (.aload_n 0, 1) := by decide +kernel
theorem dX0_init_5 : decode cX0_init 5 = .ok (.bipush 6, 2) := by decide +kernel
theorem dX0_init_7 : decode cX0_init 7 = .ok (.anewarray 9, 3) := by decide +kernel
theorem dX0_init_10 : decode cX0_init 10 = .ok (.putfield 11, 3) := by decide +kernel
theorem dX0_init_13 : decode cX0_init 13 = .ok (.iconst 0, 1) := by decide +kernel
theorem dX0_init_14 : decode cX0_init 14 = .ok (.istore_n 1, 1) := by decide +kernel
theorem dX0_init_15 : decode cX0_init 15 = .ok (.iload_n 1, 1) := by decide +kernel
theorem dX0_init_16 : decode cX0_init 16 = .ok (.aload_n 0, 1) := by decide +kernel
theorem dX0_init_17 : decode cX0_init 17 = .ok (.getfield 11, 3) := by decide +kernel
theorem dX0_init_20 : decode cX0_init 20 = .ok (.arraylength, 1) := by decide +kernel
theorem dX0_init_21 : decode cX0_init 21 = .ok (.if_icmp .ge 22, 3) := by decide +kernel
theorem dX0_init_24 : decode cX0_init 24 = .ok (.aload_n 0, 1) := by decide +kernel
theorem dX0_init_25 : decode cX0_init 25 = .ok (.getfield 11, 3) := by decide +kernel
theorem dX0_init_28 : decode cX0_init 28 = .ok (.iload_n 1, 1) := by decide +kernel
theorem dX0_init_29 : decode cX0_init 29 = .ok (.new 9, 3) := by decide +kernel
theorem dX0_init_32 : decode cX0_init 32 = .ok (.dup, 1) := by decide +kernel
theorem dX0_init_33 : decode cX0_init 33 = .ok (.invokespecial 17, 3) := by decide +kernel
theorem dX0_init_36 : decode cX0_init 36 = .ok (.aastore, 1) := by decide +kernel
theorem dX0_init_37 : decode cX0_init 37 = .ok (.iinc 1 1, 3) := by decide +kernel
theorem dX0_init_40 : decode cX0_init 40 = .ok (.goto (-25), 3) := by decide +kernel
theorem dX0_init_43 : decode cX0_init 43 = .ok (.return_, 1) := by decide +kernel
theorem dX0_save_0 : decode cX0_save 0 = .ok (.aload_n 0, 1) := by decide +kernel
theorem dX0_save_1 : decode cX0_save 1 = .ok (.aload_n 0, 1) := by decide +kernel
theorem dX0_save_2 : decode cX0_save 2 = .ok (.getfield 18, 3) := by decide +kernel
theorem dX0_save_5 : decode cX0_save 5 = .ok (.iconst 1, 1) := by decide +kernel
theorem dX0_save_6 : decode cX0_save 6 = .ok (.iadd, 1) := by decide +kernel
theorem dX0_save_7 : decode cX0_save 7 = .ok (.aload_n 0, 1) := by decide +kernel
theorem dX0_save_8 : decode cX0_save 8 = .ok (.getfield 11, 3) := by decide +kernel
theorem dX0_save_11 : decode cX0_save 11 = .ok (.arraylength, 1) := by decide +kernel
theorem dX0_save_12 : decode cX0_save 12 = .ok (.if_icmp .ge 12, 3) := by decide +kernel
theorem dX0_save_15 : decode cX0_save 15 = .ok (.aload_n 0, 1) := by decide +kernel
theorem dX0_save_16 : decode cX0_save 16 = .ok (.getfield 18, 3) := by decide +kernel
theorem dX0_save_19 : decode cX0_save 19 = .ok (.iconst 1, 1) := by decide +kernel
theorem dX0_save_20 : decode cX0_save 20 = .ok (.iadd, 1) := by decide +kernel
theorem dX0_save_21 : decode cX0_save 21 = .ok (.goto 4, 3) := by decide +kernel
theorem dX0_save_24 : decode cX0_save 24 = .ok (.iconst 0, 1) := by decide +kernel
theorem dX0_save_25 : decode cX0_save 25 = .ok (.putfield 18, 3) := by decide +kernel
theorem dX0_save_28 : decode cX0_save 28 = .ok (.aload_n 0, 1) := by decide +kernel
theorem dX0_save_29 : decode cX0_save 29 = .ok (.getfield 11, 3) := by decide +kernel
theorem dX0_save_32 : decode cX0_save 32 = .ok (.aload_n 0, 1) := by decide +kernel
theorem dX0_save_33 : decode cX0_save 33 = .ok (.getfield 18, 3) := by decide +kernel
theorem dX0_save_36 : decode cX0_save 36 = .ok (.aaload, 1) := by decide +kernel
theorem dX0_save_37 : decode cX0_save 37 = .ok (.aload_n 1, 1) := by decide +kernel
theorem dX0_save_38 : decode cX0_save 38 = .ok (.invokevirtual 22, 3) := by decide +kernel
theorem dX0_save_41 : decode cX0_save 41 = .ok (.aload_n 0, 1) := by decide +kernel
theorem dX0_save_42 : decode cX0_save 42 = .ok (.aload_n 0, 1) := by decide +kernel
theorem dX0_save_43 : decode cX0_save 43 = .ok (.getfield 26, 3) := by decide +kernel
theorem dX0_save_46 : decode cX0_save 46 = .ok (.iconst 1, 1) := by decide +kernel
theorem dX0_save_47 : decode cX0_save 47 = .ok (.iadd, 1) := by decide +kernel
theorem dX0_save_48 : decode cX0_save 48 = .ok (.aload_n 0, 1) := by decide +kernel
theorem dX0_save_49 : decode cX0_save 49 = .ok (.getfield 11, 3) := by decide +kernel
theorem dX0_save_52 : decode cX0_save 52 = .ok (.arraylength, 1) := by decide +kernel
theorem dX0_save_53 : decode cX0_save 53 = .ok (.invokestatic 29, 3) := by decide +kernel
theorem dX0_save_56 : decode cX0_save 56 = .ok (.putfield 26, 3) := by decide +kernel
theorem dX0_save_59 : decode cX0_save 59 = .ok (.return_, 1) := by decide +kernel
theorem dX0_restore_0 : decode cX0_restore 0 = .ok (.aload_n 1, 1) := by decide +kernel
theorem dX0_restore_1 : decode cX0_restore 1 = .ok (.aload_n 0, 1) := by decide +kernel
theorem dX0_restore_2 : decode cX0_restore 2 = .ok (.getfield 11, 3) := by decide +kernel
theorem dX0_restore_5 : decode cX0_restore 5 = .ok (.aload_n 0, 1) := by decide +kernel
theorem dX0_restore_6 : decode cX0_restore 6 = .ok (.getfield 18, 3) := by decide +kernel
theorem dX0_restore_9 : decode cX0_restore 9 = .ok (.aaload, 1) := by decide +kernel
theorem dX0_restore_10 : decode cX0_restore 10 = .ok (.invokevirtual 22, 3) := by decide +kernel
theorem dX0_restore_13 : decode cX0_restore 13 = .ok (.aload_n 0, 1) := by decide +kernel
theorem dX0_restore_14 : decode cX0_restore 14 = .ok (.aload_n 0, 1) := by decide +kernel
theorem dX0_restore_15 : decode cX0_restore 15 = .ok (.getfield 18, 3) := by decide +kernel
theorem dX0_restore_18 : decode cX0_restore 18 = .ok (.ifCond .le 12, 3) := by decide +kernel
theorem dX0_restore_21 : decode cX0_restore 21 = .ok (.aload_n 0, 1) := by decide +kernel
theorem dX0_restore_22 : decode cX0_restore 22 = .ok (.getfield 18, 3) := by decide +kernel
theorem dX0_restore_25 : decode cX0_restore 25 = .ok (.iconst 1, 1) := by decide +kernel
theorem dX0_restore_26 : decode cX0_restore 26 = .ok (.isub, 1) := by decide +kernel
theorem dX0_restore_27 : decode cX0_restore 27 = .ok (.goto 10, 3) := by decide +kernel
theorem dX0_restore_30 : decode cX0_restore 30 = .ok (.aload_n 0, 1) := by decide +kernel
theorem dX0_restore_31 : decode cX0_restore 31 = .ok (.getfield 11, 3) := by decide +kernel
theorem dX0_restore_34 : decode cX0_restore 34 = .ok (.arraylength, 1) := by decide +kernel
theorem dX0_restore_35 : decode cX0_restore 35 = .ok (.iconst 1, 1) := by decide +kernel
theorem dX0_restore_36 : decode cX0_restore 36 = .ok (.isub, 1) := by decide +kernel
theorem dX0_restore_37 : decode cX0_restore 37 = .ok (.putfield 18, 3) := by decide +kernel
theorem dX0_restore_40 : decode cX0_restore 40 = .ok (.aload_n 0, 1) := by decide +kernel
theorem dX0_restore_41 : decode cX0_restore 41 = .ok (.dup, 1) := by decide +kernel
theorem dX0_restore_42 : decode cX0_restore 42 = .ok (.getfield 26, 3) := by decide +kernel
theorem dX0_restore_45 : decode cX0_restore 45 = .ok (.iconst 1, 1) := by decide +kernel
theorem dX0_restore_46 : decode cX0_restore 46 = .ok (.isub, 1) := by decide +kernel
theorem dX0_restore_47 : decode cX0_restore 47 = .ok (.putfield 26, 3) := by decide +kernel
theorem dX0_restore_50 : decode cX0_restore 50 = .ok (.return_, 1) := by decide +kernel
theorem dX1_init_0 : decode cX1_init 0 = .ok (.aload_n 0, 1) := by decide +kernel
theorem dX1_init_1 : decode cX1_init 1 = .ok (.invokespecial 3, 3) := by decide +kernel
theorem dX1_init_4 : decode cX1_init 4 = .ok (.aload_n 0, 1) := by decide +kernel
theorem dX1_init_5 : decode cX1_init 5 = .ok (.bipush 16, 2) := by decide +kernel
theorem dX1_init_7 : decode cX1_init 7 = .ok (.newarray .int, 2) := by decide +kernel
theorem dX1_init_9 : decode cX1_init 9 = .ok (.putfield 9, 3) := by decide +kernel
theorem dX1_init_12 : decode cX1_init 12 = .ok (.aload_n 0, 1) := by decide +kernel
theorem dX1_init_13 : decode cX1_init 13 = .ok (.bipush 16, 2) := by decide +kernel
theorem dX1_init_15 : decode cX1_init 15 = .ok (.newarray .int, 2) := by decide +kernel
theorem dX1_init_17 : decode cX1_init 17 = .ok (.putfield 15, 3) := by decide +kernel
theorem dX1_init_20 : decode cX1_init 20 = .ok (.return_, 1) := by decide +kernel
theorem dX1_rank_0 : decode cX1_rank 0 = .ok (.aload_n 0, 1) := by decide +kernel
theorem dX1_rank_1 : decode cX1_rank 1 = .ok (.iconst 0, 1) := by decide +kernel
theorem dX1_rank_2 : decode cX1_rank 2 = .ok (.putfield 18, 3) := by decide +kernel
theorem dX1_rank_5 : decode cX1_rank 5 = .ok (.iconst 0, 1) := by decide +kernel
theorem dX1_rank_6 : decode cX1_rank 6 = .ok (.istore_n 2, 1) := by decide +kernel
theorem dX1_rank_7 : decode cX1_rank 7 = .ok (.iload_n 2, 1) := by decide +kernel
theorem dX1_rank_8 : decode cX1_rank 8 = .ok (.aload_n 1, 1) := by decide +kernel
theorem dX1_rank_9 : decode cX1_rank 9 = .ok (.getfield 22, 3) := by decide +kernel
theorem dX1_rank_12 : decode cX1_rank 12 = .ok (.invokevirtual 28, 3) := by decide +kernel
theorem dX1_rank_15 : decode cX1_rank 15 = .ok (.if_icmp .ge 38, 3) := by decide +kernel
theorem dX1_rank_18 : decode cX1_rank 18 = .ok (.aload_n 1, 1) := by decide +kernel
theorem dX1_rank_19 : decode cX1_rank 19 = .ok (.iload_n 2, 1) := by decide +kernel
theorem dX1_rank_20 : decode cX1_rank 20 = .ok (.invokevirtual 34, 3) := by decide +kernel
theorem dX1_rank_23 : decode cX1_rank 23 = .ok (.istore_n 3, 1) := by decide +kernel
theorem dX1_rank_24 : decode cX1_rank 24 = .ok (.iload_n 3, 1) := by decide +kernel
theorem dX1_rank_25 : decode cX1_rank 25 = .ok (.ifCond .lt 22, 3) := by decide +kernel
theorem dX1_rank_28 : decode cX1_rank 28 = .ok (.aload_n 0, 1) := by decide +kernel
theorem dX1_rank_29 : decode cX1_rank 29 = .ok (.getfield 18, 3) := by decide +kernel
theorem dX1_rank_32 : decode cX1_rank 32 = .ok (.aload_n 0, 1) := by decide +kernel
theorem dX1_rank_33 : decode cX1_rank 33 = .ok (.getfield 9, 3) := by decide +kernel
theorem dX1_rank_36 : decode cX1_rank 36 = .ok (.arraylength, 1) := by decide +kernel
theorem dX1_rank_37 : decode cX1_rank 37 = .ok (.if_icmp .ge 10, 3) := by decide +kernel
theorem dX1_rank_40 : decode cX1_rank 40 = .ok (.aload_n 0, 1) := by decide +kernel
theorem dX1_rank_41 : decode cX1_rank 41 = .ok (.aload_n 1, 1) := by decide +kernel
theorem dX1_rank_42 : decode cX1_rank 42 = .ok (.iload_n 2, 1) := by decide +kernel
theorem dX1_rank_43 : decode cX1_rank 43 = .ok (.iload_n 3, 1) := by decide +kernel
theorem dX1_rank_44 : decode cX1_rank 44 = .ok (.invokevirtual 38, 3) := by decide +kernel
theorem dX1_rank_47 : decode cX1_rank 47 = .ok (.iinc 2 1, 3) := by decide +kernel
theorem dX1_rank_50 : decode cX1_rank 50 = .ok (.goto (-43), 3) := by decide +kernel
theorem dX1_rank_53 : decode cX1_rank 53 = .ok (.return_, 1) := by decide +kernel
theorem dX1_insert_0 : decode cX1_insert 0 = .ok (.aload_n 0, 1) := by decide +kernel
theorem dX1_insert_1 : decode cX1_insert 1 = .ok (.getfield 18, 3) := by decide +kernel
theorem dX1_insert_4 : decode cX1_insert 4 = .ok (.istore 4, 2) := by decide +kernel
theorem dX1_insert_6 : decode cX1_insert 6 = .ok (.iload 4, 2) := by decide +kernel
theorem dX1_insert_8 : decode cX1_insert 8 = .ok (.ifCond .le 68, 3) := by decide +kernel
theorem dX1_insert_11 : decode cX1_insert 11 = .ok (.aload_n 1, 1) := by decide +kernel
theorem dX1_insert_12 : decode cX1_insert 12 = .ok (.iload_n 2, 1) := by decide +kernel
theorem dX1_insert_13 : decode cX1_insert 13 = .ok (.iload_n 3, 1) := by decide +kernel
theorem dX1_insert_14 : decode cX1_insert 14 = .ok (.aload_n 0, 1) := by decide +kernel
theorem dX1_insert_15 : decode cX1_insert 15 = .ok (.getfield 9, 3) := by decide +kernel
theorem dX1_insert_18 : decode cX1_insert 18 = .ok (.iload 4, 2) := by decide +kernel
theorem dX1_insert_20 : decode cX1_insert 20 = .ok (.iconst 1, 1) := by decide +kernel
theorem dX1_insert_21 : decode cX1_insert 21 = .ok (.isub, 1) := by decide +kernel
theorem dX1_insert_22 : decode cX1_insert 22 = .ok (.iaload, 1) := by decide +kernel
theorem dX1_insert_23 : decode cX1_insert 23 = .ok (.aload_n 0, 1) := by decide +kernel
theorem dX1_insert_24 : decode cX1_insert 24 = .ok (.getfield 15, 3) := by decide +kernel
theorem dX1_insert_27 : decode cX1_insert 27 = .ok (.iload 4, 2) := by decide +kernel
theorem dX1_insert_29 : decode cX1_insert 29 = .ok (.iconst 1, 1) := by decide +kernel
theorem dX1_insert_30 : decode cX1_insert 30 = .ok (.isub, 1) := by decide +kernel
theorem dX1_insert_31 : decode cX1_insert 31 = .ok (.iaload, 1) := by decide +kernel
theorem dX1_insert_32 : decode cX1_insert 32 = .ok (.invokevirtual 42, 3) := by decide +kernel
theorem dX1_insert_35 : decode cX1_insert 35 = .ok (.ifCond .eq 41, 3) := by decide +kernel
theorem dX1_insert_38 : decode cX1_insert 38 = .ok (.aload_n 0, 1) := by decide +kernel
theorem dX1_insert_39 : decode cX1_insert 39 = .ok (.getfield 9, 3) := by decide +kernel
theorem dX1_insert_42 : decode cX1_insert 42 = .ok (.iload 4, 2) := by decide +kernel
theorem dX1_insert_44 : decode cX1_insert 44 = .ok (.aload_n 0, 1) := by decide +kernel
theorem dX1_insert_45 : decode cX1_insert 45 = .ok (.getfield 9, 3) := by decide +kernel
theorem dX1_insert_48 : decode cX1_insert 48 = .ok (.iload 4, 2) := by decide +kernel
theorem dX1_insert_50 : decode cX1_insert 50 = .ok (.iconst 1, 1) := by decide +kernel
theorem dX1_insert_51 : decode cX1_insert 51 = .ok (.isub, 1) := by decide +kernel
theorem dX1_insert_52 : decode cX1_insert 52 = .ok (.iaload, 1) := by decide +kernel
theorem dX1_insert_53 : decode cX1_insert 53 = .ok (.iastore, 1) := by decide +kernel
theorem dX1_insert_54 : decode cX1_insert 54 = .ok (.aload_n 0, 1) := by decide +kernel
theorem dX1_insert_55 : decode cX1_insert 55 = .ok (.getfield 15, 3) := by decide +kernel
theorem dX1_insert_58 : decode cX1_insert 58 = .ok (.iload 4, 2) := by decide +kernel
theorem dX1_insert_60 : decode cX1_insert 60 = .ok (.aload_n 0, 1) := by decide +kernel
theorem dX1_insert_61 : decode cX1_insert 61 = .ok (.getfield 15, 3) := by decide +kernel
theorem dX1_insert_64 : decode cX1_insert 64 = .ok (.iload 4, 2) := by decide +kernel
theorem dX1_insert_66 : decode cX1_insert 66 = .ok (.iconst 1, 1) := by decide +kernel
theorem dX1_insert_67 : decode cX1_insert 67 = .ok (.isub, 1) := by decide +kernel
theorem dX1_insert_68 : decode cX1_insert 68 = .ok (.iaload, 1) := by decide +kernel
theorem dX1_insert_69 : decode cX1_insert 69 = .ok (.iastore, 1) := by decide +kernel
theorem dX1_insert_70 : decode cX1_insert 70 = .ok (.iinc 4 (-1), 3) := by decide +kernel
theorem dX1_insert_73 : decode cX1_insert 73 = .ok (.goto (-67), 3) := by decide +kernel
theorem dX1_insert_76 : decode cX1_insert 76 = .ok (.aload_n 0, 1) := by decide +kernel
theorem dX1_insert_77 : decode cX1_insert 77 = .ok (.getfield 9, 3) := by decide +kernel
theorem dX1_insert_80 : decode cX1_insert 80 = .ok (.iload 4, 2) := by decide +kernel
theorem dX1_insert_82 : decode cX1_insert 82 = .ok (.iload_n 2, 1) := by decide +kernel
theorem dX1_insert_83 : decode cX1_insert 83 = .ok (.iastore, 1) := by decide +kernel
theorem dX1_insert_84 : decode cX1_insert 84 = .ok (.aload_n 0, 1) := by decide +kernel
theorem dX1_insert_85 : decode cX1_insert 85 = .ok (.getfield 15, 3) := by decide +kernel
theorem dX1_insert_88 : decode cX1_insert 88 = .ok (.iload 4, 2) := by decide +kernel
theorem dX1_insert_90 : decode cX1_insert 90 = .ok (.iload_n 3, 1) := by decide +kernel
theorem dX1_insert_91 : decode cX1_insert 91 = .ok (.iastore, 1) := by decide +kernel
theorem dX1_insert_92 : decode cX1_insert 92 = .ok (.aload_n 0, 1) := by decide +kernel
theorem dX1_insert_93 : decode cX1_insert 93 = .ok (.dup, 1) := by decide +kernel
theorem dX1_insert_94 : decode cX1_insert 94 = .ok (.getfield 18, 3) := by decide +kernel
theorem dX1_insert_97 : decode cX1_insert 97 = .ok (.iconst 1, 1) := by decide +kernel
theorem dX1_insert_98 : decode cX1_insert 98 = .ok (.iadd, 1) := by decide +kernel
theorem dX1_insert_99 : decode cX1_insert 99 = .ok (.putfield 18, 3) := by decide +kernel
theorem dX1_insert_102 : decode cX1_insert 102 = .ok (.return_, 1) := by decide +kernel
theorem dX1_has_0 : decode cX1_has 0 = .ok (.iload_n 1, 1) := by decide +kernel
theorem dX1_has_1 : decode cX1_has 1 = .ok (.ifCond .lt 24, 3) := by decide +kernel
theorem dX1_has_4 : decode cX1_has 4 = .ok (.iload_n 1, 1) := by decide +kernel
theorem dX1_has_5 : decode cX1_has 5 = .ok (.aload_n 0, 1) := by decide +kernel
theorem dX1_has_6 : decode cX1_has 6 = .ok (.getfield 18, 3) := by decide +kernel
theorem dX1_has_9 : decode cX1_has 9 = .ok (.if_icmp .ge 16, 3) := by decide +kernel
theorem dX1_has_12 : decode cX1_has 12 = .ok (.iload_n 1, 1) := by decide +kernel
theorem dX1_has_13 : decode cX1_has 13 = .ok (.aload_n 0, 1) := by decide +kernel
theorem dX1_has_14 : decode cX1_has 14 = .ok (.getfield 9, 3) := by decide +kernel
theorem dX1_has_17 : decode cX1_has 17 = .ok (.arraylength, 1) := by decide +kernel
theorem dX1_has_18 : decode cX1_has 18 = .ok (.if_icmp .ge 7, 3) := by decide +kernel
theorem dX1_has_21 : decode cX1_has 21 = .ok (.iconst 1, 1) := by decide +kernel
theorem dX1_has_22 : decode cX1_has 22 = .ok (.goto 4, 3) := by decide +kernel
theorem dX1_has_25 : decode cX1_has 25 = .ok (.iconst 0, 1) := by decide +kernel
theorem dX1_has_26 : decode cX1_has 26 = .ok (.ireturn, 1) := by decide +kernel
theorem dX1_titleAt_0 : decode cX1_titleAt 0 = .ok (.aload_n 0, 1) := by decide +kernel
theorem dX1_titleAt_1 : decode cX1_titleAt 1 = .ok (.iload_n 1, 1) := by decide +kernel
theorem dX1_titleAt_2 : decode cX1_titleAt 2 = .ok (.invokevirtual 46, 3) := by decide +kernel
theorem dX1_titleAt_5 : decode cX1_titleAt 5 = .ok (.ifCond .eq 12, 3) := by decide +kernel
theorem dX1_titleAt_8 : decode cX1_titleAt 8 = .ok (.aload_n 0, 1) := by decide +kernel
theorem dX1_titleAt_9 : decode cX1_titleAt 9 = .ok (.getfield 9, 3) := by decide +kernel
theorem dX1_titleAt_12 : decode cX1_titleAt 12 = .ok (.iload_n 1, 1) := by decide +kernel
theorem dX1_titleAt_13 : decode cX1_titleAt 13 = .ok (.iaload, 1) := by decide +kernel
theorem dX1_titleAt_14 : decode cX1_titleAt 14 = .ok (.goto 4, 3) := by decide +kernel
theorem dX1_titleAt_17 : decode cX1_titleAt 17 = .ok (.iconst (-1), 1) := by decide +kernel
theorem dX1_titleAt_18 : decode cX1_titleAt 18 = .ok (.ireturn, 1) := by decide +kernel
theorem dX1_placeAt_0 : decode cX1_placeAt 0 = .ok (.aload_n 0, 1) := by decide +kernel
theorem dX1_placeAt_1 : decode cX1_placeAt 1 = .ok (.iload_n 1, 1) := by decide +kernel
theorem dX1_placeAt_2 : decode cX1_placeAt 2 = .ok (.invokevirtual 46, 3) := by decide +kernel
theorem dX1_placeAt_5 : decode cX1_placeAt 5 = .ok (.ifCond .eq 12, 3) := by decide +kernel
theorem dX1_placeAt_8 : decode cX1_placeAt 8 = .ok (.aload_n 0, 1) := by decide +kernel
theorem dX1_placeAt_9 : decode cX1_placeAt 9 = .ok (.getfield 15, 3) := by decide +kernel
theorem dX1_placeAt_12 : decode cX1_placeAt 12 = .ok (.iload_n 1, 1) := by decide +kernel
theorem dX1_placeAt_13 : decode cX1_placeAt 13 = .ok (.iaload, 1) := by decide +kernel
theorem dX1_placeAt_14 : decode cX1_placeAt 14 = .ok (.goto 4, 3) := by decide +kernel
theorem dX1_placeAt_17 : decode cX1_placeAt 17 = .ok (.iconst (-1), 1) := by decide +kernel
theorem dX1_placeAt_18 : decode cX1_placeAt 18 = .ok (.ireturn, 1) := by decide +kernel
theorem dX2_init_0 : decode cX2_init 0 = .ok (.aload_n 0, 1) := by decide +kernel
theorem dX2_init_1 : decode cX2_init 1 = .ok (.invokespecial 3, 3) := by decide +kernel
theorem dX2_init_4 : decode cX2_init 4 = .ok (.aload_n 0, 1) := by decide +kernel
theorem dX2_init_5 : decode cX2_init 5 = .ok (.new 9, 3) := by decide +kernel
theorem dX2_init_8 : decode cX2_init 8 = .ok (.dup, 1) := by decide +kernel
theorem dX2_init_9 : decode cX2_init 9 = .ok (.invokespecial 11, 3) := by decide +kernel
theorem dX2_init_12 : decode cX2_init 12 = .ok (.putfield 12, 3) := by decide +kernel
theorem dX2_init_15 : decode cX2_init 15 = .ok (.aload_n 0, 1) := by decide +kernel
theorem dX2_init_16 : decode cX2_init 16 = .ok (.bipush 24, 2) := by decide +kernel
theorem dX2_init_18 : decode cX2_init 18 = .ok (.newarray .char, 2) := by decide +kernel
theorem dX2_init_20 : decode cX2_init 20 = .ok (.putfield 18, 3) := by decide +kernel
theorem dX2_init_23 : decode cX2_init 23 = .ok (.return_, 1) := by decide +kernel
theorem dX2_copyFrom_0 : decode cX2_copyFrom 0 = .ok (.aload_n 0, 1) := by decide +kernel
theorem dX2_copyFrom_1 : decode cX2_copyFrom 1 = .ok (.getfield 12, 3) := by decide +kernel
theorem dX2_copyFrom_4 : decode cX2_copyFrom 4 = .ok (.invokevirtual 22, 3) := by decide +kernel
theorem dX2_copyFrom_7 : decode cX2_copyFrom 7 = .ok (.iconst 0, 1) := by decide +kernel
theorem dX2_copyFrom_8 : decode cX2_copyFrom 8 = .ok (.istore_n 2, 1) := by decide +kernel
theorem dX2_copyFrom_9 : decode cX2_copyFrom 9 = .ok (.iload_n 2, 1) := by decide +kernel
theorem dX2_copyFrom_10 : decode cX2_copyFrom 10 = .ok (.aload_n 1, 1) := by decide +kernel
theorem dX2_copyFrom_11 : decode cX2_copyFrom 11 = .ok (.getfield 12, 3) := by decide +kernel
theorem dX2_copyFrom_14 : decode cX2_copyFrom 14 = .ok (.invokevirtual 25, 3) := by decide +kernel
theorem dX2_copyFrom_17 : decode cX2_copyFrom 17 = .ok (.if_icmp .ge 28, 3) := by decide +kernel
theorem dX2_copyFrom_20 : decode cX2_copyFrom 20 = .ok (.aload_n 0, 1) := by decide +kernel
theorem dX2_copyFrom_21 : decode cX2_copyFrom 21 = .ok (.getfield 12, 3) := by decide +kernel
theorem dX2_copyFrom_24 : decode cX2_copyFrom 24 = .ok (.aload_n 1, 1) := by decide +kernel
theorem dX2_copyFrom_25 : decode cX2_copyFrom 25 = .ok (.getfield 12, 3) := by decide +kernel
theorem dX2_copyFrom_28 : decode cX2_copyFrom 28 = .ok (.iload_n 2, 1) := by decide +kernel
theorem dX2_copyFrom_29 : decode cX2_copyFrom 29 = .ok (.invokevirtual 29, 3) := by decide +kernel
theorem dX2_copyFrom_32 : decode cX2_copyFrom 32 = .ok (.checkcast 33, 3) := by decide +kernel
theorem dX2_copyFrom_35 : decode cX2_copyFrom 35 = .ok (.invokevirtual 35, 3) := by decide +kernel
theorem dX2_copyFrom_38 : decode cX2_copyFrom 38 = .ok (.pop, 1) := by decide +kernel
theorem dX2_copyFrom_39 : decode cX2_copyFrom 39 = .ok (.iinc 2 1, 3) := by decide +kernel
theorem dX2_copyFrom_42 : decode cX2_copyFrom 42 = .ok (.goto (-33), 3) := by decide +kernel
theorem dX2_copyFrom_45 : decode cX2_copyFrom 45 = .ok (.iconst 0, 1) := by decide +kernel
theorem dX2_copyFrom_46 : decode cX2_copyFrom 46 = .ok (.istore_n 2, 1) := by decide +kernel
theorem dX2_copyFrom_47 : decode cX2_copyFrom 47 = .ok (.iload_n 2, 1) := by decide +kernel
theorem dX2_copyFrom_48 : decode cX2_copyFrom 48 = .ok (.aload_n 0, 1) := by decide +kernel
theorem dX2_copyFrom_49 : decode cX2_copyFrom 49 = .ok (.getfield 18, 3) := by decide +kernel
theorem dX2_copyFrom_52 : decode cX2_copyFrom 52 = .ok (.arraylength, 1) := by decide +kernel
theorem dX2_copyFrom_53 : decode cX2_copyFrom 53 = .ok (.if_icmp .ge 30, 3) := by decide +kernel
theorem dX2_copyFrom_56 : decode cX2_copyFrom 56 = .ok (.iload_n 2, 1) := by decide +kernel
theorem dX2_copyFrom_57 : decode cX2_copyFrom 57 = .ok (.aload_n 1, 1) := by decide +kernel
theorem dX2_copyFrom_58 : decode cX2_copyFrom 58 = .ok (.getfield 18, 3) := by decide +kernel
theorem dX2_copyFrom_61 : decode cX2_copyFrom 61 = .ok (.arraylength, 1) := by decide +kernel
theorem dX2_copyFrom_62 : decode cX2_copyFrom 62 = .ok (.if_icmp .ge 21, 3) := by decide +kernel
theorem dX2_copyFrom_65 : decode cX2_copyFrom 65 = .ok (.aload_n 0, 1) := by decide +kernel
theorem dX2_copyFrom_66 : decode cX2_copyFrom 66 = .ok (.getfield 18, 3) := by decide +kernel
theorem dX2_copyFrom_69 : decode cX2_copyFrom 69 = .ok (.iload_n 2, 1) := by decide +kernel
theorem dX2_copyFrom_70 : decode cX2_copyFrom 70 = .ok (.aload_n 1, 1) := by decide +kernel
theorem dX2_copyFrom_71 : decode cX2_copyFrom 71 = .ok (.getfield 18, 3) := by decide +kernel
theorem dX2_copyFrom_74 : decode cX2_copyFrom 74 = .ok (.iload_n 2, 1) := by decide +kernel
theorem dX2_copyFrom_75 : decode cX2_copyFrom 75 = .ok (.caload, 1) := by decide +kernel
theorem dX2_copyFrom_76 : decode cX2_copyFrom 76 = .ok (.castore, 1) := by decide +kernel
theorem dX2_copyFrom_77 : decode cX2_copyFrom 77 = .ok (.iinc 2 1, 3) := by decide +kernel
theorem dX2_copyFrom_80 : decode cX2_copyFrom 80 = .ok (.goto (-33), 3) := by decide +kernel
theorem dX2_copyFrom_83 : decode cX2_copyFrom 83 = .ok (.aload_n 0, 1) := by decide +kernel
theorem dX2_copyFrom_84 : decode cX2_copyFrom 84 = .ok (.aload_n 1, 1) := by decide +kernel
theorem dX2_copyFrom_85 : decode cX2_copyFrom 85 = .ok (.getfield 39, 3) := by decide +kernel
theorem dX2_copyFrom_88 : decode cX2_copyFrom 88 = .ok (.putfield 39, 3) := by decide +kernel
theorem dX2_copyFrom_91 : decode cX2_copyFrom 91 = .ok (.aload_n 0, 1) := by decide +kernel
theorem dX2_copyFrom_92 : decode cX2_copyFrom 92 = .ok (.aload_n 1, 1) := by decide +kernel
theorem dX2_copyFrom_93 : decode cX2_copyFrom 93 = .ok (.getfield 43, 3) := by decide +kernel
theorem dX2_copyFrom_96 : decode cX2_copyFrom 96 = .ok (.putfield 43, 3) := by decide +kernel
theorem dX2_copyFrom_99 : decode cX2_copyFrom 99 = .ok (.aload_n 0, 1) := by decide +kernel
theorem dX2_copyFrom_100 : decode cX2_copyFrom 100 = .ok (.aload_n 1, 1) := by decide +kernel
theorem dX2_copyFrom_101 : decode cX2_copyFrom 101 = .ok (.getfield 46, 3) := by decide +kernel
theorem dX2_copyFrom_104 : decode cX2_copyFrom 104 = .ok (.putfield 46, 3) := by decide +kernel
theorem dX2_copyFrom_107 : decode cX2_copyFrom 107 = .ok (.return_, 1) := by decide +kernel
theorem dX2_has_0 : decode cX2_has 0 = .ok (.iload_n 1, 1) := by decide +kernel
theorem dX2_has_1 : decode cX2_has 1 = .ok (.ifCond .lt 18, 3) := by decide +kernel
theorem dX2_has_4 : decode cX2_has 4 = .ok (.iload_n 1, 1) := by decide +kernel
theorem dX2_has_5 : decode cX2_has 5 = .ok (.aload_n 0, 1) := by decide +kernel
theorem dX2_has_6 : decode cX2_has 6 = .ok (.getfield 12, 3) := by decide +kernel
theorem dX2_has_9 : decode cX2_has 9 = .ok (.invokevirtual 25, 3) := by decide +kernel
theorem dX2_has_12 : decode cX2_has 12 = .ok (.if_icmp .ge 7, 3) := by decide +kernel
theorem dX2_has_15 : decode cX2_has 15 = .ok (.iconst 1, 1) := by decide +kernel
theorem dX2_has_16 : decode cX2_has 16 = .ok (.goto 4, 3) := by decide +kernel
theorem dX2_has_19 : decode cX2_has 19 = .ok (.iconst 0, 1) := by decide +kernel
theorem dX2_has_20 : decode cX2_has 20 = .ok (.ireturn, 1) := by decide +kernel
theorem dX2_refusal_0 : decode cX2_refusal 0 = .ok (.iconst 0, 1) := by decide +kernel
theorem dX2_refusal_1 : decode cX2_refusal 1 = .ok (.istore_n 2, 1) := by decide +kernel
theorem dX2_refusal_2 : decode cX2_refusal 2 = .ok (.iload_n 2, 1) := by decide +kernel
theorem dX2_refusal_3 : decode cX2_refusal 3 = .ok (.aload_n 0, 1) := by decide +kernel
theorem dX2_refusal_4 : decode cX2_refusal 4 = .ok (.getfield 12, 3) := by decide +kernel
theorem dX2_refusal_7 : decode cX2_refusal 7 = .ok (.invokevirtual 25, 3) := by decide +kernel
theorem dX2_refusal_10 : decode cX2_refusal 10 = .ok (.if_icmp .ge 30, 3) := by decide +kernel
theorem dX2_refusal_13 : decode cX2_refusal 13 = .ok (.aload_n 0, 1) := by decide +kernel
theorem dX2_refusal_14 : decode cX2_refusal 14 = .ok (.getfield 12, 3) := by decide +kernel
theorem dX2_refusal_17 : decode cX2_refusal 17 = .ok (.iload_n 2, 1) := by decide +kernel
theorem dX2_refusal_18 : decode cX2_refusal 18 = .ok (.invokevirtual 29, 3) := by decide +kernel
theorem dX2_refusal_21 : decode cX2_refusal 21 = .ok (.checkcast 33, 3) := by decide +kernel
theorem dX2_refusal_24 : decode cX2_refusal 24 = .ok (.aload_n 1, 1) := by decide +kernel
theorem dX2_refusal_25 : decode cX2_refusal 25 = .ok (.invokevirtual 49, 3) := by decide +kernel
theorem dX2_refusal_28 : decode cX2_refusal 28 = .ok (.ifCond .eq 6, 3) := by decide +kernel
theorem dX2_refusal_31 : decode cX2_refusal 31 = .ok (.bipush (-3), 2) := by decide +kernel
theorem dX2_refusal_33 : decode cX2_refusal 33 = .ok (.ireturn, 1) := by decide +kernel
theorem dX2_refusal_34 : decode cX2_refusal 34 = .ok (.iinc 2 1, 3) := by decide +kernel
theorem dX2_refusal_37 : decode cX2_refusal 37 = .ok (.goto (-35), 3) := by decide +kernel
theorem dX2_refusal_40 : decode cX2_refusal 40 = .ok (.aload_n 0, 1) := by decide +kernel
theorem dX2_refusal_41 : decode cX2_refusal 41 = .ok (.getfield 12, 3) := by decide +kernel
theorem dX2_refusal_44 : decode cX2_refusal 44 = .ok (.invokevirtual 25, 3) := by decide +kernel
theorem dX2_refusal_47 : decode cX2_refusal 47 = .ok (.bipush 16, 2) := by decide +kernel
theorem dX2_refusal_49 : decode cX2_refusal 49 = .ok (.if_icmp .lt 8, 3) := by decide +kernel
theorem dX2_refusal_52 : decode cX2_refusal 52 = .ok (.bipush (-4), 2) := by decide +kernel
theorem dX2_refusal_54 : decode cX2_refusal 54 = .ok (.goto 4, 3) := by decide +kernel
theorem dX2_refusal_57 : decode cX2_refusal 57 = .ok (.iconst 0, 1) := by decide +kernel
theorem dX2_refusal_58 : decode cX2_refusal 58 = .ok (.ireturn, 1) := by decide +kernel
theorem dX2_appendToQuery_0 : decode cX2_appendToQuery 0 = .ok (.aload_n 0, 1) := by decide +kernel
theorem dX2_appendToQuery_1 : decode cX2_appendToQuery 1 = .ok (.getfield 39, 3) := by decide +kernel
theorem dX2_appendToQuery_4 : decode cX2_appendToQuery 4 = .ok (.ifCond .lt 35, 3) := by decide +kernel
theorem dX2_appendToQuery_7 : decode cX2_appendToQuery 7 = .ok (.aload_n 0, 1) := by decide +kernel
theorem dX2_appendToQuery_8 : decode cX2_appendToQuery 8 = .ok (.getfield 39, 3) := by decide +kernel
theorem dX2_appendToQuery_11 : decode cX2_appendToQuery 11 = .ok (.aload_n 0, 1) := by decide +kernel
theorem dX2_appendToQuery_12 : decode cX2_appendToQuery 12 = .ok (.getfield 18, 3) := by decide +kernel
theorem dX2_appendToQuery_15 : decode cX2_appendToQuery 15 = .ok (.arraylength, 1) := by decide +kernel
theorem dX2_appendToQuery_16 : decode cX2_appendToQuery 16 = .ok (.if_icmp .ge 23, 3) := by decide +kernel
theorem dX2_appendToQuery_19 : decode cX2_appendToQuery 19 = .ok (.aload_n 0, 1) := by decide +kernel
theorem dX2_appendToQuery_20 : decode cX2_appendToQuery 20 = .ok (.getfield 18, 3) := by decide +kernel
theorem dX2_appendToQuery_23 : decode cX2_appendToQuery 23 = .ok (.aload_n 0, 1) := by decide +kernel
theorem dX2_appendToQuery_24 : decode cX2_appendToQuery 24 = .ok (.getfield 39, 3) := by decide +kernel
theorem dX2_appendToQuery_27 : decode cX2_appendToQuery 27 = .ok (.iload_n 1, 1) := by decide +kernel
theorem dX2_appendToQuery_28 : decode cX2_appendToQuery 28 = .ok (.castore, 1) := by decide +kernel
theorem dX2_appendToQuery_29 : decode cX2_appendToQuery 29 = .ok (.aload_n 0, 1) := by decide +kernel
theorem dX2_appendToQuery_30 : decode cX2_appendToQuery 30 = .ok (.dup, 1) := by decide +kernel
theorem dX2_appendToQuery_31 : decode cX2_appendToQuery 31 = .ok (.getfield 39, 3) := by decide +kernel
theorem dX2_appendToQuery_34 : decode cX2_appendToQuery 34 = .ok (.iconst 1, 1) := by decide +kernel
theorem dX2_appendToQuery_35 : decode cX2_appendToQuery 35 = .ok (.iadd, 1) := by decide +kernel
theorem dX2_appendToQuery_36 : decode cX2_appendToQuery 36 = .ok (.putfield 39, 3) := by decide +kernel
theorem dX2_appendToQuery_39 : decode cX2_appendToQuery 39 = .ok (.return_, 1) := by decide +kernel
theorem dX2_queryEndsWithLetter_0 : decode cX2_queryEndsWithLetter 0 = .ok (.aload_n 0, 1) := by decide +kernel
theorem dX2_queryEndsWithLetter_1 : decode cX2_queryEndsWithLetter 1 = .ok (.getfield 39, 3) := by decide +kernel
theorem dX2_queryEndsWithLetter_4 : decode cX2_queryEndsWithLetter 4 = .ok (.ifCond .le 35, 3) := by decide +kernel
theorem dX2_queryEndsWithLetter_7 : decode cX2_queryEndsWithLetter 7 = .ok (.aload_n 0, 1) := by decide +kernel
theorem dX2_queryEndsWithLetter_8 : decode cX2_queryEndsWithLetter 8 = .ok (.getfield 39, 3) := by decide +kernel
theorem dX2_queryEndsWithLetter_11 : decode cX2_queryEndsWithLetter 11 = .ok (.aload_n 0, 1) := by decide +kernel
theorem dX2_queryEndsWithLetter_12 : decode cX2_queryEndsWithLetter 12 = .ok (.getfield 18, 3) := by decide +kernel
theorem dX2_queryEndsWithLetter_15 : decode cX2_queryEndsWithLetter 15 = .ok (.arraylength, 1) := by decide +kernel
theorem dX2_queryEndsWithLetter_16 : decode cX2_queryEndsWithLetter 16 = .ok (.if_icmp .gt 23, 3) := by decide +kernel
theorem dX2_queryEndsWithLetter_19 : decode cX2_queryEndsWithLetter 19 = .ok (.aload_n 0, 1) := by decide +kernel
theorem dX2_queryEndsWithLetter_20 : decode cX2_queryEndsWithLetter 20 = .ok (.getfield 18, 3) := by decide +kernel
theorem dX2_queryEndsWithLetter_23 : decode cX2_queryEndsWithLetter 23 = .ok (.aload_n 0, 1) := by decide +kernel
theorem dX2_queryEndsWithLetter_24 : decode cX2_queryEndsWithLetter 24 = .ok (.getfield 39, 3) := by decide +kernel
theorem dX2_queryEndsWithLetter_27 : decode cX2_queryEndsWithLetter 27 = .ok (.iconst 1, 1) := by decide +kernel
theorem dX2_queryEndsWithLetter_28 : decode cX2_queryEndsWithLetter 28 = .ok (.isub, 1) := by decide +kernel
theorem dX2_queryEndsWithLetter_29 : decode cX2_queryEndsWithLetter 29 = .ok (.caload, 1) := by decide +kernel
theorem dX2_queryEndsWithLetter_30 : decode cX2_queryEndsWithLetter 30 = .ok (.bipush 32, 2) := by decide +kernel
theorem dX2_queryEndsWithLetter_32 : decode cX2_queryEndsWithLetter 32 = .ok (.if_icmp .eq 7, 3) := by decide +kernel
theorem dX2_queryEndsWithLetter_35 : decode cX2_queryEndsWithLetter 35 = .ok (.iconst 1, 1) := by decide +kernel
theorem dX2_queryEndsWithLetter_36 : decode cX2_queryEndsWithLetter 36 = .ok (.goto 4, 3) := by decide +kernel
theorem dX2_queryEndsWithLetter_39 : decode cX2_queryEndsWithLetter 39 = .ok (.iconst 0, 1) := by decide +kernel
theorem dX2_queryEndsWithLetter_40 : decode cX2_queryEndsWithLetter 40 = .ok (.ireturn, 1) := by decide +kernel
theorem dX2_placeOfMatch_0 : decode cX2_placeOfMatch 0 = .ok (.aload_n 0, 1) := by decide +kernel
theorem dX2_placeOfMatch_1 : decode cX2_placeOfMatch 1 = .ok (.invokevirtual 53, 3) := by decide +kernel
theorem dX2_placeOfMatch_4 : decode cX2_placeOfMatch 4 = .ok (.ifCond .eq 10, 3) := by decide +kernel
theorem dX2_placeOfMatch_7 : decode cX2_placeOfMatch 7 = .ok (.aload_n 0, 1) := by decide +kernel
theorem dX2_placeOfMatch_8 : decode cX2_placeOfMatch 8 = .ok (.getfield 39, 3) := by decide +kernel
theorem dX2_placeOfMatch_11 : decode cX2_placeOfMatch 11 = .ok (.goto 9, 3) := by decide +kernel
theorem dX2_placeOfMatch_14 : decode cX2_placeOfMatch 14 = .ok (.aload_n 0, 1) := by decide +kernel
theorem dX2_placeOfMatch_15 : decode cX2_placeOfMatch 15 = .ok (.getfield 39, 3) := by decide +kernel
theorem dX2_placeOfMatch_18 : decode cX2_placeOfMatch 18 = .ok (.iconst 1, 1) := by decide +kernel
theorem dX2_placeOfMatch_19 : decode cX2_placeOfMatch 19 = .ok (.isub, 1) := by decide +kernel
theorem dX2_placeOfMatch_20 : decode cX2_placeOfMatch 20 = .ok (.istore_n 2, 1) := by decide +kernel
theorem dX2_placeOfMatch_21 : decode cX2_placeOfMatch 21 = .ok (.iload_n 2, 1) := by decide +kernel
theorem dX2_placeOfMatch_22 : decode cX2_placeOfMatch 22 = .ok (.ifCond .gt 7, 3) := by decide +kernel
theorem dX2_placeOfMatch_25 : decode cX2_placeOfMatch 25 = .ok (.iconst 0, 1) := by decide +kernel
theorem dX2_placeOfMatch_26 : decode cX2_placeOfMatch 26 = .ok (.goto 26, 3) := by decide +kernel
theorem dX2_placeOfMatch_29 : decode cX2_placeOfMatch 29 = .ok (.aload_n 0, 1) := by decide +kernel
theorem dX2_placeOfMatch_30 : decode cX2_placeOfMatch 30 = .ok (.getfield 12, 3) := by decide +kernel
theorem dX2_placeOfMatch_33 : decode cX2_placeOfMatch 33 = .ok (.iload_n 1, 1) := by decide +kernel
theorem dX2_placeOfMatch_34 : decode cX2_placeOfMatch 34 = .ok (.invokevirtual 29, 3) := by decide +kernel
theorem dX2_placeOfMatch_37 : decode cX2_placeOfMatch 37 = .ok (.checkcast 33, 3) := by decide +kernel
theorem dX2_placeOfMatch_40 : decode cX2_placeOfMatch 40 = .ok (.aload_n 0, 1) := by decide +kernel
theorem dX2_placeOfMatch_41 : decode cX2_placeOfMatch 41 = .ok (.getfield 18, 3) := by decide +kernel
theorem dX2_placeOfMatch_44 : decode cX2_placeOfMatch 44 = .ok (.iload_n 2, 1) := by decide +kernel
theorem dX2_placeOfMatch_45 : decode cX2_placeOfMatch 45 = .ok (.aload_n 0, 1) := by decide +kernel
theorem dX2_placeOfMatch_46 : decode cX2_placeOfMatch 46 = .ok (.getfield 43, 3) := by decide +kernel
theorem dX2_placeOfMatch_49 : decode cX2_placeOfMatch 49 = .ok (.invokevirtual 57, 3) := by decide +kernel
theorem dX2_placeOfMatch_52 : decode cX2_placeOfMatch 52 = .ok (.ireturn, 1) := by decide +kernel
theorem dX2_comesBefore_0 : decode cX2_comesBefore 0 = .ok (.aload_n 0, 1) := by decide +kernel
theorem dX2_comesBefore_1 : decode cX2_comesBefore 1 = .ok (.getfield 12, 3) := by decide +kernel
theorem dX2_comesBefore_4 : decode cX2_comesBefore 4 = .ok (.iload_n 1, 1) := by decide +kernel
theorem dX2_comesBefore_5 : decode cX2_comesBefore 5 = .ok (.invokevirtual 29, 3) := by decide +kernel
theorem dX2_comesBefore_8 : decode cX2_comesBefore 8 = .ok (.checkcast 33, 3) := by decide +kernel
theorem dX2_comesBefore_11 : decode cX2_comesBefore 11 = .ok (.astore 5, 2) := by decide +kernel
theorem dX2_comesBefore_13 : decode cX2_comesBefore 13 = .ok (.aload_n 0, 1) := by decide +kernel
theorem dX2_comesBefore_14 : decode cX2_comesBefore 14 = .ok (.getfield 12, 3) := by decide +kernel
theorem dX2_comesBefore_17 : decode cX2_comesBefore 17 = .ok (.iload_n 3, 1) := by decide +kernel
theorem dX2_comesBefore_18 : decode cX2_comesBefore 18 = .ok (.invokevirtual 29, 3) := by decide +kernel
theorem dX2_comesBefore_21 : decode cX2_comesBefore 21 = .ok (.checkcast 33, 3) := by decide +kernel
theorem dX2_comesBefore_24 : decode cX2_comesBefore 24 = .ok (.astore 6, 2) := by decide +kernel
theorem dX2_comesBefore_26 : decode cX2_comesBefore 26 = .ok (.aload_n 0, 1) := by decide +kernel
theorem dX2_comesBefore_27 : decode cX2_comesBefore 27 = .ok (.getfield 46, 3) := by decide +kernel
theorem dX2_comesBefore_30 : decode cX2_comesBefore 30 = .ok (.iconst 2, 1) := by decide +kernel
theorem dX2_comesBefore_31 : decode cX2_comesBefore 31 = .ok (.if_icmp .ne 11, 3) := by decide +kernel
theorem dX2_comesBefore_34 : decode cX2_comesBefore 34 = .ok (.aload 5, 2) := by decide +kernel
theorem dX2_comesBefore_36 : decode cX2_comesBefore 36 = .ok (.aload 6, 2) := by decide +kernel
theorem dX2_comesBefore_38 : decode cX2_comesBefore 38 = .ok (.invokevirtual 61, 3) := by decide +kernel
theorem dX2_comesBefore_41 : decode cX2_comesBefore 41 = .ok (.ireturn, 1) := by decide +kernel
theorem dX2_comesBefore_42 : decode cX2_comesBefore 42 = .ok (.aload_n 0, 1) := by decide +kernel
theorem dX2_comesBefore_43 : decode cX2_comesBefore 43 = .ok (.getfield 46, 3) := by decide +kernel
theorem dX2_comesBefore_46 : decode cX2_comesBefore 46 = .ok (.iconst 1, 1) := by decide +kernel
theorem dX2_comesBefore_47 : decode cX2_comesBefore 47 = .ok (.if_icmp .ne 35, 3) := by decide +kernel
theorem dX2_comesBefore_50 : decode cX2_comesBefore 50 = .ok (.aload 5, 2) := by decide +kernel
theorem dX2_comesBefore_52 : decode cX2_comesBefore 52 = .ok (.getfield 64, 3) := by decide +kernel
theorem dX2_comesBefore_55 : decode cX2_comesBefore 55 = .ok (.aload 6, 2) := by decide +kernel
theorem dX2_comesBefore_57 : decode cX2_comesBefore 57 = .ok (.getfield 64, 3) := by decide +kernel
theorem dX2_comesBefore_60 : decode cX2_comesBefore 60 = .ok (.if_icmp .eq 22, 3) := by decide +kernel
theorem dX2_comesBefore_63 : decode cX2_comesBefore 63 = .ok (.aload 5, 2) := by decide +kernel
theorem dX2_comesBefore_65 : decode cX2_comesBefore 65 = .ok (.getfield 64, 3) := by decide +kernel
theorem dX2_comesBefore_68 : decode cX2_comesBefore 68 = .ok (.aload 6, 2) := by decide +kernel
theorem dX2_comesBefore_70 : decode cX2_comesBefore 70 = .ok (.getfield 64, 3) := by decide +kernel
theorem dX2_comesBefore_73 : decode cX2_comesBefore 73 = .ok (.if_icmp .le 7, 3) := by decide +kernel
theorem dX2_comesBefore_76 : decode cX2_comesBefore 76 = .ok (.iconst 1, 1) := by decide +kernel
theorem dX2_comesBefore_77 : decode cX2_comesBefore 77 = .ok (.goto 4, 3) := by decide +kernel
theorem dX2_comesBefore_80 : decode cX2_comesBefore 80 = .ok (.iconst 0, 1) := by decide +kernel
theorem dX2_comesBefore_81 : decode cX2_comesBefore 81 = .ok (.ireturn, 1) := by decide +kernel
theorem dX2_comesBefore_82 : decode cX2_comesBefore 82 = .ok (.iload_n 2, 1) := by decide +kernel
theorem dX2_comesBefore_83 : decode cX2_comesBefore 83 = .ok (.iload 4, 2) := by decide +kernel
theorem dX2_comesBefore_85 : decode cX2_comesBefore 85 = .ok (.if_icmp .eq 15, 3) := by decide +kernel
theorem dX2_comesBefore_88 : decode cX2_comesBefore 88 = .ok (.iload_n 2, 1) := by decide +kernel
theorem dX2_comesBefore_89 : decode cX2_comesBefore 89 = .ok (.iload 4, 2) := by decide +kernel
theorem dX2_comesBefore_91 : decode cX2_comesBefore 91 = .ok (.if_icmp .ge 7, 3) := by decide +kernel
theorem dX2_comesBefore_94 : decode cX2_comesBefore 94 = .ok (.iconst 1, 1) := by decide +kernel
theorem dX2_comesBefore_95 : decode cX2_comesBefore 95 = .ok (.goto 4, 3) := by decide +kernel
theorem dX2_comesBefore_98 : decode cX2_comesBefore 98 = .ok (.iconst 0, 1) := by decide +kernel
theorem dX2_comesBefore_99 : decode cX2_comesBefore 99 = .ok (.ireturn, 1) := by decide +kernel
theorem dX2_comesBefore_100 : decode cX2_comesBefore 100 = .ok (.aload 5, 2) := by decide +kernel
theorem dX2_comesBefore_102 : decode cX2_comesBefore 102 = .ok (.getfield 67, 3) := by decide +kernel
theorem dX2_comesBefore_105 : decode cX2_comesBefore 105 = .ok (.arraylength, 1) := by decide +kernel
theorem dX2_comesBefore_106 : decode cX2_comesBefore 106 = .ok (.aload 6, 2) := by decide +kernel
theorem dX2_comesBefore_108 : decode cX2_comesBefore 108 = .ok (.getfield 67, 3) := by decide +kernel
theorem dX2_comesBefore_111 : decode cX2_comesBefore 111 = .ok (.arraylength, 1) := by decide +kernel
theorem dX2_comesBefore_112 : decode cX2_comesBefore 112 = .ok (.if_icmp .eq 24, 3) := by decide +kernel
theorem dX2_comesBefore_115 : decode cX2_comesBefore 115 = .ok (.aload 5, 2) := by decide +kernel
theorem dX2_comesBefore_117 : decode cX2_comesBefore 117 = .ok (.getfield 67, 3) := by decide +kernel
theorem dX2_comesBefore_120 : decode cX2_comesBefore 120 = .ok (.arraylength, 1) := by decide +kernel
theorem dX2_comesBefore_121 : decode cX2_comesBefore 121 = .ok (.aload 6, 2) := by decide +kernel
theorem dX2_comesBefore_123 : decode cX2_comesBefore 123 = .ok (.getfield 67, 3) := by decide +kernel
theorem dX2_comesBefore_126 : decode cX2_comesBefore 126 = .ok (.arraylength, 1) := by decide +kernel
theorem dX2_comesBefore_127 : decode cX2_comesBefore 127 = .ok (.if_icmp .ge 7, 3) := by decide +kernel
theorem dX2_comesBefore_130 : decode cX2_comesBefore 130 = .ok (.iconst 1, 1) := by decide +kernel
theorem dX2_comesBefore_131 : decode cX2_comesBefore 131 = .ok (.goto 4, 3) := by decide +kernel
theorem dX2_comesBefore_134 : decode cX2_comesBefore 134 = .ok (.iconst 0, 1) := by decide +kernel
theorem dX2_comesBefore_135 : decode cX2_comesBefore 135 = .ok (.ireturn, 1) := by decide +kernel
theorem dX2_comesBefore_136 : decode cX2_comesBefore 136 = .ok (.iload_n 1, 1) := by decide +kernel
theorem dX2_comesBefore_137 : decode cX2_comesBefore 137 = .ok (.iload_n 3, 1) := by decide +kernel
theorem dX2_comesBefore_138 : decode cX2_comesBefore 138 = .ok (.if_icmp .ge 7, 3) := by decide +kernel
theorem dX2_comesBefore_141 : decode cX2_comesBefore 141 = .ok (.iconst 1, 1) := by decide +kernel
theorem dX2_comesBefore_142 : decode cX2_comesBefore 142 = .ok (.goto 4, 3) := by decide +kernel
theorem dX2_comesBefore_145 : decode cX2_comesBefore 145 = .ok (.iconst 0, 1) := by decide +kernel
theorem dX2_comesBefore_146 : decode cX2_comesBefore 146 = .ok (.ireturn, 1) := by decide +kernel
theorem dX3_init_0 : decode cX3_init 0 = .ok (.aload_n 0, 1) := by decide +kernel
theorem dX3_init_1 : decode cX3_init 1 = .ok (.invokespecial 3, 3) := by decide +kernel
theorem dX3_init_4 : decode cX3_init 4 = .ok (.aload_n 0, 1) := by decide +kernel
theorem dX3_init_5 : decode cX3_init 5 = .ok (.bipush 16, 2) := by decide +kernel
theorem dX3_init_7 : decode cX3_init 7 = .ok (.bipush 25, 2) := by decide +kernel
theorem dX3_init_9 : decode cX3_init 9 = .ok (.multianewarray 9 2, 4) := by decide +kernel
theorem dX3_init_13 : decode cX3_init 13 = .ok (.putfield 11, 3) := by decide +kernel
theorem dX3_init_16 : decode cX3_init 16 = .ok (.return_, 1) := by decide +kernel
theorem dX3_look_0 : decode cX3_look 0 = .ok (.aload_n 0, 1) := by decide +kernel
theorem dX3_look_1 : decode cX3_look 1 = .ok (.iconst 0, 1) := by decide +kernel
theorem dX3_look_2 : decode cX3_look 2 = .ok (.putfield 16, 3) := by decide +kernel
theorem dX3_look_5 : decode cX3_look 5 = .ok (.aload_n 0, 1) := by decide +kernel
theorem dX3_look_6 : decode cX3_look 6 = .ok (.iconst 0, 1) := by decide +kernel
theorem dX3_look_7 : decode cX3_look 7 = .ok (.putfield 20, 3) := by decide +kernel
theorem dX3_look_10 : decode cX3_look 10 = .ok (.aload_n 0, 1) := by decide +kernel
theorem dX3_look_11 : decode cX3_look 11 = .ok (.iconst 0, 1) := by decide +kernel
theorem dX3_look_12 : decode cX3_look 12 = .ok (.putfield 23, 3) := by decide +kernel
theorem dX3_look_15 : decode cX3_look 15 = .ok (.aload_n 0, 1) := by decide +kernel
theorem dX3_look_16 : decode cX3_look 16 = .ok (.iconst 0, 1) := by decide +kernel
theorem dX3_look_17 : decode cX3_look 17 = .ok (.putfield 26, 3) := by decide +kernel
theorem dX3_look_20 : decode cX3_look 20 = .ok (.aload_n 1, 1) := by decide +kernel
theorem dX3_look_21 : decode cX3_look 21 = .ok (.iload_n 2, 1) := by decide +kernel
theorem dX3_look_22 : decode cX3_look 22 = .ok (.invokevirtual 29, 3) := by decide +kernel
theorem dX3_look_25 : decode cX3_look 25 = .ok (.ifCond .ne 4, 3) := by decide +kernel
theorem dX3_look_28 : decode cX3_look 28 = .ok (.return_, 1) := by decide +kernel
theorem dX3_look_29 : decode cX3_look 29 = .ok (.aload_n 1, 1) := by decide +kernel
theorem dX3_look_30 : decode cX3_look 30 = .ok (.getfield 35, 3) := by decide +kernel
theorem dX3_look_33 : decode cX3_look 33 = .ok (.iload_n 2, 1) := by decide +kernel
theorem dX3_look_34 : decode cX3_look 34 = .ok (.invokevirtual 39, 3) := by decide +kernel
theorem dX3_look_37 : decode cX3_look 37 = .ok (.checkcast 45, 3) := by decide +kernel
theorem dX3_look_40 : decode cX3_look 40 = .ok (.astore_n 3, 1) := by decide +kernel
theorem dX3_look_41 : decode cX3_look 41 = .ok (.aload_n 3, 1) := by decide +kernel
theorem dX3_look_42 : decode cX3_look 42 = .ok (.aload_n 1, 1) := by decide +kernel
theorem dX3_look_43 : decode cX3_look 43 = .ok (.getfield 47, 3) := by decide +kernel
theorem dX3_look_46 : decode cX3_look 46 = .ok (.invokevirtual 50, 3) := by decide +kernel
theorem dX3_look_49 : decode cX3_look 49 = .ok (.astore 4, 2) := by decide +kernel
theorem dX3_look_51 : decode cX3_look 51 = .ok (.iconst 0, 1) := by decide +kernel
theorem dX3_look_52 : decode cX3_look 52 = .ok (.istore 5, 2) := by decide +kernel
theorem dX3_look_54 : decode cX3_look 54 = .ok (.iload 5, 2) := by decide +kernel
theorem dX3_look_56 : decode cX3_look 56 = .ok (.aload 4, 2) := by decide +kernel
theorem dX3_look_58 : decode cX3_look 58 = .ok (.arraylength, 1) := by decide +kernel
theorem dX3_look_59 : decode cX3_look 59 = .ok (.if_icmp .ge 32, 3) := by decide +kernel
theorem dX3_look_62 : decode cX3_look 62 = .ok (.aload_n 3, 1) := by decide +kernel
theorem dX3_look_63 : decode cX3_look 63 = .ok (.aload_n 1, 1) := by decide +kernel
theorem dX3_look_64 : decode cX3_look 64 = .ok (.getfield 47, 3) := by decide +kernel
theorem dX3_look_67 : decode cX3_look 67 = .ok (.iload 5, 2) := by decide +kernel
theorem dX3_look_69 : decode cX3_look 69 = .ok (.invokevirtual 54, 3) := by decide +kernel
theorem dX3_look_72 : decode cX3_look 72 = .ok (.ifCond .eq 13, 3) := by decide +kernel
theorem dX3_look_75 : decode cX3_look 75 = .ok (.aload_n 0, 1) := by decide +kernel
theorem dX3_look_76 : decode cX3_look 76 = .ok (.iload 5, 2) := by decide +kernel
theorem dX3_look_78 : decode cX3_look 78 = .ok (.aload 4, 2) := by decide +kernel
theorem dX3_look_80 : decode cX3_look 80 = .ok (.aload_n 1, 1) := by decide +kernel
theorem dX3_look_81 : decode cX3_look 81 = .ok (.iload_n 2, 1) := by decide +kernel
theorem dX3_look_82 : decode cX3_look 82 = .ok (.invokevirtual 58, 3) := by decide +kernel
theorem dX3_look_85 : decode cX3_look 85 = .ok (.iinc 5 1, 3) := by decide +kernel
theorem dX3_look_88 : decode cX3_look 88 = .ok (.goto (-34), 3) := by decide +kernel
theorem dX3_look_91 : decode cX3_look 91 = .ok (.return_, 1) := by decide +kernel
theorem dX3_hasKey_0 : decode cX3_hasKey 0 = .ok (.aload_n 0, 1) := by decide +kernel
theorem dX3_hasKey_1 : decode cX3_hasKey 1 = .ok (.getfield 20, 3) := by decide +kernel
theorem dX3_hasKey_4 : decode cX3_hasKey 4 = .ok (.ifCond .le 7, 3) := by decide +kernel
theorem dX3_hasKey_7 : decode cX3_hasKey 7 = .ok (.iconst 1, 1) := by decide +kernel
theorem dX3_hasKey_8 : decode cX3_hasKey 8 = .ok (.goto 4, 3) := by decide +kernel
theorem dX3_hasKey_11 : decode cX3_hasKey 11 = .ok (.iconst 0, 1) := by decide +kernel
theorem dX3_hasKey_12 : decode cX3_hasKey 12 = .ok (.ireturn, 1) := by decide +kernel
theorem dX3_hasShortcut_0 : decode cX3_hasShortcut 0 = .ok (.aload_n 0, 1) := by decide +kernel
theorem dX3_hasShortcut_1 : decode cX3_hasShortcut 1 = .ok (.getfield 26, 3) := by decide +kernel
theorem dX3_hasShortcut_4 : decode cX3_hasShortcut 4 = .ok (.ifCond .le 7, 3) := by decide +kernel
theorem dX3_hasShortcut_7 : decode cX3_hasShortcut 7 = .ok (.iconst 1, 1) := by decide +kernel
theorem dX3_hasShortcut_8 : decode cX3_hasShortcut 8 = .ok (.goto 4, 3) := by decide +kernel
theorem dX3_hasShortcut_11 : decode cX3_hasShortcut 11 = .ok (.iconst 0, 1) := by decide +kernel
theorem dX3_hasShortcut_12 : decode cX3_hasShortcut 12 = .ok (.ireturn, 1) := by decide +kernel
theorem dX3_lookAtPiecesFrom_0 : decode cX3_lookAtPiecesFrom 0 = .ok (.aload_n 2, 1) := by decide +kernel
theorem dX3_lookAtPiecesFrom_1 : decode cX3_lookAtPiecesFrom 1 = .ok (.arraylength, 1) := by decide +kernel
theorem dX3_lookAtPiecesFrom_2 : decode cX3_lookAtPiecesFrom 2 = .ok (.iload_n 1, 1) := by decide +kernel
theorem dX3_lookAtPiecesFrom_3 : decode cX3_lookAtPiecesFrom 3 = .ok (.isub, 1) := by decide +kernel
theorem dX3_lookAtPiecesFrom_4 : decode cX3_lookAtPiecesFrom 4 = .ok (.aload_n 0, 1) := by decide +kernel
theorem dX3_lookAtPiecesFrom_5 : decode cX3_lookAtPiecesFrom 5 = .ok (.invokevirtual 62, 3) := by decide +kernel
theorem dX3_lookAtPiecesFrom_8 : decode cX3_lookAtPiecesFrom 8 = .ok (.invokestatic 66, 3) := by decide +kernel
theorem dX3_lookAtPiecesFrom_11 : decode cX3_lookAtPiecesFrom 11 = .ok (.istore 5, 2) := by decide +kernel
theorem dX3_lookAtPiecesFrom_13 : decode cX3_lookAtPiecesFrom 13 = .ok (.iconst 0, 1) := by decide +kernel
theorem dX3_lookAtPiecesFrom_14 : decode cX3_lookAtPiecesFrom 14 = .ok (.istore 6, 2) := by decide +kernel
theorem dX3_lookAtPiecesFrom_16 : decode cX3_lookAtPiecesFrom 16 = .ok (.iload 6, 2) := by decide +kernel
theorem dX3_lookAtPiecesFrom_18 : decode cX3_lookAtPiecesFrom 18 = .ok (.aload_n 3, 1) := by decide +kernel
theorem dX3_lookAtPiecesFrom_19 : decode cX3_lookAtPiecesFrom 19 = .ok (.getfield 35, 3) := by decide +kernel
theorem dX3_lookAtPiecesFrom_22 : decode cX3_lookAtPiecesFrom 22 = .ok (.invokevirtual 72, 3) := by decide +kernel
theorem dX3_lookAtPiecesFrom_25 : decode cX3_lookAtPiecesFrom 25 = .ok (.if_icmp .ge 49, 3) := by decide +kernel
theorem dX3_lookAtPiecesFrom_28 : decode cX3_lookAtPiecesFrom 28 = .ok (.iload 6, 2) := by decide +kernel
theorem dX3_lookAtPiecesFrom_30 : decode cX3_lookAtPiecesFrom 30 = .ok (.aload_n 0, 1) := by decide +kernel
theorem dX3_lookAtPiecesFrom_31 : decode cX3_lookAtPiecesFrom 31 = .ok (.getfield 11, 3) := by decide +kernel
theorem dX3_lookAtPiecesFrom_34 : decode cX3_lookAtPiecesFrom 34 = .ok (.arraylength, 1) := by decide +kernel
theorem dX3_lookAtPiecesFrom_35 : decode cX3_lookAtPiecesFrom 35 = .ok (.if_icmp .ge 39, 3) := by decide +kernel
theorem dX3_lookAtPiecesFrom_38 : decode cX3_lookAtPiecesFrom 38 = .ok (.aload_n 0, 1) := by decide +kernel
theorem dX3_lookAtPiecesFrom_39 : decode cX3_lookAtPiecesFrom 39 = .ok (.getfield 11, 3) := by decide +kernel
theorem dX3_lookAtPiecesFrom_42 : decode cX3_lookAtPiecesFrom 42 = .ok (.iload 6, 2) := by decide +kernel
theorem dX3_lookAtPiecesFrom_44 : decode cX3_lookAtPiecesFrom 44 = .ok (.aaload, 1) := by decide +kernel
theorem dX3_lookAtPiecesFrom_45 : decode cX3_lookAtPiecesFrom 45 = .ok (.iload 5, 2) := by decide +kernel
theorem dX3_lookAtPiecesFrom_47 : decode cX3_lookAtPiecesFrom 47 = .ok (.aload_n 2, 1) := by decide +kernel
theorem dX3_lookAtPiecesFrom_48 : decode cX3_lookAtPiecesFrom 48 = .ok (.iload_n 1, 1) := by decide +kernel
theorem dX3_lookAtPiecesFrom_49 : decode cX3_lookAtPiecesFrom 49 = .ok (.aload_n 3, 1) := by decide +kernel
theorem dX3_lookAtPiecesFrom_50 : decode cX3_lookAtPiecesFrom 50 = .ok (.getfield 35, 3) := by decide +kernel
theorem dX3_lookAtPiecesFrom_53 : decode cX3_lookAtPiecesFrom 53 = .ok (.iload 6, 2) := by decide +kernel
theorem dX3_lookAtPiecesFrom_55 : decode cX3_lookAtPiecesFrom 55 = .ok (.invokevirtual 39, 3) := by decide +kernel
theorem dX3_lookAtPiecesFrom_58 : decode cX3_lookAtPiecesFrom 58 = .ok (.checkcast 45, 3) := by decide +kernel
theorem dX3_lookAtPiecesFrom_61 : decode cX3_lookAtPiecesFrom 61 = .ok (.aload_n 3, 1) := by decide +kernel
theorem dX3_lookAtPiecesFrom_62 : decode cX3_lookAtPiecesFrom 62 = .ok (.getfield 47, 3) := by decide +kernel
theorem dX3_lookAtPiecesFrom_65 : decode cX3_lookAtPiecesFrom 65 = .ok (.invokestatic 75, 3) := by decide +kernel
theorem dX3_lookAtPiecesFrom_68 : decode cX3_lookAtPiecesFrom 68 = .ok (.iinc 6 1, 3) := by decide +kernel
theorem dX3_lookAtPiecesFrom_71 : decode cX3_lookAtPiecesFrom 71 = .ok (.goto (-55), 3) := by decide +kernel
theorem dX3_lookAtPiecesFrom_74 : decode cX3_lookAtPiecesFrom 74 = .ok (.iconst 1, 1) := by decide +kernel
theorem dX3_lookAtPiecesFrom_75 : decode cX3_lookAtPiecesFrom 75 = .ok (.istore 6, 2) := by decide +kernel
theorem dX3_lookAtPiecesFrom_77 : decode cX3_lookAtPiecesFrom 77 = .ok (.iload 6, 2) := by decide +kernel
theorem dX3_lookAtPiecesFrom_79 : decode cX3_lookAtPiecesFrom 79 = .ok (.iload 5, 2) := by decide +kernel
theorem dX3_lookAtPiecesFrom_81 : decode cX3_lookAtPiecesFrom 81 = .ok (.if_icmp .gt 103, 3) := by decide +kernel
theorem dX3_lookAtPiecesFrom_84 : decode cX3_lookAtPiecesFrom 84 = .ok (.aload_n 2, 1) := by decide +kernel
theorem dX3_lookAtPiecesFrom_85 : decode cX3_lookAtPiecesFrom 85 = .ok (.iload_n 1, 1) := by decide +kernel
theorem dX3_lookAtPiecesFrom_86 : decode cX3_lookAtPiecesFrom 86 = .ok (.iload 6, 2) := by decide +kernel
theorem dX3_lookAtPiecesFrom_88 : decode cX3_lookAtPiecesFrom 88 = .ok (.iadd, 1) := by decide +kernel
theorem dX3_lookAtPiecesFrom_89 : decode cX3_lookAtPiecesFrom 89 = .ok (.iconst 1, 1) := by decide +kernel
theorem dX3_lookAtPiecesFrom_90 : decode cX3_lookAtPiecesFrom 90 = .ok (.isub, 1) := by decide +kernel
theorem dX3_lookAtPiecesFrom_91 : decode cX3_lookAtPiecesFrom 91 = .ok (.caload, 1) := by decide +kernel
theorem dX3_lookAtPiecesFrom_92 : decode cX3_lookAtPiecesFrom 92 = .ok (.bipush 32, 2) := by decide +kernel
theorem dX3_lookAtPiecesFrom_94 : decode cX3_lookAtPiecesFrom 94 = .ok (.if_icmp .ne 6, 3) := by decide +kernel
theorem dX3_lookAtPiecesFrom_97 : decode cX3_lookAtPiecesFrom 97 = .ok (.goto 81, 3) := by decide +kernel
theorem dX3_lookAtPiecesFrom_100 : decode cX3_lookAtPiecesFrom 100 = .ok (.aload_n 0, 1) := by decide +kernel
theorem dX3_lookAtPiecesFrom_101 : decode cX3_lookAtPiecesFrom 101 = .ok (.invokevirtual 79, 3) := by decide +kernel
theorem dX3_lookAtPiecesFrom_104 : decode cX3_lookAtPiecesFrom 104 = .ok (.ifCond .eq 12, 3) := by decide +kernel
theorem dX3_lookAtPiecesFrom_107 : decode cX3_lookAtPiecesFrom 107 = .ok (.iload 6, 2) := by decide +kernel
theorem dX3_lookAtPiecesFrom_109 : decode cX3_lookAtPiecesFrom 109 = .ok (.aload_n 0, 1) := by decide +kernel
theorem dX3_lookAtPiecesFrom_110 : decode cX3_lookAtPiecesFrom 110 = .ok (.getfield 20, 3) := by decide +kernel
theorem dX3_lookAtPiecesFrom_113 : decode cX3_lookAtPiecesFrom 113 = .ok (.if_icmp .ge 26, 3) := by decide +kernel
theorem dX3_lookAtPiecesFrom_116 : decode cX3_lookAtPiecesFrom 116 = .ok (.aload_n 0, 1) := by decide +kernel
theorem dX3_lookAtPiecesFrom_117 : decode cX3_lookAtPiecesFrom 117 = .ok (.iload 6, 2) := by decide +kernel
theorem dX3_lookAtPiecesFrom_119 : decode cX3_lookAtPiecesFrom 119 = .ok (.aload_n 3, 1) := by decide +kernel
theorem dX3_lookAtPiecesFrom_120 : decode cX3_lookAtPiecesFrom 120 = .ok (.iload 4, 2) := by decide +kernel
theorem dX3_lookAtPiecesFrom_122 : decode cX3_lookAtPiecesFrom 122 = .ok (.invokevirtual 83, 3) := by decide +kernel
theorem dX3_lookAtPiecesFrom_125 : decode cX3_lookAtPiecesFrom 125 = .ok (.ifCond .eq 14, 3) := by decide +kernel
theorem dX3_lookAtPiecesFrom_128 : decode cX3_lookAtPiecesFrom 128 = .ok (.aload_n 0, 1) := by decide +kernel
theorem dX3_lookAtPiecesFrom_129 : decode cX3_lookAtPiecesFrom 129 = .ok (.iload_n 1, 1) := by decide +kernel
theorem dX3_lookAtPiecesFrom_130 : decode cX3_lookAtPiecesFrom 130 = .ok (.putfield 16, 3) := by decide +kernel
theorem dX3_lookAtPiecesFrom_133 : decode cX3_lookAtPiecesFrom 133 = .ok (.aload_n 0, 1) := by decide +kernel
theorem dX3_lookAtPiecesFrom_134 : decode cX3_lookAtPiecesFrom 134 = .ok (.iload 6, 2) := by decide +kernel
theorem dX3_lookAtPiecesFrom_136 : decode cX3_lookAtPiecesFrom 136 = .ok (.putfield 20, 3) := by decide +kernel
theorem dX3_lookAtPiecesFrom_139 : decode cX3_lookAtPiecesFrom 139 = .ok (.aload_n 0, 1) := by decide +kernel
theorem dX3_lookAtPiecesFrom_140 : decode cX3_lookAtPiecesFrom 140 = .ok (.invokevirtual 87, 3) := by decide +kernel
theorem dX3_lookAtPiecesFrom_143 : decode cX3_lookAtPiecesFrom 143 = .ok (.ifCond .eq 12, 3) := by decide +kernel
theorem dX3_lookAtPiecesFrom_146 : decode cX3_lookAtPiecesFrom 146 = .ok (.iload 6, 2) := by decide +kernel
theorem dX3_lookAtPiecesFrom_148 : decode cX3_lookAtPiecesFrom 148 = .ok (.aload_n 0, 1) := by decide +kernel
theorem dX3_lookAtPiecesFrom_149 : decode cX3_lookAtPiecesFrom 149 = .ok (.getfield 26, 3) := by decide +kernel
theorem dX3_lookAtPiecesFrom_152 : decode cX3_lookAtPiecesFrom 152 = .ok (.if_icmp .ge 26, 3) := by decide +kernel
theorem dX3_lookAtPiecesFrom_155 : decode cX3_lookAtPiecesFrom 155 = .ok (.aload_n 0, 1) := by decide +kernel
theorem dX3_lookAtPiecesFrom_156 : decode cX3_lookAtPiecesFrom 156 = .ok (.iload 6, 2) := by decide +kernel
theorem dX3_lookAtPiecesFrom_158 : decode cX3_lookAtPiecesFrom 158 = .ok (.aload_n 3, 1) := by decide +kernel
theorem dX3_lookAtPiecesFrom_159 : decode cX3_lookAtPiecesFrom 159 = .ok (.iload 4, 2) := by decide +kernel
theorem dX3_lookAtPiecesFrom_161 : decode cX3_lookAtPiecesFrom 161 = .ok (.invokevirtual 90, 3) := by decide +kernel
theorem dX3_lookAtPiecesFrom_164 : decode cX3_lookAtPiecesFrom 164 = .ok (.ifCond .eq 14, 3) := by decide +kernel
theorem dX3_lookAtPiecesFrom_167 : decode cX3_lookAtPiecesFrom 167 = .ok (.aload_n 0, 1) := by decide +kernel
theorem dX3_lookAtPiecesFrom_168 : decode cX3_lookAtPiecesFrom 168 = .ok (.iload_n 1, 1) := by decide +kernel
theorem dX3_lookAtPiecesFrom_169 : decode cX3_lookAtPiecesFrom 169 = .ok (.putfield 23, 3) := by decide +kernel
theorem dX3_lookAtPiecesFrom_172 : decode cX3_lookAtPiecesFrom 172 = .ok (.aload_n 0, 1) := by decide +kernel
theorem dX3_lookAtPiecesFrom_173 : decode cX3_lookAtPiecesFrom 173 = .ok (.iload 6, 2) := by decide +kernel
theorem dX3_lookAtPiecesFrom_175 : decode cX3_lookAtPiecesFrom 175 = .ok (.putfield 26, 3) := by decide +kernel
theorem dX3_lookAtPiecesFrom_178 : decode cX3_lookAtPiecesFrom 178 = .ok (.iinc 6 1, 3) := by decide +kernel
theorem dX3_lookAtPiecesFrom_181 : decode cX3_lookAtPiecesFrom 181 = .ok (.goto (-104), 3) := by decide +kernel
theorem dX3_lookAtPiecesFrom_184 : decode cX3_lookAtPiecesFrom 184 = .ok (.return_, 1) := by decide +kernel
theorem dX3_longestWanted_0 : decode cX3_longestWanted 0 = .ok (.aload_n 0, 1) := by decide +kernel
theorem dX3_longestWanted_1 : decode cX3_longestWanted 1 = .ok (.invokevirtual 79, 3) := by decide +kernel
theorem dX3_longestWanted_4 : decode cX3_longestWanted 4 = .ok (.ifCond .eq 10, 3) := by decide +kernel
theorem dX3_longestWanted_7 : decode cX3_longestWanted 7 = .ok (.aload_n 0, 1) := by decide +kernel
theorem dX3_longestWanted_8 : decode cX3_longestWanted 8 = .ok (.invokevirtual 87, 3) := by decide +kernel
theorem dX3_longestWanted_11 : decode cX3_longestWanted 11 = .ok (.ifCond .ne 6, 3) := by decide +kernel
theorem dX3_longestWanted_14 : decode cX3_longestWanted 14 = .ok (.bipush 24, 2) := by decide +kernel
theorem dX3_longestWanted_16 : decode cX3_longestWanted 16 = .ok (.ireturn, 1) := by decide +kernel
theorem dX3_longestWanted_17 : decode cX3_longestWanted 17 = .ok (.aload_n 0, 1) := by decide +kernel
theorem dX3_longestWanted_18 : decode cX3_longestWanted 18 = .ok (.getfield 20, 3) := by decide +kernel
theorem dX3_longestWanted_21 : decode cX3_longestWanted 21 = .ok (.aload_n 0, 1) := by decide +kernel
theorem dX3_longestWanted_22 : decode cX3_longestWanted 22 = .ok (.getfield 26, 3) := by decide +kernel
theorem dX3_longestWanted_25 : decode cX3_longestWanted 25 = .ok (.invokestatic 93, 3) := by decide +kernel
theorem dX3_longestWanted_28 : decode cX3_longestWanted 28 = .ok (.iconst 1, 1) := by decide +kernel
theorem dX3_longestWanted_29 : decode cX3_longestWanted 29 = .ok (.isub, 1) := by decide +kernel
theorem dX3_longestWanted_30 : decode cX3_longestWanted 30 = .ok (.ireturn, 1) := by decide +kernel
theorem dX3_findPlaces_0 : decode cX3_findPlaces 0 = .ok (.aload 4, 2) := by decide +kernel
theorem dX3_findPlaces_2 : decode cX3_findPlaces 2 = .ok (.iload 5, 2) := by decide +kernel
theorem dX3_findPlaces_4 : decode cX3_findPlaces 4 = .ok (.invokevirtual 50, 3) := by decide +kernel
theorem dX3_findPlaces_7 : decode cX3_findPlaces 7 = .ok (.astore 6, 2) := by decide +kernel
theorem dX3_findPlaces_9 : decode cX3_findPlaces 9 = .ok (.iconst 0, 1) := by decide +kernel
theorem dX3_findPlaces_10 : decode cX3_findPlaces 10 = .ok (.istore 7, 2) := by decide +kernel
theorem dX3_findPlaces_12 : decode cX3_findPlaces 12 = .ok (.iconst 0, 1) := by decide +kernel
theorem dX3_findPlaces_13 : decode cX3_findPlaces 13 = .ok (.istore 8, 2) := by decide +kernel
theorem dX3_findPlaces_15 : decode cX3_findPlaces 15 = .ok (.iload 8, 2) := by decide +kernel
theorem dX3_findPlaces_17 : decode cX3_findPlaces 17 = .ok (.aload 6, 2) := by decide +kernel
theorem dX3_findPlaces_19 : decode cX3_findPlaces 19 = .ok (.arraylength, 1) := by decide +kernel
theorem dX3_findPlaces_20 : decode cX3_findPlaces 20 = .ok (.if_icmp .ge 78, 3) := by decide +kernel
theorem dX3_findPlaces_23 : decode cX3_findPlaces 23 = .ok (.iload 7, 2) := by decide +kernel
theorem dX3_findPlaces_25 : decode cX3_findPlaces 25 = .ok (.iload_n 1, 1) := by decide +kernel
theorem dX3_findPlaces_26 : decode cX3_findPlaces 26 = .ok (.if_icmp .ge 72, 3) := by decide +kernel
theorem dX3_findPlaces_29 : decode cX3_findPlaces 29 = .ok (.aload 6, 2) := by decide +kernel
theorem dX3_findPlaces_31 : decode cX3_findPlaces 31 = .ok (.iload 8, 2) := by decide +kernel
theorem dX3_findPlaces_33 : decode cX3_findPlaces 33 = .ok (.caload, 1) := by decide +kernel
theorem dX3_findPlaces_34 : decode cX3_findPlaces 34 = .ok (.aload_n 2, 1) := by decide +kernel
theorem dX3_findPlaces_35 : decode cX3_findPlaces 35 = .ok (.iload_n 3, 1) := by decide +kernel
theorem dX3_findPlaces_36 : decode cX3_findPlaces 36 = .ok (.caload, 1) := by decide +kernel
theorem dX3_findPlaces_37 : decode cX3_findPlaces 37 = .ok (.if_icmp .ne 55, 3) := by decide +kernel
theorem dX3_findPlaces_40 : decode cX3_findPlaces 40 = .ok (.aload 4, 2) := by decide +kernel
theorem dX3_findPlaces_42 : decode cX3_findPlaces 42 = .ok (.iload 5, 2) := by decide +kernel
theorem dX3_findPlaces_44 : decode cX3_findPlaces 44 = .ok (.iload 8, 2) := by decide +kernel
theorem dX3_findPlaces_46 : decode cX3_findPlaces 46 = .ok (.invokevirtual 54, 3) := by decide +kernel
theorem dX3_findPlaces_49 : decode cX3_findPlaces 49 = .ok (.ifCond .eq 43, 3) := by decide +kernel
theorem dX3_findPlaces_52 : decode cX3_findPlaces 52 = .ok (.aload_n 2, 1) := by decide +kernel
theorem dX3_findPlaces_53 : decode cX3_findPlaces 53 = .ok (.iload_n 3, 1) := by decide +kernel
theorem dX3_findPlaces_54 : decode cX3_findPlaces 54 = .ok (.aload 6, 2) := by decide +kernel
theorem dX3_findPlaces_56 : decode cX3_findPlaces 56 = .ok (.iload 8, 2) := by decide +kernel
theorem dX3_findPlaces_58 : decode cX3_findPlaces 58 = .ok (.iload_n 1, 1) := by decide +kernel
theorem dX3_findPlaces_59 : decode cX3_findPlaces 59 = .ok (.invokestatic 96, 3) := by decide +kernel
theorem dX3_findPlaces_62 : decode cX3_findPlaces 62 = .ok (.istore 9, 2) := by decide +kernel
theorem dX3_findPlaces_64 : decode cX3_findPlaces 64 = .ok (.iload 7, 2) := by decide +kernel
theorem dX3_findPlaces_66 : decode cX3_findPlaces 66 = .ok (.iload 9, 2) := by decide +kernel
theorem dX3_findPlaces_68 : decode cX3_findPlaces 68 = .ok (.if_icmp .ge 24, 3) := by decide +kernel
theorem dX3_findPlaces_71 : decode cX3_findPlaces 71 = .ok (.iload 7, 2) := by decide +kernel
theorem dX3_findPlaces_73 : decode cX3_findPlaces 73 = .ok (.iconst 1, 1) := by decide +kernel
theorem dX3_findPlaces_74 : decode cX3_findPlaces 74 = .ok (.iadd, 1) := by decide +kernel
theorem dX3_findPlaces_75 : decode cX3_findPlaces 75 = .ok (.aload_n 0, 1) := by decide +kernel
theorem dX3_findPlaces_76 : decode cX3_findPlaces 76 = .ok (.arraylength, 1) := by decide +kernel
theorem dX3_findPlaces_77 : decode cX3_findPlaces 77 = .ok (.if_icmp .ge 15, 3) := by decide +kernel
theorem dX3_findPlaces_80 : decode cX3_findPlaces 80 = .ok (.iinc 7 1, 3) := by decide +kernel
theorem dX3_findPlaces_83 : decode cX3_findPlaces 83 = .ok (.aload_n 0, 1) := by decide +kernel
theorem dX3_findPlaces_84 : decode cX3_findPlaces 84 = .ok (.iload 7, 2) := by decide +kernel
theorem dX3_findPlaces_86 : decode cX3_findPlaces 86 = .ok (.iload 8, 2) := by decide +kernel
theorem dX3_findPlaces_88 : decode cX3_findPlaces 88 = .ok (.iastore, 1) := by decide +kernel
theorem dX3_findPlaces_89 : decode cX3_findPlaces 89 = .ok (.goto (-25), 3) := by decide +kernel
theorem dX3_findPlaces_92 : decode cX3_findPlaces 92 = .ok (.iinc 8 1, 3) := by decide +kernel
theorem dX3_findPlaces_95 : decode cX3_findPlaces 95 = .ok (.goto (-80), 3) := by decide +kernel
theorem dX3_findPlaces_98 : decode cX3_findPlaces 98 = .ok (.iload 7, 2) := by decide +kernel
theorem dX3_findPlaces_100 : decode cX3_findPlaces 100 = .ok (.iconst 1, 1) := by decide +kernel
theorem dX3_findPlaces_101 : decode cX3_findPlaces 101 = .ok (.iadd, 1) := by decide +kernel
theorem dX3_findPlaces_102 : decode cX3_findPlaces 102 = .ok (.istore 8, 2) := by decide +kernel
theorem dX3_findPlaces_104 : decode cX3_findPlaces 104 = .ok (.iload 8, 2) := by decide +kernel
theorem dX3_findPlaces_106 : decode cX3_findPlaces 106 = .ok (.iload_n 1, 1) := by decide +kernel
theorem dX3_findPlaces_107 : decode cX3_findPlaces 107 = .ok (.if_icmp .gt 22, 3) := by decide +kernel
theorem dX3_findPlaces_110 : decode cX3_findPlaces 110 = .ok (.iload 8, 2) := by decide +kernel
theorem dX3_findPlaces_112 : decode cX3_findPlaces 112 = .ok (.aload_n 0, 1) := by decide +kernel
theorem dX3_findPlaces_113 : decode cX3_findPlaces 113 = .ok (.arraylength, 1) := by decide +kernel
theorem dX3_findPlaces_114 : decode cX3_findPlaces 114 = .ok (.if_icmp .ge 15, 3) := by decide +kernel
theorem dX3_findPlaces_117 : decode cX3_findPlaces 117 = .ok (.aload_n 0, 1) := by decide +kernel
theorem dX3_findPlaces_118 : decode cX3_findPlaces 118 = .ok (.iload 8, 2) := by decide +kernel
theorem dX3_findPlaces_120 : decode cX3_findPlaces 120 = .ok (.bipush (-6), 2) := by decide +kernel
theorem dX3_findPlaces_122 : decode cX3_findPlaces 122 = .ok (.iastore, 1) := by decide +kernel
theorem dX3_findPlaces_123 : decode cX3_findPlaces 123 = .ok (.iinc 8 1, 3) := by decide +kernel
theorem dX3_findPlaces_126 : decode cX3_findPlaces 126 = .ok (.goto (-22), 3) := by decide +kernel
theorem dX3_findPlaces_129 : decode cX3_findPlaces 129 = .ok (.return_, 1) := by decide +kernel
theorem dX3_isKnownBy_0 : decode cX3_isKnownBy 0 = .ok (.iconst 0, 1) := by decide +kernel
theorem dX3_isKnownBy_1 : decode cX3_isKnownBy 1 = .ok (.istore 4, 2) := by decide +kernel
theorem dX3_isKnownBy_3 : decode cX3_isKnownBy 3 = .ok (.iload 4, 2) := by decide +kernel
theorem dX3_isKnownBy_5 : decode cX3_isKnownBy 5 = .ok (.aload_n 2, 1) := by decide +kernel
theorem dX3_isKnownBy_6 : decode cX3_isKnownBy 6 = .ok (.getfield 35, 3) := by decide +kernel
theorem dX3_isKnownBy_9 : decode cX3_isKnownBy 9 = .ok (.invokevirtual 72, 3) := by decide +kernel
theorem dX3_isKnownBy_12 : decode cX3_isKnownBy 12 = .ok (.if_icmp .ge 27, 3) := by decide +kernel
theorem dX3_isKnownBy_15 : decode cX3_isKnownBy 15 = .ok (.iload 4, 2) := by decide +kernel
theorem dX3_isKnownBy_17 : decode cX3_isKnownBy 17 = .ok (.iload_n 3, 1) := by decide +kernel
theorem dX3_isKnownBy_18 : decode cX3_isKnownBy 18 = .ok (.if_icmp .eq 15, 3) := by decide +kernel
theorem dX3_isKnownBy_21 : decode cX3_isKnownBy 21 = .ok (.aload_n 0, 1) := by decide +kernel
theorem dX3_isKnownBy_22 : decode cX3_isKnownBy 22 = .ok (.iload 4, 2) := by decide +kernel
theorem dX3_isKnownBy_24 : decode cX3_isKnownBy 24 = .ok (.iload_n 1, 1) := by decide +kernel
theorem dX3_isKnownBy_25 : decode cX3_isKnownBy 25 = .ok (.invokevirtual 100, 3) := by decide +kernel
theorem dX3_isKnownBy_28 : decode cX3_isKnownBy 28 = .ok (.ifCond .lt 5, 3) := by decide +kernel
theorem dX3_isKnownBy_31 : decode cX3_isKnownBy 31 = .ok (.iconst 0, 1) := by decide +kernel
theorem dX3_isKnownBy_32 : decode cX3_isKnownBy 32 = .ok (.ireturn, 1) := by decide +kernel
theorem dX3_isKnownBy_33 : decode cX3_isKnownBy 33 = .ok (.iinc 4 1, 3) := by decide +kernel
theorem dX3_isKnownBy_36 : decode cX3_isKnownBy 36 = .ok (.goto (-33), 3) := by decide +kernel
theorem dX3_isKnownBy_39 : decode cX3_isKnownBy 39 = .ok (.iconst 1, 1) := by decide +kernel
theorem dX3_isKnownBy_40 : decode cX3_isKnownBy 40 = .ok (.ireturn, 1) := by decide +kernel
theorem dX3_isFirstFor_0 : decode cX3_isFirstFor 0 = .ok (.aload_n 0, 1) := by decide +kernel
theorem dX3_isFirstFor_1 : decode cX3_isFirstFor 1 = .ok (.iload_n 3, 1) := by decide +kernel
theorem dX3_isFirstFor_2 : decode cX3_isFirstFor 2 = .ok (.iload_n 1, 1) := by decide +kernel
theorem dX3_isFirstFor_3 : decode cX3_isFirstFor 3 = .ok (.invokevirtual 100, 3) := by decide +kernel
theorem dX3_isFirstFor_6 : decode cX3_isFirstFor 6 = .ok (.istore 4, 2) := by decide +kernel
theorem dX3_isFirstFor_8 : decode cX3_isFirstFor 8 = .ok (.iconst 0, 1) := by decide +kernel
theorem dX3_isFirstFor_9 : decode cX3_isFirstFor 9 = .ok (.istore 5, 2) := by decide +kernel
theorem dX3_isFirstFor_11 : decode cX3_isFirstFor 11 = .ok (.iload 5, 2) := by decide +kernel
theorem dX3_isFirstFor_13 : decode cX3_isFirstFor 13 = .ok (.aload_n 2, 1) := by decide +kernel
theorem dX3_isFirstFor_14 : decode cX3_isFirstFor 14 = .ok (.getfield 35, 3) := by decide +kernel
theorem dX3_isFirstFor_17 : decode cX3_isFirstFor 17 = .ok (.invokevirtual 72, 3) := by decide +kernel
theorem dX3_isFirstFor_20 : decode cX3_isFirstFor 20 = .ok (.if_icmp .ge 45, 3) := by decide +kernel
theorem dX3_isFirstFor_23 : decode cX3_isFirstFor 23 = .ok (.aload_n 0, 1) := by decide +kernel
theorem dX3_isFirstFor_24 : decode cX3_isFirstFor 24 = .ok (.iload 5, 2) := by decide +kernel
theorem dX3_isFirstFor_26 : decode cX3_isFirstFor 26 = .ok (.iload_n 1, 1) := by decide +kernel
theorem dX3_isFirstFor_27 : decode cX3_isFirstFor 27 = .ok (.invokevirtual 100, 3) := by decide +kernel
theorem dX3_isFirstFor_30 : decode cX3_isFirstFor 30 = .ok (.istore 6, 2) := by decide +kernel
theorem dX3_isFirstFor_32 : decode cX3_isFirstFor 32 = .ok (.iload 5, 2) := by decide +kernel
theorem dX3_isFirstFor_34 : decode cX3_isFirstFor 34 = .ok (.iload_n 3, 1) := by decide +kernel
theorem dX3_isFirstFor_35 : decode cX3_isFirstFor 35 = .ok (.if_icmp .eq 24, 3) := by decide +kernel
theorem dX3_isFirstFor_38 : decode cX3_isFirstFor 38 = .ok (.iload 6, 2) := by decide +kernel
theorem dX3_isFirstFor_40 : decode cX3_isFirstFor 40 = .ok (.ifCond .lt 19, 3) := by decide +kernel
theorem dX3_isFirstFor_43 : decode cX3_isFirstFor 43 = .ok (.aload_n 2, 1) := by decide +kernel
theorem dX3_isFirstFor_44 : decode cX3_isFirstFor 44 = .ok (.iload 5, 2) := by decide +kernel
theorem dX3_isFirstFor_46 : decode cX3_isFirstFor 46 = .ok (.iload 6, 2) := by decide +kernel
theorem dX3_isFirstFor_48 : decode cX3_isFirstFor 48 = .ok (.iload_n 3, 1) := by decide +kernel
theorem dX3_isFirstFor_49 : decode cX3_isFirstFor 49 = .ok (.iload 4, 2) := by decide +kernel
theorem dX3_isFirstFor_51 : decode cX3_isFirstFor 51 = .ok (.invokevirtual 103, 3) := by decide +kernel
theorem dX3_isFirstFor_54 : decode cX3_isFirstFor 54 = .ok (.ifCond .eq 5, 3) := by decide +kernel
theorem dX3_isFirstFor_57 : decode cX3_isFirstFor 57 = .ok (.iconst 0, 1) := by decide +kernel
theorem dX3_isFirstFor_58 : decode cX3_isFirstFor 58 = .ok (.ireturn, 1) := by decide +kernel
theorem dX3_isFirstFor_59 : decode cX3_isFirstFor 59 = .ok (.iinc 5 1, 3) := by decide +kernel
theorem dX3_isFirstFor_62 : decode cX3_isFirstFor 62 = .ok (.goto (-51), 3) := by decide +kernel
theorem dX3_isFirstFor_65 : decode cX3_isFirstFor 65 = .ok (.iconst 1, 1) := by decide +kernel
theorem dX3_isFirstFor_66 : decode cX3_isFirstFor 66 = .ok (.ireturn, 1) := by decide +kernel
theorem dX3_placeOf_0 : decode cX3_placeOf 0 = .ok (.iload_n 1, 1) := by decide +kernel
theorem dX3_placeOf_1 : decode cX3_placeOf 1 = .ok (.ifCond .lt 22, 3) := by decide +kernel
theorem dX3_placeOf_4 : decode cX3_placeOf 4 = .ok (.iload_n 1, 1) := by decide +kernel
theorem dX3_placeOf_5 : decode cX3_placeOf 5 = .ok (.aload_n 0, 1) := by decide +kernel
theorem dX3_placeOf_6 : decode cX3_placeOf 6 = .ok (.getfield 11, 3) := by decide +kernel
theorem dX3_placeOf_9 : decode cX3_placeOf 9 = .ok (.arraylength, 1) := by decide +kernel
theorem dX3_placeOf_10 : decode cX3_placeOf 10 = .ok (.if_icmp .ge 13, 3) := by decide +kernel
theorem dX3_placeOf_13 : decode cX3_placeOf 13 = .ok (.iload_n 2, 1) := by decide +kernel
theorem dX3_placeOf_14 : decode cX3_placeOf 14 = .ok (.ifCond .lt 9, 3) := by decide +kernel
theorem dX3_placeOf_17 : decode cX3_placeOf 17 = .ok (.iload_n 2, 1) := by decide +kernel
theorem dX3_placeOf_18 : decode cX3_placeOf 18 = .ok (.bipush 24, 2) := by decide +kernel
theorem dX3_placeOf_20 : decode cX3_placeOf 20 = .ok (.if_icmp .le 6, 3) := by decide +kernel
theorem dX3_placeOf_23 : decode cX3_placeOf 23 = .ok (.bipush (-6), 2) := by decide +kernel
theorem dX3_placeOf_25 : decode cX3_placeOf 25 = .ok (.ireturn, 1) := by decide +kernel
theorem dX3_placeOf_26 : decode cX3_placeOf 26 = .ok (.aload_n 0, 1) := by decide +kernel
theorem dX3_placeOf_27 : decode cX3_placeOf 27 = .ok (.getfield 11, 3) := by decide +kernel
theorem dX3_placeOf_30 : decode cX3_placeOf 30 = .ok (.iload_n 1, 1) := by decide +kernel
theorem dX3_placeOf_31 : decode cX3_placeOf 31 = .ok (.aaload, 1) := by decide +kernel
theorem dX3_placeOf_32 : decode cX3_placeOf 32 = .ok (.iload_n 2, 1) := by decide +kernel
theorem dX3_placeOf_33 : decode cX3_placeOf 33 = .ok (.iaload, 1) := by decide +kernel
theorem dX3_placeOf_34 : decode cX3_placeOf 34 = .ok (.ireturn, 1) := by decide +kernel
theorem dX4_init_0 : decode cX4_init 0 = .ok (.aload_n 0, 1) := by decide +kernel
theorem dX4_init_1 : decode cX4_init 1 = .ok (.invokespecial 3, 3) := by decide +kernel
theorem dX4_init_4 : decode cX4_init 4 = .ok (.aload_n 0, 1) := by decide +kernel
theorem dX4_init_5 : decode cX4_init 5 = .ok (.bipush 80, 2) := by decide +kernel
theorem dX4_init_7 : decode cX4_init 7 = .ok (.newarray .char, 2) := by decide +kernel
theorem dX4_init_9 : decode cX4_init 9 = .ok (.putfield 9, 3) := by decide +kernel
theorem dX4_init_12 : decode cX4_init 12 = .ok (.return_, 1) := by decide +kernel
theorem dX4_append_0 : decode cX4_append 0 = .ok (.aload_n 0, 1) := by decide +kernel
theorem dX4_append_1 : decode cX4_append 1 = .ok (.getfield 15, 3) := by decide +kernel
theorem dX4_append_4 : decode cX4_append 4 = .ok (.ifCond .lt 15, 3) := by decide +kernel
theorem dX4_append_7 : decode cX4_append 7 = .ok (.aload_n 0, 1) := by decide +kernel
theorem dX4_append_8 : decode cX4_append 8 = .ok (.getfield 15, 3) := by decide +kernel
theorem dX4_append_11 : decode cX4_append 11 = .ok (.aload_n 0, 1) := by decide +kernel
theorem dX4_append_12 : decode cX4_append 12 = .ok (.getfield 9, 3) := by decide +kernel
theorem dX4_append_15 : decode cX4_append 15 = .ok (.arraylength, 1) := by decide +kernel
theorem dX4_append_16 : decode cX4_append 16 = .ok (.if_icmp .lt 5, 3) := by decide +kernel
theorem dX4_append_19 : decode cX4_append 19 = .ok (.iconst 0, 1) := by decide +kernel
theorem dX4_append_20 : decode cX4_append 20 = .ok (.ireturn, 1) := by decide +kernel
theorem dX4_append_21 : decode cX4_append 21 = .ok (.aload_n 0, 1) := by decide +kernel
theorem dX4_append_22 : decode cX4_append 22 = .ok (.getfield 9, 3) := by decide +kernel
theorem dX4_append_25 : decode cX4_append 25 = .ok (.aload_n 0, 1) := by decide +kernel
theorem dX4_append_26 : decode cX4_append 26 = .ok (.getfield 15, 3) := by decide +kernel
theorem dX4_append_29 : decode cX4_append 29 = .ok (.iload_n 1, 1) := by decide +kernel
theorem dX4_append_30 : decode cX4_append 30 = .ok (.castore, 1) := by decide +kernel
theorem dX4_append_31 : decode cX4_append 31 = .ok (.aload_n 0, 1) := by decide +kernel
theorem dX4_append_32 : decode cX4_append 32 = .ok (.dup, 1) := by decide +kernel
theorem dX4_append_33 : decode cX4_append 33 = .ok (.getfield 15, 3) := by decide +kernel
theorem dX4_append_36 : decode cX4_append 36 = .ok (.iconst 1, 1) := by decide +kernel
theorem dX4_append_37 : decode cX4_append 37 = .ok (.iadd, 1) := by decide +kernel
theorem dX4_append_38 : decode cX4_append 38 = .ok (.putfield 15, 3) := by decide +kernel
theorem dX4_append_41 : decode cX4_append 41 = .ok (.iconst 1, 1) := by decide +kernel
theorem dX4_append_42 : decode cX4_append 42 = .ok (.ireturn, 1) := by decide +kernel
theorem dX4_makeEmpty_0 : decode cX4_makeEmpty 0 = .ok (.aload_n 0, 1) := by decide +kernel
theorem dX4_makeEmpty_1 : decode cX4_makeEmpty 1 = .ok (.iconst 0, 1) := by decide +kernel
theorem dX4_makeEmpty_2 : decode cX4_makeEmpty 2 = .ok (.putfield 15, 3) := by decide +kernel
theorem dX4_makeEmpty_5 : decode cX4_makeEmpty 5 = .ok (.return_, 1) := by decide +kernel
theorem dX4_rewind_0 : decode cX4_rewind 0 = .ok (.aload_n 0, 1) := by decide +kernel
theorem dX4_rewind_1 : decode cX4_rewind 1 = .ok (.iconst 0, 1) := by decide +kernel
theorem dX4_rewind_2 : decode cX4_rewind 2 = .ok (.putfield 19, 3) := by decide +kernel
theorem dX4_rewind_5 : decode cX4_rewind 5 = .ok (.return_, 1) := by decide +kernel
theorem dX4_findFault_0 : decode cX4_findFault 0 = .ok (.aload_n 0, 1) := by decide +kernel
theorem dX4_findFault_1 : decode cX4_findFault 1 = .ok (.invokevirtual 22, 3) := by decide +kernel
theorem dX4_findFault_4 : decode cX4_findFault 4 = .ok (.iconst 0, 1) := by decide +kernel
theorem dX4_findFault_5 : decode cX4_findFault 5 = .ok (.istore_n 1, 1) := by decide +kernel
theorem dX4_findFault_6 : decode cX4_findFault 6 = .ok (.iload_n 1, 1) := by decide +kernel
theorem dX4_findFault_7 : decode cX4_findFault 7 = .ok (.bipush 80, 2) := by decide +kernel
theorem dX4_findFault_9 : decode cX4_findFault 9 = .ok (.if_icmp .gt 47, 3) := by decide +kernel
theorem dX4_findFault_12 : decode cX4_findFault 12 = .ok (.aload_n 0, 1) := by decide +kernel
theorem dX4_findFault_13 : decode cX4_findFault 13 = .ok (.invokevirtual 25, 3) := by decide +kernel
theorem dX4_findFault_16 : decode cX4_findFault 16 = .ok (.ifCond .ne 8, 3) := by decide +kernel
theorem dX4_findFault_19 : decode cX4_findFault 19 = .ok (.aload_n 0, 1) := by decide +kernel
theorem dX4_findFault_20 : decode cX4_findFault 20 = .ok (.getfield 19, 3) := by decide +kernel
theorem dX4_findFault_23 : decode cX4_findFault 23 = .ok (.ireturn, 1) := by decide +kernel
theorem dX4_findFault_24 : decode cX4_findFault 24 = .ok (.aload_n 0, 1) := by decide +kernel
theorem dX4_findFault_25 : decode cX4_findFault 25 = .ok (.getfield 19, 3) := by decide +kernel
theorem dX4_findFault_28 : decode cX4_findFault 28 = .ok (.aload_n 0, 1) := by decide +kernel
theorem dX4_findFault_29 : decode cX4_findFault 29 = .ok (.getfield 15, 3) := by decide +kernel
theorem dX4_findFault_32 : decode cX4_findFault 32 = .ok (.if_icmp .lt 6, 3) := by decide +kernel
theorem dX4_findFault_35 : decode cX4_findFault 35 = .ok (.bipush (-6), 2) := by decide +kernel
theorem dX4_findFault_37 : decode cX4_findFault 37 = .ok (.ireturn, 1) := by decide +kernel
theorem dX4_findFault_38 : decode cX4_findFault 38 = .ok (.aload_n 0, 1) := by decide +kernel
theorem dX4_findFault_39 : decode cX4_findFault 39 = .ok (.invokevirtual 29, 3) := by decide +kernel
theorem dX4_findFault_42 : decode cX4_findFault 42 = .ok (.ifCond .ne 8, 3) := by decide +kernel
theorem dX4_findFault_45 : decode cX4_findFault 45 = .ok (.aload_n 0, 1) := by decide +kernel
theorem dX4_findFault_46 : decode cX4_findFault 46 = .ok (.getfield 19, 3) := by decide +kernel
theorem dX4_findFault_49 : decode cX4_findFault 49 = .ok (.ireturn, 1) := by decide +kernel
theorem dX4_findFault_50 : decode cX4_findFault 50 = .ok (.iinc 1 1, 3) := by decide +kernel
theorem dX4_findFault_53 : decode cX4_findFault 53 = .ok (.goto (-47), 3) := by decide +kernel
theorem dX4_findFault_56 : decode cX4_findFault 56 = .ok (.aload_n 0, 1) := by decide +kernel
theorem dX4_findFault_57 : decode cX4_findFault 57 = .ok (.getfield 19, 3) := by decide +kernel
theorem dX4_findFault_60 : decode cX4_findFault 60 = .ok (.ireturn, 1) := by decide +kernel
theorem dX4_isTitle_0 : decode cX4_isTitle 0 = .ok (.aload_n 0, 1) := by decide +kernel
theorem dX4_isTitle_1 : decode cX4_isTitle 1 = .ok (.invokevirtual 22, 3) := by decide +kernel
theorem dX4_isTitle_4 : decode cX4_isTitle 4 = .ok (.aload_n 0, 1) := by decide +kernel
theorem dX4_isTitle_5 : decode cX4_isTitle 5 = .ok (.invokevirtual 32, 3) := by decide +kernel
theorem dX4_isTitle_8 : decode cX4_isTitle 8 = .ok (.ifCond .eq 18, 3) := by decide +kernel
theorem dX4_isTitle_11 : decode cX4_isTitle 11 = .ok (.aload_n 0, 1) := by decide +kernel
theorem dX4_isTitle_12 : decode cX4_isTitle 12 = .ok (.getfield 19, 3) := by decide +kernel
theorem dX4_isTitle_15 : decode cX4_isTitle 15 = .ok (.aload_n 0, 1) := by decide +kernel
theorem dX4_isTitle_16 : decode cX4_isTitle 16 = .ok (.getfield 15, 3) := by decide +kernel
theorem dX4_isTitle_19 : decode cX4_isTitle 19 = .ok (.if_icmp .lt 7, 3) := by decide +kernel
theorem dX4_isTitle_22 : decode cX4_isTitle 22 = .ok (.iconst 1, 1) := by decide +kernel
theorem dX4_isTitle_23 : decode cX4_isTitle 23 = .ok (.goto 4, 3) := by decide +kernel
theorem dX4_isTitle_26 : decode cX4_isTitle 26 = .ok (.iconst 0, 1) := by decide +kernel
theorem dX4_isTitle_27 : decode cX4_isTitle 27 = .ok (.ireturn, 1) := by decide +kernel
theorem dX4_passCommand_0 : decode cX4_passCommand 0 = .ok (.aload_n 0, 1) := by decide +kernel
theorem dX4_passCommand_1 : decode cX4_passCommand 1 = .ok (.aload_n 0, 1) := by decide +kernel
theorem dX4_passCommand_2 : decode cX4_passCommand 2 = .ok (.iconst 0, 1) := by decide +kernel
theorem dX4_passCommand_3 : decode cX4_passCommand 3 = .ok (.bipush 6, 2) := by decide +kernel
theorem dX4_passCommand_5 : decode cX4_passCommand 5 = .ok (.invokevirtual 35, 3) := by decide +kernel
theorem dX4_passCommand_8 : decode cX4_passCommand 8 = .ok (.putfield 39, 3) := by decide +kernel
theorem dX4_passCommand_11 : decode cX4_passCommand 11 = .ok (.aload_n 0, 1) := by decide +kernel
theorem dX4_passCommand_12 : decode cX4_passCommand 12 = .ok (.getfield 39, 3) := by decide +kernel
theorem dX4_passCommand_15 : decode cX4_passCommand 15 = .ok (.tableswitch 71 0 6 #[41, 46, 51, 60, 41, 46, 69], 41) := by decide +kernel
theorem dX4_passCommand_56 : decode cX4_passCommand 56 = .ok (.aload_n 0, 1) := by decide +kernel
theorem dX4_passCommand_57 : decode cX4_passCommand 57 = .ok (.invokevirtual 32, 3) := by decide +kernel
theorem dX4_passCommand_60 : decode cX4_passCommand 60 = .ok (.ireturn, 1) := by decide +kernel
theorem dX4_passCommand_61 : decode cX4_passCommand 61 = .ok (.aload_n 0, 1) := by decide +kernel
theorem dX4_passCommand_62 : decode cX4_passCommand 62 = .ok (.invokevirtual 42, 3) := by decide +kernel
theorem dX4_passCommand_65 : decode cX4_passCommand 65 = .ok (.ireturn, 1) := by decide +kernel
theorem dX4_passCommand_66 : decode cX4_passCommand 66 = .ok (.aload_n 0, 1) := by decide +kernel
theorem dX4_passCommand_67 : decode cX4_passCommand 67 = .ok (.bipush 7, 2) := by decide +kernel
theorem dX4_passCommand_69 : decode cX4_passCommand 69 = .ok (.bipush 10, 2) := by decide +kernel
theorem dX4_passCommand_71 : decode cX4_passCommand 71 = .ok (.invokevirtual 45, 3) := by decide +kernel
theorem dX4_passCommand_74 : decode cX4_passCommand 74 = .ok (.ireturn, 1) := by decide +kernel
theorem dX4_passCommand_75 : decode cX4_passCommand 75 = .ok (.aload_n 0, 1) := by decide +kernel
theorem dX4_passCommand_76 : decode cX4_passCommand 76 = .ok (.bipush 11, 2) := by decide +kernel
theorem dX4_passCommand_78 : decode cX4_passCommand 78 = .ok (.bipush 13, 2) := by decide +kernel
theorem dX4_passCommand_80 : decode cX4_passCommand 80 = .ok (.invokevirtual 45, 3) := by decide +kernel
theorem dX4_passCommand_83 : decode cX4_passCommand 83 = .ok (.ireturn, 1) := by decide +kernel
theorem dX4_passCommand_84 : decode cX4_passCommand 84 = .ok (.iconst 1, 1) := by decide +kernel
theorem dX4_passCommand_85 : decode cX4_passCommand 85 = .ok (.ireturn, 1) := by decide +kernel
theorem dX4_passCommand_86 : decode cX4_passCommand 86 = .ok (.iconst 0, 1) := by decide +kernel
theorem dX4_passCommand_87 : decode cX4_passCommand 87 = .ok (.ireturn, 1) := by decide +kernel
theorem dX4_passSemicolon_0 : decode cX4_passSemicolon 0 = .ok (.aload_n 0, 1) := by decide +kernel
theorem dX4_passSemicolon_1 : decode cX4_passSemicolon 1 = .ok (.invokevirtual 49, 3) := by decide +kernel
theorem dX4_passSemicolon_4 : decode cX4_passSemicolon 4 = .ok (.ifCond .eq 17, 3) := by decide +kernel
theorem dX4_passSemicolon_7 : decode cX4_passSemicolon 7 = .ok (.aload_n 0, 1) := by decide +kernel
theorem dX4_passSemicolon_8 : decode cX4_passSemicolon 8 = .ok (.getfield 9, 3) := by decide +kernel
theorem dX4_passSemicolon_11 : decode cX4_passSemicolon 11 = .ok (.aload_n 0, 1) := by decide +kernel
theorem dX4_passSemicolon_12 : decode cX4_passSemicolon 12 = .ok (.getfield 19, 3) := by decide +kernel
theorem dX4_passSemicolon_15 : decode cX4_passSemicolon 15 = .ok (.caload, 1) := by decide +kernel
theorem dX4_passSemicolon_16 : decode cX4_passSemicolon 16 = .ok (.bipush 59, 2) := by decide +kernel
theorem dX4_passSemicolon_18 : decode cX4_passSemicolon 18 = .ok (.if_icmp .eq 5, 3) := by decide +kernel
theorem dX4_passSemicolon_21 : decode cX4_passSemicolon 21 = .ok (.iconst 0, 1) := by decide +kernel
theorem dX4_passSemicolon_22 : decode cX4_passSemicolon 22 = .ok (.ireturn, 1) := by decide +kernel
theorem dX4_passSemicolon_23 : decode cX4_passSemicolon 23 = .ok (.aload_n 0, 1) := by decide +kernel
theorem dX4_passSemicolon_24 : decode cX4_passSemicolon 24 = .ok (.dup, 1) := by decide +kernel
theorem dX4_passSemicolon_25 : decode cX4_passSemicolon 25 = .ok (.getfield 19, 3) := by decide +kernel
theorem dX4_passSemicolon_28 : decode cX4_passSemicolon 28 = .ok (.iconst 1, 1) := by decide +kernel
theorem dX4_passSemicolon_29 : decode cX4_passSemicolon 29 = .ok (.iadd, 1) := by decide +kernel
theorem dX4_passSemicolon_30 : decode cX4_passSemicolon 30 = .ok (.putfield 19, 3) := by decide +kernel
theorem dX4_passSemicolon_33 : decode cX4_passSemicolon 33 = .ok (.iconst 1, 1) := by decide +kernel
theorem dX4_passSemicolon_34 : decode cX4_passSemicolon 34 = .ok (.ireturn, 1) := by decide +kernel
theorem dX4_passTitle_0 : decode cX4_passTitle 0 = .ok (.aload_n 0, 1) := by decide +kernel
theorem dX4_passTitle_1 : decode cX4_passTitle 1 = .ok (.aload_n 0, 1) := by decide +kernel
theorem dX4_passTitle_2 : decode cX4_passTitle 2 = .ok (.getfield 19, 3) := by decide +kernel
theorem dX4_passTitle_5 : decode cX4_passTitle 5 = .ok (.putfield 52, 3) := by decide +kernel
theorem dX4_passTitle_8 : decode cX4_passTitle 8 = .ok (.iconst 1, 1) := by decide +kernel
theorem dX4_passTitle_9 : decode cX4_passTitle 9 = .ok (.istore_n 1, 1) := by decide +kernel
theorem dX4_passTitle_10 : decode cX4_passTitle 10 = .ok (.iconst 1, 1) := by decide +kernel
theorem dX4_passTitle_11 : decode cX4_passTitle 11 = .ok (.istore_n 2, 1) := by decide +kernel
theorem dX4_passTitle_12 : decode cX4_passTitle 12 = .ok (.iload_n 2, 1) := by decide +kernel
theorem dX4_passTitle_13 : decode cX4_passTitle 13 = .ok (.bipush 24, 2) := by decide +kernel
theorem dX4_passTitle_15 : decode cX4_passTitle 15 = .ok (.if_icmp .gt 87, 3) := by decide +kernel
theorem dX4_passTitle_18 : decode cX4_passTitle 18 = .ok (.aload_n 0, 1) := by decide +kernel
theorem dX4_passTitle_19 : decode cX4_passTitle 19 = .ok (.invokevirtual 49, 3) := by decide +kernel
theorem dX4_passTitle_22 : decode cX4_passTitle 22 = .ok (.ifCond .eq 80, 3) := by decide +kernel
theorem dX4_passTitle_25 : decode cX4_passTitle 25 = .ok (.aload_n 0, 1) := by decide +kernel
theorem dX4_passTitle_26 : decode cX4_passTitle 26 = .ok (.getfield 9, 3) := by decide +kernel
theorem dX4_passTitle_29 : decode cX4_passTitle 29 = .ok (.aload_n 0, 1) := by decide +kernel
theorem dX4_passTitle_30 : decode cX4_passTitle 30 = .ok (.getfield 19, 3) := by decide +kernel
theorem dX4_passTitle_33 : decode cX4_passTitle 33 = .ok (.caload, 1) := by decide +kernel
theorem dX4_passTitle_34 : decode cX4_passTitle 34 = .ok (.bipush 32, 2) := by decide +kernel
theorem dX4_passTitle_36 : decode cX4_passTitle 36 = .ok (.if_icmp .ne 7, 3) := by decide +kernel
theorem dX4_passTitle_39 : decode cX4_passTitle 39 = .ok (.iconst 1, 1) := by decide +kernel
theorem dX4_passTitle_40 : decode cX4_passTitle 40 = .ok (.goto 4, 3) := by decide +kernel
theorem dX4_passTitle_43 : decode cX4_passTitle 43 = .ok (.iconst 0, 1) := by decide +kernel
theorem dX4_passTitle_44 : decode cX4_passTitle 44 = .ok (.istore_n 3, 1) := by decide +kernel
theorem dX4_passTitle_45 : decode cX4_passTitle 45 = .ok (.iload_n 3, 1) := by decide +kernel
theorem dX4_passTitle_46 : decode cX4_passTitle 46 = .ok (.ifCond .eq 16, 3) := by decide +kernel
theorem dX4_passTitle_49 : decode cX4_passTitle 49 = .ok (.iload_n 1, 1) := by decide +kernel
theorem dX4_passTitle_50 : decode cX4_passTitle 50 = .ok (.ifCond .ne 52, 3) := by decide +kernel
theorem dX4_passTitle_53 : decode cX4_passTitle 53 = .ok (.iload_n 2, 1) := by decide +kernel
theorem dX4_passTitle_54 : decode cX4_passTitle 54 = .ok (.bipush 24, 2) := by decide +kernel
theorem dX4_passTitle_56 : decode cX4_passTitle 56 = .ok (.if_icmp .ne 6, 3) := by decide +kernel
theorem dX4_passTitle_59 : decode cX4_passTitle 59 = .ok (.goto 43, 3) := by decide +kernel
theorem dX4_passTitle_62 : decode cX4_passTitle 62 = .ok (.iload_n 3, 1) := by decide +kernel
theorem dX4_passTitle_63 : decode cX4_passTitle 63 = .ok (.ifCond .ne 21, 3) := by decide +kernel
theorem dX4_passTitle_66 : decode cX4_passTitle 66 = .ok (.aload_n 0, 1) := by decide +kernel
theorem dX4_passTitle_67 : decode cX4_passTitle 67 = .ok (.getfield 9, 3) := by decide +kernel
theorem dX4_passTitle_70 : decode cX4_passTitle 70 = .ok (.aload_n 0, 1) := by decide +kernel
theorem dX4_passTitle_71 : decode cX4_passTitle 71 = .ok (.getfield 19, 3) := by decide +kernel
theorem dX4_passTitle_74 : decode cX4_passTitle 74 = .ok (.caload, 1) := by decide +kernel
theorem dX4_passTitle_75 : decode cX4_passTitle 75 = .ok (.invokestatic 55, 3) := by decide +kernel
theorem dX4_passTitle_78 : decode cX4_passTitle 78 = .ok (.ifCond .ne 6, 3) := by decide +kernel
theorem dX4_passTitle_81 : decode cX4_passTitle 81 = .ok (.goto 21, 3) := by decide +kernel
theorem dX4_passTitle_84 : decode cX4_passTitle 84 = .ok (.iload_n 3, 1) := by decide +kernel
theorem dX4_passTitle_85 : decode cX4_passTitle 85 = .ok (.istore_n 1, 1) := by decide +kernel
theorem dX4_passTitle_86 : decode cX4_passTitle 86 = .ok (.aload_n 0, 1) := by decide +kernel
theorem dX4_passTitle_87 : decode cX4_passTitle 87 = .ok (.dup, 1) := by decide +kernel
theorem dX4_passTitle_88 : decode cX4_passTitle 88 = .ok (.getfield 19, 3) := by decide +kernel
theorem dX4_passTitle_91 : decode cX4_passTitle 91 = .ok (.iconst 1, 1) := by decide +kernel
theorem dX4_passTitle_92 : decode cX4_passTitle 92 = .ok (.iadd, 1) := by decide +kernel
theorem dX4_passTitle_93 : decode cX4_passTitle 93 = .ok (.putfield 19, 3) := by decide +kernel
theorem dX4_passTitle_96 : decode cX4_passTitle 96 = .ok (.iinc 2 1, 3) := by decide +kernel
theorem dX4_passTitle_99 : decode cX4_passTitle 99 = .ok (.goto (-87), 3) := by decide +kernel
theorem dX4_passTitle_102 : decode cX4_passTitle 102 = .ok (.aload_n 0, 1) := by decide +kernel
theorem dX4_passTitle_103 : decode cX4_passTitle 103 = .ok (.aload_n 0, 1) := by decide +kernel
theorem dX4_passTitle_104 : decode cX4_passTitle 104 = .ok (.getfield 19, 3) := by decide +kernel
theorem dX4_passTitle_107 : decode cX4_passTitle 107 = .ok (.putfield 59, 3) := by decide +kernel
theorem dX4_passTitle_110 : decode cX4_passTitle 110 = .ok (.iload_n 1, 1) := by decide +kernel
theorem dX4_passTitle_111 : decode cX4_passTitle 111 = .ok (.ifCond .ne 7, 3) := by decide +kernel
theorem dX4_passTitle_114 : decode cX4_passTitle 114 = .ok (.iconst 1, 1) := by decide +kernel
theorem dX4_passTitle_115 : decode cX4_passTitle 115 = .ok (.goto 4, 3) := by decide +kernel
theorem dX4_passTitle_118 : decode cX4_passTitle 118 = .ok (.iconst 0, 1) := by decide +kernel
theorem dX4_passTitle_119 : decode cX4_passTitle 119 = .ok (.ireturn, 1) := by decide +kernel
theorem dX4_passNumber_0 : decode cX4_passNumber 0 = .ok (.aload_n 0, 1) := by decide +kernel
theorem dX4_passNumber_1 : decode cX4_passNumber 1 = .ok (.getfield 19, 3) := by decide +kernel
theorem dX4_passNumber_4 : decode cX4_passNumber 4 = .ok (.istore_n 1, 1) := by decide +kernel
theorem dX4_passNumber_5 : decode cX4_passNumber 5 = .ok (.aload_n 0, 1) := by decide +kernel
theorem dX4_passNumber_6 : decode cX4_passNumber 6 = .ok (.iconst 0, 1) := by decide +kernel
theorem dX4_passNumber_7 : decode cX4_passNumber 7 = .ok (.putfield 62, 3) := by decide +kernel
theorem dX4_passNumber_10 : decode cX4_passNumber 10 = .ok (.aload_n 0, 1) := by decide +kernel
theorem dX4_passNumber_11 : decode cX4_passNumber 11 = .ok (.getfield 19, 3) := by decide +kernel
theorem dX4_passNumber_14 : decode cX4_passNumber 14 = .ok (.iload_n 1, 1) := by decide +kernel
theorem dX4_passNumber_15 : decode cX4_passNumber 15 = .ok (.iconst 2, 1) := by decide +kernel
theorem dX4_passNumber_16 : decode cX4_passNumber 16 = .ok (.iadd, 1) := by decide +kernel
theorem dX4_passNumber_17 : decode cX4_passNumber 17 = .ok (.if_icmp .ge 62, 3) := by decide +kernel
theorem dX4_passNumber_20 : decode cX4_passNumber 20 = .ok (.aload_n 0, 1) := by decide +kernel
theorem dX4_passNumber_21 : decode cX4_passNumber 21 = .ok (.invokevirtual 49, 3) := by decide +kernel
theorem dX4_passNumber_24 : decode cX4_passNumber 24 = .ok (.ifCond .eq 55, 3) := by decide +kernel
theorem dX4_passNumber_27 : decode cX4_passNumber 27 = .ok (.aload_n 0, 1) := by decide +kernel
theorem dX4_passNumber_28 : decode cX4_passNumber 28 = .ok (.getfield 9, 3) := by decide +kernel
theorem dX4_passNumber_31 : decode cX4_passNumber 31 = .ok (.aload_n 0, 1) := by decide +kernel
theorem dX4_passNumber_32 : decode cX4_passNumber 32 = .ok (.getfield 19, 3) := by decide +kernel
theorem dX4_passNumber_35 : decode cX4_passNumber 35 = .ok (.caload, 1) := by decide +kernel
theorem dX4_passNumber_36 : decode cX4_passNumber 36 = .ok (.invokestatic 65, 3) := by decide +kernel
theorem dX4_passNumber_39 : decode cX4_passNumber 39 = .ok (.ifCond .eq 40, 3) := by decide +kernel
theorem dX4_passNumber_42 : decode cX4_passNumber 42 = .ok (.aload_n 0, 1) := by decide +kernel
theorem dX4_passNumber_43 : decode cX4_passNumber 43 = .ok (.bipush 10, 2) := by decide +kernel
theorem dX4_passNumber_45 : decode cX4_passNumber 45 = .ok (.aload_n 0, 1) := by decide +kernel
theorem dX4_passNumber_46 : decode cX4_passNumber 46 = .ok (.getfield 62, 3) := by decide +kernel
theorem dX4_passNumber_49 : decode cX4_passNumber 49 = .ok (.imul, 1) := by decide +kernel
theorem dX4_passNumber_50 : decode cX4_passNumber 50 = .ok (.aload_n 0, 1) := by decide +kernel
theorem dX4_passNumber_51 : decode cX4_passNumber 51 = .ok (.getfield 9, 3) := by decide +kernel
theorem dX4_passNumber_54 : decode cX4_passNumber 54 = .ok (.aload_n 0, 1) := by decide +kernel
theorem dX4_passNumber_55 : decode cX4_passNumber 55 = .ok (.getfield 19, 3) := by decide +kernel
theorem dX4_passNumber_58 : decode cX4_passNumber 58 = .ok (.caload, 1) := by decide +kernel
theorem dX4_passNumber_59 : decode cX4_passNumber 59 = .ok (.bipush 48, 2) := by decide +kernel
theorem dX4_passNumber_61 : decode cX4_passNumber 61 = .ok (.isub, 1) := by decide +kernel
theorem dX4_passNumber_62 : decode cX4_passNumber 62 = .ok (.iadd, 1) := by decide +kernel
theorem dX4_passNumber_63 : decode cX4_passNumber 63 = .ok (.putfield 62, 3) := by decide +kernel
theorem dX4_passNumber_66 : decode cX4_passNumber 66 = .ok (.aload_n 0, 1) := by decide +kernel
theorem dX4_passNumber_67 : decode cX4_passNumber 67 = .ok (.dup, 1) := by decide +kernel
theorem dX4_passNumber_68 : decode cX4_passNumber 68 = .ok (.getfield 19, 3) := by decide +kernel
theorem dX4_passNumber_71 : decode cX4_passNumber 71 = .ok (.iconst 1, 1) := by decide +kernel
theorem dX4_passNumber_72 : decode cX4_passNumber 72 = .ok (.iadd, 1) := by decide +kernel
theorem dX4_passNumber_73 : decode cX4_passNumber 73 = .ok (.putfield 19, 3) := by decide +kernel
theorem dX4_passNumber_76 : decode cX4_passNumber 76 = .ok (.goto (-66), 3) := by decide +kernel
theorem dX4_passNumber_79 : decode cX4_passNumber 79 = .ok (.aload_n 0, 1) := by decide +kernel
theorem dX4_passNumber_80 : decode cX4_passNumber 80 = .ok (.getfield 19, 3) := by decide +kernel
theorem dX4_passNumber_83 : decode cX4_passNumber 83 = .ok (.iload_n 1, 1) := by decide +kernel
theorem dX4_passNumber_84 : decode cX4_passNumber 84 = .ok (.if_icmp .le 7, 3) := by decide +kernel
theorem dX4_passNumber_87 : decode cX4_passNumber 87 = .ok (.iconst 1, 1) := by decide +kernel
theorem dX4_passNumber_88 : decode cX4_passNumber 88 = .ok (.goto 4, 3) := by decide +kernel
theorem dX4_passNumber_91 : decode cX4_passNumber 91 = .ok (.iconst 0, 1) := by decide +kernel
theorem dX4_passNumber_92 : decode cX4_passNumber 92 = .ok (.ireturn, 1) := by decide +kernel
theorem dX4_passName_0 : decode cX4_passName 0 = .ok (.aload_n 0, 1) := by decide +kernel
theorem dX4_passName_1 : decode cX4_passName 1 = .ok (.iload_n 1, 1) := by decide +kernel
theorem dX4_passName_2 : decode cX4_passName 2 = .ok (.iload_n 2, 1) := by decide +kernel
theorem dX4_passName_3 : decode cX4_passName 3 = .ok (.invokevirtual 35, 3) := by decide +kernel
theorem dX4_passName_6 : decode cX4_passName 6 = .ok (.istore_n 3, 1) := by decide +kernel
theorem dX4_passName_7 : decode cX4_passName 7 = .ok (.aload_n 0, 1) := by decide +kernel
theorem dX4_passName_8 : decode cX4_passName 8 = .ok (.iload_n 3, 1) := by decide +kernel
theorem dX4_passName_9 : decode cX4_passName 9 = .ok (.iload_n 1, 1) := by decide +kernel
theorem dX4_passName_10 : decode cX4_passName 10 = .ok (.isub, 1) := by decide +kernel
theorem dX4_passName_11 : decode cX4_passName 11 = .ok (.putfield 62, 3) := by decide +kernel
theorem dX4_passName_14 : decode cX4_passName 14 = .ok (.iload_n 3, 1) := by decide +kernel
theorem dX4_passName_15 : decode cX4_passName 15 = .ok (.bipush (-6), 2) := by decide +kernel
theorem dX4_passName_17 : decode cX4_passName 17 = .ok (.if_icmp .eq 7, 3) := by decide +kernel
theorem dX4_passName_20 : decode cX4_passName 20 = .ok (.iconst 1, 1) := by decide +kernel
theorem dX4_passName_21 : decode cX4_passName 21 = .ok (.goto 4, 3) := by decide +kernel
theorem dX4_passName_24 : decode cX4_passName 24 = .ok (.iconst 0, 1) := by decide +kernel
theorem dX4_passName_25 : decode cX4_passName 25 = .ok (.ireturn, 1) := by decide +kernel
theorem dX4_passOneOf_0 : decode cX4_passOneOf 0 = .ok (.iconst 0, 1) := by decide +kernel
theorem dX4_passOneOf_1 : decode cX4_passOneOf 1 = .ok (.istore_n 3, 1) := by decide +kernel
theorem dX4_passOneOf_2 : decode cX4_passOneOf 2 = .ok (.iload_n 1, 1) := by decide +kernel
theorem dX4_passOneOf_3 : decode cX4_passOneOf 3 = .ok (.istore 4, 2) := by decide +kernel
theorem dX4_passOneOf_5 : decode cX4_passOneOf 5 = .ok (.iload 4, 2) := by decide +kernel
theorem dX4_passOneOf_7 : decode cX4_passOneOf 7 = .ok (.iload_n 2, 1) := by decide +kernel
theorem dX4_passOneOf_8 : decode cX4_passOneOf 8 = .ok (.if_icmp .gt 55, 3) := by decide +kernel
theorem dX4_passOneOf_11 : decode cX4_passOneOf 11 = .ok (.iload 4, 2) := by decide +kernel
theorem dX4_passOneOf_13 : decode cX4_passOneOf 13 = .ok (.invokestatic 68, 3) := by decide +kernel
theorem dX4_passOneOf_16 : decode cX4_passOneOf 16 = .ok (.astore 5, 2) := by decide +kernel
theorem dX4_passOneOf_18 : decode cX4_passOneOf 18 = .ok (.aload_n 0, 1) := by decide +kernel
theorem dX4_passOneOf_19 : decode cX4_passOneOf 19 = .ok (.aload 5, 2) := by decide +kernel
theorem dX4_passOneOf_21 : decode cX4_passOneOf 21 = .ok (.invokevirtual 72, 3) := by decide +kernel
theorem dX4_passOneOf_24 : decode cX4_passOneOf 24 = .ok (.istore 6, 2) := by decide +kernel
theorem dX4_passOneOf_26 : decode cX4_passOneOf 26 = .ok (.iload 6, 2) := by decide +kernel
theorem dX4_passOneOf_28 : decode cX4_passOneOf 28 = .ok (.aload 5, 2) := by decide +kernel
theorem dX4_passOneOf_30 : decode cX4_passOneOf 30 = .ok (.invokevirtual 76, 3) := by decide +kernel
theorem dX4_passOneOf_33 : decode cX4_passOneOf 33 = .ok (.if_icmp .ne 17, 3) := by decide +kernel
theorem dX4_passOneOf_36 : decode cX4_passOneOf 36 = .ok (.aload_n 0, 1) := by decide +kernel
theorem dX4_passOneOf_37 : decode cX4_passOneOf 37 = .ok (.dup, 1) := by decide +kernel
theorem dX4_passOneOf_38 : decode cX4_passOneOf 38 = .ok (.getfield 19, 3) := by decide +kernel
theorem dX4_passOneOf_41 : decode cX4_passOneOf 41 = .ok (.iload 6, 2) := by decide +kernel
theorem dX4_passOneOf_43 : decode cX4_passOneOf 43 = .ok (.iadd, 1) := by decide +kernel
theorem dX4_passOneOf_44 : decode cX4_passOneOf 44 = .ok (.putfield 19, 3) := by decide +kernel
theorem dX4_passOneOf_47 : decode cX4_passOneOf 47 = .ok (.iload 4, 2) := by decide +kernel
theorem dX4_passOneOf_49 : decode cX4_passOneOf 49 = .ok (.ireturn, 1) := by decide +kernel
theorem dX4_passOneOf_50 : decode cX4_passOneOf 50 = .ok (.iload_n 3, 1) := by decide +kernel
theorem dX4_passOneOf_51 : decode cX4_passOneOf 51 = .ok (.iload 6, 2) := by decide +kernel
theorem dX4_passOneOf_53 : decode cX4_passOneOf 53 = .ok (.invokestatic 81, 3) := by decide +kernel
theorem dX4_passOneOf_56 : decode cX4_passOneOf 56 = .ok (.istore_n 3, 1) := by decide +kernel
theorem dX4_passOneOf_57 : decode cX4_passOneOf 57 = .ok (.iinc 4 1, 3) := by decide +kernel
theorem dX4_passOneOf_60 : decode cX4_passOneOf 60 = .ok (.goto (-55), 3) := by decide +kernel
theorem dX4_passOneOf_63 : decode cX4_passOneOf 63 = .ok (.aload_n 0, 1) := by decide +kernel
theorem dX4_passOneOf_64 : decode cX4_passOneOf 64 = .ok (.dup, 1) := by decide +kernel
theorem dX4_passOneOf_65 : decode cX4_passOneOf 65 = .ok (.getfield 19, 3) := by decide +kernel
theorem dX4_passOneOf_68 : decode cX4_passOneOf 68 = .ok (.iload_n 3, 1) := by decide +kernel
theorem dX4_passOneOf_69 : decode cX4_passOneOf 69 = .ok (.iadd, 1) := by decide +kernel
theorem dX4_passOneOf_70 : decode cX4_passOneOf 70 = .ok (.putfield 19, 3) := by decide +kernel
theorem dX4_passOneOf_73 : decode cX4_passOneOf 73 = .ok (.bipush (-6), 2) := by decide +kernel
theorem dX4_passOneOf_75 : decode cX4_passOneOf 75 = .ok (.ireturn, 1) := by decide +kernel
theorem dX4_sameLength_0 : decode cX4_sameLength 0 = .ok (.iconst 0, 1) := by decide +kernel
theorem dX4_sameLength_1 : decode cX4_sameLength 1 = .ok (.istore_n 2, 1) := by decide +kernel
theorem dX4_sameLength_2 : decode cX4_sameLength 2 = .ok (.iload_n 2, 1) := by decide +kernel
theorem dX4_sameLength_3 : decode cX4_sameLength 3 = .ok (.aload_n 1, 1) := by decide +kernel
theorem dX4_sameLength_4 : decode cX4_sameLength 4 = .ok (.invokevirtual 76, 3) := by decide +kernel
theorem dX4_sameLength_7 : decode cX4_sameLength 7 = .ok (.if_icmp .ge 55, 3) := by decide +kernel
theorem dX4_sameLength_10 : decode cX4_sameLength 10 = .ok (.aload_n 0, 1) := by decide +kernel
theorem dX4_sameLength_11 : decode cX4_sameLength 11 = .ok (.getfield 19, 3) := by decide +kernel
theorem dX4_sameLength_14 : decode cX4_sameLength 14 = .ok (.iload_n 2, 1) := by decide +kernel
theorem dX4_sameLength_15 : decode cX4_sameLength 15 = .ok (.iadd, 1) := by decide +kernel
theorem dX4_sameLength_16 : decode cX4_sameLength 16 = .ok (.aload_n 0, 1) := by decide +kernel
theorem dX4_sameLength_17 : decode cX4_sameLength 17 = .ok (.getfield 15, 3) := by decide +kernel
theorem dX4_sameLength_20 : decode cX4_sameLength 20 = .ok (.if_icmp .ge 42, 3) := by decide +kernel
theorem dX4_sameLength_23 : decode cX4_sameLength 23 = .ok (.aload_n 0, 1) := by decide +kernel
theorem dX4_sameLength_24 : decode cX4_sameLength 24 = .ok (.getfield 19, 3) := by decide +kernel
theorem dX4_sameLength_27 : decode cX4_sameLength 27 = .ok (.iload_n 2, 1) := by decide +kernel
theorem dX4_sameLength_28 : decode cX4_sameLength 28 = .ok (.iadd, 1) := by decide +kernel
theorem dX4_sameLength_29 : decode cX4_sameLength 29 = .ok (.aload_n 0, 1) := by decide +kernel
theorem dX4_sameLength_30 : decode cX4_sameLength 30 = .ok (.getfield 9, 3) := by decide +kernel
theorem dX4_sameLength_33 : decode cX4_sameLength 33 = .ok (.arraylength, 1) := by decide +kernel
theorem dX4_sameLength_34 : decode cX4_sameLength 34 = .ok (.if_icmp .ge 28, 3) := by decide +kernel
theorem dX4_sameLength_37 : decode cX4_sameLength 37 = .ok (.aload_n 0, 1) := by decide +kernel
theorem dX4_sameLength_38 : decode cX4_sameLength 38 = .ok (.getfield 9, 3) := by decide +kernel
theorem dX4_sameLength_41 : decode cX4_sameLength 41 = .ok (.aload_n 0, 1) := by decide +kernel
theorem dX4_sameLength_42 : decode cX4_sameLength 42 = .ok (.getfield 19, 3) := by decide +kernel
theorem dX4_sameLength_45 : decode cX4_sameLength 45 = .ok (.iload_n 2, 1) := by decide +kernel
theorem dX4_sameLength_46 : decode cX4_sameLength 46 = .ok (.iadd, 1) := by decide +kernel
theorem dX4_sameLength_47 : decode cX4_sameLength 47 = .ok (.caload, 1) := by decide +kernel
theorem dX4_sameLength_48 : decode cX4_sameLength 48 = .ok (.aload_n 1, 1) := by decide +kernel
theorem dX4_sameLength_49 : decode cX4_sameLength 49 = .ok (.iload_n 2, 1) := by decide +kernel
theorem dX4_sameLength_50 : decode cX4_sameLength 50 = .ok (.invokevirtual 86, 3) := by decide +kernel
theorem dX4_sameLength_53 : decode cX4_sameLength 53 = .ok (.if_icmp .ne 9, 3) := by decide +kernel
theorem dX4_sameLength_56 : decode cX4_sameLength 56 = .ok (.iinc 2 1, 3) := by decide +kernel
theorem dX4_sameLength_59 : decode cX4_sameLength 59 = .ok (.goto (-57), 3) := by decide +kernel
theorem dX4_sameLength_62 : decode cX4_sameLength 62 = .ok (.iload_n 2, 1) := by decide +kernel
theorem dX4_sameLength_63 : decode cX4_sameLength 63 = .ok (.ireturn, 1) := by decide +kernel
theorem dX4_hasSign_0 : decode cX4_hasSign 0 = .ok (.aload_n 0, 1) := by decide +kernel
theorem dX4_hasSign_1 : decode cX4_hasSign 1 = .ok (.getfield 19, 3) := by decide +kernel
theorem dX4_hasSign_4 : decode cX4_hasSign 4 = .ok (.ifCond .lt 30, 3) := by decide +kernel
theorem dX4_hasSign_7 : decode cX4_hasSign 7 = .ok (.aload_n 0, 1) := by decide +kernel
theorem dX4_hasSign_8 : decode cX4_hasSign 8 = .ok (.getfield 19, 3) := by decide +kernel
theorem dX4_hasSign_11 : decode cX4_hasSign 11 = .ok (.aload_n 0, 1) := by decide +kernel
theorem dX4_hasSign_12 : decode cX4_hasSign 12 = .ok (.getfield 15, 3) := by decide +kernel
theorem dX4_hasSign_15 : decode cX4_hasSign 15 = .ok (.if_icmp .ge 19, 3) := by decide +kernel
theorem dX4_hasSign_18 : decode cX4_hasSign 18 = .ok (.aload_n 0, 1) := by decide +kernel
theorem dX4_hasSign_19 : decode cX4_hasSign 19 = .ok (.getfield 19, 3) := by decide +kernel
theorem dX4_hasSign_22 : decode cX4_hasSign 22 = .ok (.aload_n 0, 1) := by decide +kernel
theorem dX4_hasSign_23 : decode cX4_hasSign 23 = .ok (.getfield 9, 3) := by decide +kernel
theorem dX4_hasSign_26 : decode cX4_hasSign 26 = .ok (.arraylength, 1) := by decide +kernel
theorem dX4_hasSign_27 : decode cX4_hasSign 27 = .ok (.if_icmp .ge 7, 3) := by decide +kernel
theorem dX4_hasSign_30 : decode cX4_hasSign 30 = .ok (.iconst 1, 1) := by decide +kernel
theorem dX4_hasSign_31 : decode cX4_hasSign 31 = .ok (.goto 4, 3) := by decide +kernel
theorem dX4_hasSign_34 : decode cX4_hasSign 34 = .ok (.iconst 0, 1) := by decide +kernel
theorem dX4_hasSign_35 : decode cX4_hasSign 35 = .ok (.ireturn, 1) := by decide +kernel
theorem dX4_word_0 : decode cX4_word 0 = .ok (.iload_n 0, 1) := by decide +kernel
theorem dX4_word_1 : decode cX4_word 1 = .ok (.tableswitch 64 0 6 #[43, 46, 49, 52, 55, 58, 61], 43) := by decide +kernel
theorem dX4_word_44 : decode cX4_word 44 = .ok (.ldc 90, 2) := by decide +kernel
theorem dX4_word_46 : decode cX4_word 46 = .ok (.areturn, 1) := by decide +kernel
theorem dX4_word_47 : decode cX4_word 47 = .ok (.ldc 92, 2) := by decide +kernel
theorem dX4_word_49 : decode cX4_word 49 = .ok (.areturn, 1) := by decide +kernel
theorem dX4_word_50 : decode cX4_word 50 = .ok (.ldc 94, 2) := by decide +kernel
theorem dX4_word_52 : decode cX4_word 52 = .ok (.areturn, 1) := by decide +kernel
theorem dX4_word_53 : decode cX4_word 53 = .ok (.ldc 96, 2) := by decide +kernel
theorem dX4_word_55 : decode cX4_word 55 = .ok (.areturn, 1) := by decide +kernel
theorem dX4_word_56 : decode cX4_word 56 = .ok (.ldc 98, 2) := by decide +kernel
theorem dX4_word_58 : decode cX4_word 58 = .ok (.areturn, 1) := by decide +kernel
theorem dX4_word_59 : decode cX4_word 59 = .ok (.ldc 100, 2) := by decide +kernel
theorem dX4_word_61 : decode cX4_word 61 = .ok (.areturn, 1) := by decide +kernel
theorem dX4_word_62 : decode cX4_word 62 = .ok (.ldc 102, 2) := by decide +kernel
theorem dX4_word_64 : decode cX4_word 64 = .ok (.areturn, 1) := by decide +kernel
theorem dX4_word_65 : decode cX4_word 65 = .ok (.iload_n 0, 1) := by decide +kernel
theorem dX4_word_66 : decode cX4_word 66 = .ok (.invokestatic 104, 3) := by decide +kernel
theorem dX4_word_69 : decode cX4_word 69 = .ok (.areturn, 1) := by decide +kernel
theorem dX4_name_0 : decode cX4_name 0 = .ok (.iload_n 0, 1) := by decide +kernel
theorem dX4_name_1 : decode cX4_name 1 = .ok (.tableswitch 57 7 12 #[39, 42, 45, 48, 51, 54], 39) := by decide +kernel
theorem dX4_name_40 : decode cX4_name 40 = .ok (.ldc 107, 2) := by decide +kernel
theorem dX4_name_42 : decode cX4_name 42 = .ok (.areturn, 1) := by decide +kernel
theorem dX4_name_43 : decode cX4_name 43 = .ok (.ldc 109, 2) := by decide +kernel
theorem dX4_name_45 : decode cX4_name 45 = .ok (.areturn, 1) := by decide +kernel
theorem dX4_name_46 : decode cX4_name 46 = .ok (.ldc 111, 2) := by decide +kernel
theorem dX4_name_48 : decode cX4_name 48 = .ok (.areturn, 1) := by decide +kernel
theorem dX4_name_49 : decode cX4_name 49 = .ok (.ldc 112, 2) := by decide +kernel
theorem dX4_name_51 : decode cX4_name 51 = .ok (.areturn, 1) := by decide +kernel
theorem dX4_name_52 : decode cX4_name 52 = .ok (.ldc 114, 2) := by decide +kernel
theorem dX4_name_54 : decode cX4_name 54 = .ok (.areturn, 1) := by decide +kernel
theorem dX4_name_55 : decode cX4_name 55 = .ok (.ldc 116, 2) := by decide +kernel
theorem dX4_name_57 : decode cX4_name 57 = .ok (.areturn, 1) := by decide +kernel
theorem dX4_name_58 : decode cX4_name 58 = .ok (.ldc 118, 2) := by decide +kernel
theorem dX4_name_60 : decode cX4_name 60 = .ok (.areturn, 1) := by decide +kernel
theorem dX4_isLetter_0 : decode cX4_isLetter 0 = .ok (.iload_n 0, 1) := by decide +kernel
theorem dX4_isLetter_1 : decode cX4_isLetter 1 = .ok (.bipush 97, 2) := by decide +kernel
theorem dX4_isLetter_3 : decode cX4_isLetter 3 = .ok (.if_icmp .lt 9, 3) := by decide +kernel
theorem dX4_isLetter_6 : decode cX4_isLetter 6 = .ok (.iload_n 0, 1) := by decide +kernel
theorem dX4_isLetter_7 : decode cX4_isLetter 7 = .ok (.bipush 122, 2) := by decide +kernel
theorem dX4_isLetter_9 : decode cX4_isLetter 9 = .ok (.if_icmp .le 10, 3) := by decide +kernel
theorem dX4_isLetter_12 : decode cX4_isLetter 12 = .ok (.iload_n 0, 1) := by decide +kernel
theorem dX4_isLetter_13 : decode cX4_isLetter 13 = .ok (.invokestatic 65, 3) := by decide +kernel
theorem dX4_isLetter_16 : decode cX4_isLetter 16 = .ok (.ifCond .eq 7, 3) := by decide +kernel
theorem dX4_isLetter_19 : decode cX4_isLetter 19 = .ok (.iconst 1, 1) := by decide +kernel
theorem dX4_isLetter_20 : decode cX4_isLetter 20 = .ok (.goto 4, 3) := by decide +kernel
theorem dX4_isLetter_23 : decode cX4_isLetter 23 = .ok (.iconst 0, 1) := by decide +kernel
theorem dX4_isLetter_24 : decode cX4_isLetter 24 = .ok (.ireturn, 1) := by decide +kernel
theorem dX4_isDigit_0 : decode cX4_isDigit 0 = .ok (.iload_n 0, 1) := by decide +kernel
theorem dX4_isDigit_1 : decode cX4_isDigit 1 = .ok (.bipush 48, 2) := by decide +kernel
theorem dX4_isDigit_3 : decode cX4_isDigit 3 = .ok (.if_icmp .lt 13, 3) := by decide +kernel
theorem dX4_isDigit_6 : decode cX4_isDigit 6 = .ok (.iload_n 0, 1) := by decide +kernel
theorem dX4_isDigit_7 : decode cX4_isDigit 7 = .ok (.bipush 57, 2) := by decide +kernel
theorem dX4_isDigit_9 : decode cX4_isDigit 9 = .ok (.if_icmp .gt 7, 3) := by decide +kernel
theorem dX4_isDigit_12 : decode cX4_isDigit 12 = .ok (.iconst 1, 1) := by decide +kernel
theorem dX4_isDigit_13 : decode cX4_isDigit 13 = .ok (.goto 4, 3) := by decide +kernel
theorem dX4_isDigit_16 : decode cX4_isDigit 16 = .ok (.iconst 0, 1) := by decide +kernel
theorem dX4_isDigit_17 : decode cX4_isDigit 17 = .ok (.ireturn, 1) := by decide +kernel
theorem dX4_passedTitle_0 : decode cX4_passedTitle 0 = .ok (.iconst 0, 1) := by decide +kernel
theorem dX4_passedTitle_1 : decode cX4_passedTitle 1 = .ok (.aload_n 0, 1) := by decide +kernel
theorem dX4_passedTitle_2 : decode cX4_passedTitle 2 = .ok (.getfield 59, 3) := by decide +kernel
theorem dX4_passedTitle_5 : decode cX4_passedTitle 5 = .ok (.aload_n 0, 1) := by decide +kernel
theorem dX4_passedTitle_6 : decode cX4_passedTitle 6 = .ok (.getfield 52, 3) := by decide +kernel
theorem dX4_passedTitle_9 : decode cX4_passedTitle 9 = .ok (.isub, 1) := by decide +kernel
theorem dX4_passedTitle_10 : decode cX4_passedTitle 10 = .ok (.invokestatic 81, 3) := by decide +kernel
theorem dX4_passedTitle_13 : decode cX4_passedTitle 13 = .ok (.newarray .char, 2) := by decide +kernel
theorem dX4_passedTitle_15 : decode cX4_passedTitle 15 = .ok (.astore_n 1, 1) := by decide +kernel
theorem dX4_passedTitle_16 : decode cX4_passedTitle 16 = .ok (.iconst 0, 1) := by decide +kernel
theorem dX4_passedTitle_17 : decode cX4_passedTitle 17 = .ok (.istore_n 2, 1) := by decide +kernel
theorem dX4_passedTitle_18 : decode cX4_passedTitle 18 = .ok (.iload_n 2, 1) := by decide +kernel
theorem dX4_passedTitle_19 : decode cX4_passedTitle 19 = .ok (.aload_n 1, 1) := by decide +kernel
theorem dX4_passedTitle_20 : decode cX4_passedTitle 20 = .ok (.arraylength, 1) := by decide +kernel
theorem dX4_passedTitle_21 : decode cX4_passedTitle 21 = .ok (.if_icmp .ge 37, 3) := by decide +kernel
theorem dX4_passedTitle_24 : decode cX4_passedTitle 24 = .ok (.aload_n 0, 1) := by decide +kernel
theorem dX4_passedTitle_25 : decode cX4_passedTitle 25 = .ok (.getfield 52, 3) := by decide +kernel
theorem dX4_passedTitle_28 : decode cX4_passedTitle 28 = .ok (.iload_n 2, 1) := by decide +kernel
theorem dX4_passedTitle_29 : decode cX4_passedTitle 29 = .ok (.iadd, 1) := by decide +kernel
theorem dX4_passedTitle_30 : decode cX4_passedTitle 30 = .ok (.aload_n 0, 1) := by decide +kernel
theorem dX4_passedTitle_31 : decode cX4_passedTitle 31 = .ok (.getfield 9, 3) := by decide +kernel
theorem dX4_passedTitle_34 : decode cX4_passedTitle 34 = .ok (.arraylength, 1) := by decide +kernel
theorem dX4_passedTitle_35 : decode cX4_passedTitle 35 = .ok (.if_icmp .ge 23, 3) := by decide +kernel
theorem dX4_passedTitle_38 : decode cX4_passedTitle 38 = .ok (.aload_n 1, 1) := by decide +kernel
theorem dX4_passedTitle_39 : decode cX4_passedTitle 39 = .ok (.iload_n 2, 1) := by decide +kernel
theorem dX4_passedTitle_40 : decode cX4_passedTitle 40 = .ok (.aload_n 0, 1) := by decide +kernel
theorem dX4_passedTitle_41 : decode cX4_passedTitle 41 = .ok (.getfield 9, 3) := by decide +kernel
theorem dX4_passedTitle_44 : decode cX4_passedTitle 44 = .ok (.aload_n 0, 1) := by decide +kernel
theorem dX4_passedTitle_45 : decode cX4_passedTitle 45 = .ok (.getfield 52, 3) := by decide +kernel
theorem dX4_passedTitle_48 : decode cX4_passedTitle 48 = .ok (.iload_n 2, 1) := by decide +kernel
theorem dX4_passedTitle_49 : decode cX4_passedTitle 49 = .ok (.iadd, 1) := by decide +kernel
theorem dX4_passedTitle_50 : decode cX4_passedTitle 50 = .ok (.caload, 1) := by decide +kernel
theorem dX4_passedTitle_51 : decode cX4_passedTitle 51 = .ok (.castore, 1) := by decide +kernel
theorem dX4_passedTitle_52 : decode cX4_passedTitle 52 = .ok (.iinc 2 1, 3) := by decide +kernel
theorem dX4_passedTitle_55 : decode cX4_passedTitle 55 = .ok (.goto (-37), 3) := by decide +kernel
theorem dX4_passedTitle_58 : decode cX4_passedTitle 58 = .ok (.aload_n 1, 1) := by decide +kernel
theorem dX4_passedTitle_59 : decode cX4_passedTitle 59 = .ok (.invokestatic 119, 3) := by decide +kernel
theorem dX4_passedTitle_62 : decode cX4_passedTitle 62 = .ok (.areturn, 1) := by decide +kernel
theorem dX4_copyPassed_0 : decode cX4_copyPassed 0 = .ok (.aload_n 1, 1) := by decide +kernel
theorem dX4_copyPassed_1 : decode cX4_copyPassed 1 = .ok (.iconst 0, 1) := by decide +kernel
theorem dX4_copyPassed_2 : decode cX4_copyPassed 2 = .ok (.putfield 125, 3) := by decide +kernel
theorem dX4_copyPassed_5 : decode cX4_copyPassed 5 = .ok (.aload_n 0, 1) := by decide +kernel
theorem dX4_copyPassed_6 : decode cX4_copyPassed 6 = .ok (.getfield 52, 3) := by decide +kernel
theorem dX4_copyPassed_9 : decode cX4_copyPassed 9 = .ok (.istore_n 2, 1) := by decide +kernel
theorem dX4_copyPassed_10 : decode cX4_copyPassed 10 = .ok (.iload_n 2, 1) := by decide +kernel
theorem dX4_copyPassed_11 : decode cX4_copyPassed 11 = .ok (.aload_n 0, 1) := by decide +kernel
theorem dX4_copyPassed_12 : decode cX4_copyPassed 12 = .ok (.getfield 59, 3) := by decide +kernel
theorem dX4_copyPassed_15 : decode cX4_copyPassed 15 = .ok (.if_icmp .ge 28, 3) := by decide +kernel
theorem dX4_copyPassed_18 : decode cX4_copyPassed 18 = .ok (.iload_n 2, 1) := by decide +kernel
theorem dX4_copyPassed_19 : decode cX4_copyPassed 19 = .ok (.aload_n 0, 1) := by decide +kernel
theorem dX4_copyPassed_20 : decode cX4_copyPassed 20 = .ok (.getfield 9, 3) := by decide +kernel
theorem dX4_copyPassed_23 : decode cX4_copyPassed 23 = .ok (.arraylength, 1) := by decide +kernel
theorem dX4_copyPassed_24 : decode cX4_copyPassed 24 = .ok (.if_icmp .ge 19, 3) := by decide +kernel
theorem dX4_copyPassed_27 : decode cX4_copyPassed 27 = .ok (.aload_n 1, 1) := by decide +kernel
theorem dX4_copyPassed_28 : decode cX4_copyPassed 28 = .ok (.aload_n 0, 1) := by decide +kernel
theorem dX4_copyPassed_29 : decode cX4_copyPassed 29 = .ok (.getfield 9, 3) := by decide +kernel
theorem dX4_copyPassed_32 : decode cX4_copyPassed 32 = .ok (.iload_n 2, 1) := by decide +kernel
theorem dX4_copyPassed_33 : decode cX4_copyPassed 33 = .ok (.caload, 1) := by decide +kernel
theorem dX4_copyPassed_34 : decode cX4_copyPassed 34 = .ok (.invokevirtual 130, 3) := by decide +kernel
theorem dX4_copyPassed_37 : decode cX4_copyPassed 37 = .ok (.iinc 2 1, 3) := by decide +kernel
theorem dX4_copyPassed_40 : decode cX4_copyPassed 40 = .ok (.goto (-30), 3) := by decide +kernel
theorem dX4_copyPassed_43 : decode cX4_copyPassed 43 = .ok (.return_, 1) := by decide +kernel
theorem dX5_init_0 : decode cX5_init 0 = .ok (.aload_n 0, 1) := by decide +kernel
theorem dX5_init_1 : decode cX5_init 1 = .ok (.invokespecial 3, 3) := by decide +kernel
theorem dX5_init_4 : decode cX5_init 4 = .ok (.aload_n 0, 1) := by decide +kernel
theorem dX5_init_5 : decode cX5_init 5 = .ok (.aload_n 1, 1) := by decide +kernel
theorem dX5_init_6 : decode cX5_init 6 = .ok (.putfield 9, 3) := by decide +kernel
theorem dX5_init_9 : decode cX5_init 9 = .ok (.aload_n 0, 1) := by decide +kernel
theorem dX5_init_10 : decode cX5_init 10 = .ok (.aload_n 2, 1) := by decide +kernel
theorem dX5_init_11 : decode cX5_init 11 = .ok (.putfield 15, 3) := by decide +kernel
theorem dX5_init_14 : decode cX5_init 14 = .ok (.aload_n 0, 1) := by decide +kernel
theorem dX5_init_15 : decode cX5_init 15 = .ok (.iload_n 3, 1) := by decide +kernel
theorem dX5_init_16 : decode cX5_init 16 = .ok (.putfield 18, 3) := by decide +kernel
theorem dX5_init_19 : decode cX5_init 19 = .ok (.return_, 1) := by decide +kernel
theorem dX5_unused_0 : decode cX5_unused 0 = .ok (.new 10, 3) := by decide +kernel
theorem dX5_unused_3 : decode cX5_unused 3 = .ok (.dup, 1) := by decide +kernel
theorem dX5_unused_4 : decode cX5_unused 4 = .ok (.aload_n 0, 1) := by decide +kernel
theorem dX5_unused_5 : decode cX5_unused 5 = .ok (.aload_n 0, 1) := by decide +kernel
theorem dX5_unused_6 : decode cX5_unused 6 = .ok (.invokestatic 22, 3) := by decide +kernel
theorem dX5_unused_9 : decode cX5_unused 9 = .ok (.iconst 0, 1) := by decide +kernel
theorem dX5_unused_10 : decode cX5_unused 10 = .ok (.invokespecial 26, 3) := by decide +kernel
theorem dX5_unused_13 : decode cX5_unused 13 = .ok (.areturn, 1) := by decide +kernel
theorem dX5_initialsOf_0 : decode cX5_initialsOf 0 = .ok (.aload_n 0, 1) := by decide +kernel
theorem dX5_initialsOf_1 : decode cX5_initialsOf 1 = .ok (.invokestatic 29, 3) := by decide +kernel
theorem dX5_initialsOf_4 : decode cX5_initialsOf 4 = .ok (.newarray .char, 2) := by decide +kernel
theorem dX5_initialsOf_6 : decode cX5_initialsOf 6 = .ok (.astore_n 1, 1) := by decide +kernel
theorem dX5_initialsOf_7 : decode cX5_initialsOf 7 = .ok (.iconst 0, 1) := by decide +kernel
theorem dX5_initialsOf_8 : decode cX5_initialsOf 8 = .ok (.istore_n 2, 1) := by decide +kernel
theorem dX5_initialsOf_9 : decode cX5_initialsOf 9 = .ok (.iconst 0, 1) := by decide +kernel
theorem dX5_initialsOf_10 : decode cX5_initialsOf 10 = .ok (.istore_n 3, 1) := by decide +kernel
theorem dX5_initialsOf_11 : decode cX5_initialsOf 11 = .ok (.iload_n 3, 1) := by decide +kernel
theorem dX5_initialsOf_12 : decode cX5_initialsOf 12 = .ok (.aload_n 0, 1) := by decide +kernel
theorem dX5_initialsOf_13 : decode cX5_initialsOf 13 = .ok (.arraylength, 1) := by decide +kernel
theorem dX5_initialsOf_14 : decode cX5_initialsOf 14 = .ok (.if_icmp .ge 38, 3) := by decide +kernel
theorem dX5_initialsOf_17 : decode cX5_initialsOf 17 = .ok (.iload_n 2, 1) := by decide +kernel
theorem dX5_initialsOf_18 : decode cX5_initialsOf 18 = .ok (.aload_n 1, 1) := by decide +kernel
theorem dX5_initialsOf_19 : decode cX5_initialsOf 19 = .ok (.arraylength, 1) := by decide +kernel
theorem dX5_initialsOf_20 : decode cX5_initialsOf 20 = .ok (.if_icmp .ge 32, 3) := by decide +kernel
theorem dX5_initialsOf_23 : decode cX5_initialsOf 23 = .ok (.iload_n 3, 1) := by decide +kernel
theorem dX5_initialsOf_24 : decode cX5_initialsOf 24 = .ok (.ifCond .eq 13, 3) := by decide +kernel
theorem dX5_initialsOf_27 : decode cX5_initialsOf 27 = .ok (.aload_n 0, 1) := by decide +kernel
theorem dX5_initialsOf_28 : decode cX5_initialsOf 28 = .ok (.iload_n 3, 1) := by decide +kernel
theorem dX5_initialsOf_29 : decode cX5_initialsOf 29 = .ok (.iconst 1, 1) := by decide +kernel
theorem dX5_initialsOf_30 : decode cX5_initialsOf 30 = .ok (.isub, 1) := by decide +kernel
theorem dX5_initialsOf_31 : decode cX5_initialsOf 31 = .ok (.caload, 1) := by decide +kernel
theorem dX5_initialsOf_32 : decode cX5_initialsOf 32 = .ok (.bipush 32, 2) := by decide +kernel
theorem dX5_initialsOf_34 : decode cX5_initialsOf 34 = .ok (.if_icmp .ne 12, 3) := by decide +kernel
theorem dX5_initialsOf_37 : decode cX5_initialsOf 37 = .ok (.aload_n 1, 1) := by decide +kernel
theorem dX5_initialsOf_38 : decode cX5_initialsOf 38 = .ok (.iload_n 2, 1) := by decide +kernel
theorem dX5_initialsOf_39 : decode cX5_initialsOf 39 = .ok (.aload_n 0, 1) := by decide +kernel
theorem dX5_initialsOf_40 : decode cX5_initialsOf 40 = .ok (.iload_n 3, 1) := by decide +kernel
theorem dX5_initialsOf_41 : decode cX5_initialsOf 41 = .ok (.caload, 1) := by decide +kernel
theorem dX5_initialsOf_42 : decode cX5_initialsOf 42 = .ok (.castore, 1) := by decide +kernel
theorem dX5_initialsOf_43 : decode cX5_initialsOf 43 = .ok (.iinc 2 1, 3) := by decide +kernel
theorem dX5_initialsOf_46 : decode cX5_initialsOf 46 = .ok (.iinc 3 1, 3) := by decide +kernel
theorem dX5_initialsOf_49 : decode cX5_initialsOf 49 = .ok (.goto (-38), 3) := by decide +kernel
theorem dX5_initialsOf_52 : decode cX5_initialsOf 52 = .ok (.aload_n 1, 1) := by decide +kernel
theorem dX5_initialsOf_53 : decode cX5_initialsOf 53 = .ok (.areturn, 1) := by decide +kernel
theorem dX5_wordCount_0 : decode cX5_wordCount 0 = .ok (.iconst 1, 1) := by decide +kernel
theorem dX5_wordCount_1 : decode cX5_wordCount 1 = .ok (.istore_n 1, 1) := by decide +kernel
theorem dX5_wordCount_2 : decode cX5_wordCount 2 = .ok (.iconst 0, 1) := by decide +kernel
theorem dX5_wordCount_3 : decode cX5_wordCount 3 = .ok (.istore_n 2, 1) := by decide +kernel
theorem dX5_wordCount_4 : decode cX5_wordCount 4 = .ok (.iload_n 2, 1) := by decide +kernel
theorem dX5_wordCount_5 : decode cX5_wordCount 5 = .ok (.aload_n 0, 1) := by decide +kernel
theorem dX5_wordCount_6 : decode cX5_wordCount 6 = .ok (.arraylength, 1) := by decide +kernel
theorem dX5_wordCount_7 : decode cX5_wordCount 7 = .ok (.if_icmp .ge 20, 3) := by decide +kernel
theorem dX5_wordCount_10 : decode cX5_wordCount 10 = .ok (.aload_n 0, 1) := by decide +kernel
theorem dX5_wordCount_11 : decode cX5_wordCount 11 = .ok (.iload_n 2, 1) := by decide +kernel
theorem dX5_wordCount_12 : decode cX5_wordCount 12 = .ok (.caload, 1) := by decide +kernel
theorem dX5_wordCount_13 : decode cX5_wordCount 13 = .ok (.bipush 32, 2) := by decide +kernel
theorem dX5_wordCount_15 : decode cX5_wordCount 15 = .ok (.if_icmp .ne 6, 3) := by decide +kernel
theorem dX5_wordCount_18 : decode cX5_wordCount 18 = .ok (.iinc 1 1, 3) := by decide +kernel
theorem dX5_wordCount_21 : decode cX5_wordCount 21 = .ok (.iinc 2 1, 3) := by decide +kernel
theorem dX5_wordCount_24 : decode cX5_wordCount 24 = .ok (.goto (-20), 3) := by decide +kernel
theorem dX5_wordCount_27 : decode cX5_wordCount 27 = .ok (.iload_n 1, 1) := by decide +kernel
theorem dX5_wordCount_28 : decode cX5_wordCount 28 = .ok (.ireturn, 1) := by decide +kernel
theorem dX5_usedOnceMore_0 : decode cX5_usedOnceMore 0 = .ok (.new 10, 3) := by decide +kernel
theorem dX5_usedOnceMore_3 : decode cX5_usedOnceMore 3 = .ok (.dup, 1) := by decide +kernel
theorem dX5_usedOnceMore_4 : decode cX5_usedOnceMore 4 = .ok (.aload_n 0, 1) := by decide +kernel
theorem dX5_usedOnceMore_5 : decode cX5_usedOnceMore 5 = .ok (.getfield 9, 3) := by decide +kernel
theorem dX5_usedOnceMore_8 : decode cX5_usedOnceMore 8 = .ok (.aload_n 0, 1) := by decide +kernel
theorem dX5_usedOnceMore_9 : decode cX5_usedOnceMore 9 = .ok (.getfield 15, 3) := by decide +kernel
theorem dX5_usedOnceMore_12 : decode cX5_usedOnceMore 12 = .ok (.aload_n 0, 1) := by decide +kernel
theorem dX5_usedOnceMore_13 : decode cX5_usedOnceMore 13 = .ok (.getfield 18, 3) := by decide +kernel
theorem dX5_usedOnceMore_16 : decode cX5_usedOnceMore 16 = .ok (.iconst 1, 1) := by decide +kernel
theorem dX5_usedOnceMore_17 : decode cX5_usedOnceMore 17 = .ok (.iadd, 1) := by decide +kernel
theorem dX5_usedOnceMore_18 : decode cX5_usedOnceMore 18 = .ok (.invokespecial 26, 3) := by decide +kernel
theorem dX5_usedOnceMore_21 : decode cX5_usedOnceMore 21 = .ok (.areturn, 1) := by decide +kernel
theorem dX5_run_0 : decode cX5_run 0 = .ok (.iload_n 1, 1) := by decide +kernel
theorem dX5_run_1 : decode cX5_run 1 = .ok (.iconst 3, 1) := by decide +kernel
theorem dX5_run_2 : decode cX5_run 2 = .ok (.if_icmp .ne 10, 3) := by decide +kernel
theorem dX5_run_5 : decode cX5_run 5 = .ok (.aload_n 0, 1) := by decide +kernel
theorem dX5_run_6 : decode cX5_run 6 = .ok (.getfield 15, 3) := by decide +kernel
theorem dX5_run_9 : decode cX5_run 9 = .ok (.goto 7, 3) := by decide +kernel
theorem dX5_run_12 : decode cX5_run 12 = .ok (.aload_n 0, 1) := by decide +kernel
theorem dX5_run_13 : decode cX5_run 13 = .ok (.getfield 9, 3) := by decide +kernel
theorem dX5_run_16 : decode cX5_run 16 = .ok (.areturn, 1) := by decide +kernel
theorem dX5_startsPiece_0 : decode cX5_startsPiece 0 = .ok (.iload_n 1, 1) := by decide +kernel
theorem dX5_startsPiece_1 : decode cX5_startsPiece 1 = .ok (.iconst 3, 1) := by decide +kernel
theorem dX5_startsPiece_2 : decode cX5_startsPiece 2 = .ok (.if_icmp .ne 22, 3) := by decide +kernel
theorem dX5_startsPiece_5 : decode cX5_startsPiece 5 = .ok (.iload_n 2, 1) := by decide +kernel
theorem dX5_startsPiece_6 : decode cX5_startsPiece 6 = .ok (.ifCond .lt 16, 3) := by decide +kernel
theorem dX5_startsPiece_9 : decode cX5_startsPiece 9 = .ok (.iload_n 2, 1) := by decide +kernel
theorem dX5_startsPiece_10 : decode cX5_startsPiece 10 = .ok (.aload_n 0, 1) := by decide +kernel
theorem dX5_startsPiece_11 : decode cX5_startsPiece 11 = .ok (.getfield 15, 3) := by decide +kernel
theorem dX5_startsPiece_14 : decode cX5_startsPiece 14 = .ok (.arraylength, 1) := by decide +kernel
theorem dX5_startsPiece_15 : decode cX5_startsPiece 15 = .ok (.if_icmp .ge 7, 3) := by decide +kernel
theorem dX5_startsPiece_18 : decode cX5_startsPiece 18 = .ok (.iconst 1, 1) := by decide +kernel
theorem dX5_startsPiece_19 : decode cX5_startsPiece 19 = .ok (.goto 4, 3) := by decide +kernel
theorem dX5_startsPiece_22 : decode cX5_startsPiece 22 = .ok (.iconst 0, 1) := by decide +kernel
theorem dX5_startsPiece_23 : decode cX5_startsPiece 23 = .ok (.ireturn, 1) := by decide +kernel
theorem dX5_startsPiece_24 : decode cX5_startsPiece 24 = .ok (.iload_n 2, 1) := by decide +kernel
theorem dX5_startsPiece_25 : decode cX5_startsPiece 25 = .ok (.ifCond .lt 12, 3) := by decide +kernel
theorem dX5_startsPiece_28 : decode cX5_startsPiece 28 = .ok (.iload_n 2, 1) := by decide +kernel
theorem dX5_startsPiece_29 : decode cX5_startsPiece 29 = .ok (.aload_n 0, 1) := by decide +kernel
theorem dX5_startsPiece_30 : decode cX5_startsPiece 30 = .ok (.getfield 9, 3) := by decide +kernel
theorem dX5_startsPiece_33 : decode cX5_startsPiece 33 = .ok (.arraylength, 1) := by decide +kernel
theorem dX5_startsPiece_34 : decode cX5_startsPiece 34 = .ok (.if_icmp .lt 5, 3) := by decide +kernel
theorem dX5_startsPiece_37 : decode cX5_startsPiece 37 = .ok (.iconst 0, 1) := by decide +kernel
theorem dX5_startsPiece_38 : decode cX5_startsPiece 38 = .ok (.ireturn, 1) := by decide +kernel
theorem dX5_startsPiece_39 : decode cX5_startsPiece 39 = .ok (.iload_n 1, 1) := by decide +kernel
theorem dX5_startsPiece_40 : decode cX5_startsPiece 40 = .ok (.lookupswitch 61 #[(1, 28), (2, 38)], 28) := by decide +kernel
theorem dX5_startsPiece_68 : decode cX5_startsPiece 68 = .ok (.iload_n 2, 1) := by decide +kernel
theorem dX5_startsPiece_69 : decode cX5_startsPiece 69 = .ok (.ifCond .ne 7, 3) := by decide +kernel
theorem dX5_startsPiece_72 : decode cX5_startsPiece 72 = .ok (.iconst 1, 1) := by decide +kernel
theorem dX5_startsPiece_73 : decode cX5_startsPiece 73 = .ok (.goto 4, 3) := by decide +kernel
theorem dX5_startsPiece_76 : decode cX5_startsPiece 76 = .ok (.iconst 0, 1) := by decide +kernel
theorem dX5_startsPiece_77 : decode cX5_startsPiece 77 = .ok (.ireturn, 1) := by decide +kernel
theorem dX5_startsPiece_78 : decode cX5_startsPiece 78 = .ok (.iload_n 2, 1) := by decide +kernel
theorem dX5_startsPiece_79 : decode cX5_startsPiece 79 = .ok (.ifCond .eq 16, 3) := by decide +kernel
theorem dX5_startsPiece_82 : decode cX5_startsPiece 82 = .ok (.aload_n 0, 1) := by decide +kernel
theorem dX5_startsPiece_83 : decode cX5_startsPiece 83 = .ok (.getfield 9, 3) := by decide +kernel
theorem dX5_startsPiece_86 : decode cX5_startsPiece 86 = .ok (.iload_n 2, 1) := by decide +kernel
theorem dX5_startsPiece_87 : decode cX5_startsPiece 87 = .ok (.iconst 1, 1) := by decide +kernel
theorem dX5_startsPiece_88 : decode cX5_startsPiece 88 = .ok (.isub, 1) := by decide +kernel
theorem dX5_startsPiece_89 : decode cX5_startsPiece 89 = .ok (.caload, 1) := by decide +kernel
theorem dX5_startsPiece_90 : decode cX5_startsPiece 90 = .ok (.bipush 32, 2) := by decide +kernel
theorem dX5_startsPiece_92 : decode cX5_startsPiece 92 = .ok (.if_icmp .ne 7, 3) := by decide +kernel
theorem dX5_startsPiece_95 : decode cX5_startsPiece 95 = .ok (.iconst 1, 1) := by decide +kernel
theorem dX5_startsPiece_96 : decode cX5_startsPiece 96 = .ok (.goto 4, 3) := by decide +kernel
theorem dX5_startsPiece_99 : decode cX5_startsPiece 99 = .ok (.iconst 0, 1) := by decide +kernel
theorem dX5_startsPiece_100 : decode cX5_startsPiece 100 = .ok (.ireturn, 1) := by decide +kernel
theorem dX5_startsPiece_101 : decode cX5_startsPiece 101 = .ok (.aload_n 0, 1) := by decide +kernel
theorem dX5_startsPiece_102 : decode cX5_startsPiece 102 = .ok (.getfield 9, 3) := by decide +kernel
theorem dX5_startsPiece_105 : decode cX5_startsPiece 105 = .ok (.iload_n 2, 1) := by decide +kernel
theorem dX5_startsPiece_106 : decode cX5_startsPiece 106 = .ok (.caload, 1) := by decide +kernel
theorem dX5_startsPiece_107 : decode cX5_startsPiece 107 = .ok (.bipush 32, 2) := by decide +kernel
theorem dX5_startsPiece_109 : decode cX5_startsPiece 109 = .ok (.if_icmp .eq 7, 3) := by decide +kernel
theorem dX5_startsPiece_112 : decode cX5_startsPiece 112 = .ok (.iconst 1, 1) := by decide +kernel
theorem dX5_startsPiece_113 : decode cX5_startsPiece 113 = .ok (.goto 4, 3) := by decide +kernel
theorem dX5_startsPiece_116 : decode cX5_startsPiece 116 = .ok (.iconst 0, 1) := by decide +kernel
theorem dX5_startsPiece_117 : decode cX5_startsPiece 117 = .ok (.ireturn, 1) := by decide +kernel
theorem dX5_placeOf_0 : decode cX5_placeOf 0 = .ok (.aload_n 0, 1) := by decide +kernel
theorem dX5_placeOf_1 : decode cX5_placeOf 1 = .ok (.iload_n 3, 1) := by decide +kernel
theorem dX5_placeOf_2 : decode cX5_placeOf 2 = .ok (.invokevirtual 33, 3) := by decide +kernel
theorem dX5_placeOf_5 : decode cX5_placeOf 5 = .ok (.astore 4, 2) := by decide +kernel
theorem dX5_placeOf_7 : decode cX5_placeOf 7 = .ok (.iconst 0, 1) := by decide +kernel
theorem dX5_placeOf_8 : decode cX5_placeOf 8 = .ok (.istore 5, 2) := by decide +kernel
theorem dX5_placeOf_10 : decode cX5_placeOf 10 = .ok (.iload 5, 2) := by decide +kernel
theorem dX5_placeOf_12 : decode cX5_placeOf 12 = .ok (.iload_n 2, 1) := by decide +kernel
theorem dX5_placeOf_13 : decode cX5_placeOf 13 = .ok (.iadd, 1) := by decide +kernel
theorem dX5_placeOf_14 : decode cX5_placeOf 14 = .ok (.aload 4, 2) := by decide +kernel
theorem dX5_placeOf_16 : decode cX5_placeOf 16 = .ok (.arraylength, 1) := by decide +kernel
theorem dX5_placeOf_17 : decode cX5_placeOf 17 = .ok (.if_icmp .gt 36, 3) := by decide +kernel
theorem dX5_placeOf_20 : decode cX5_placeOf 20 = .ok (.aload_n 0, 1) := by decide +kernel
theorem dX5_placeOf_21 : decode cX5_placeOf 21 = .ok (.iload_n 3, 1) := by decide +kernel
theorem dX5_placeOf_22 : decode cX5_placeOf 22 = .ok (.iload 5, 2) := by decide +kernel
theorem dX5_placeOf_24 : decode cX5_placeOf 24 = .ok (.invokevirtual 37, 3) := by decide +kernel
theorem dX5_placeOf_27 : decode cX5_placeOf 27 = .ok (.ifCond .eq 20, 3) := by decide +kernel
theorem dX5_placeOf_30 : decode cX5_placeOf 30 = .ok (.aload_n 1, 1) := by decide +kernel
theorem dX5_placeOf_31 : decode cX5_placeOf 31 = .ok (.iconst 0, 1) := by decide +kernel
theorem dX5_placeOf_32 : decode cX5_placeOf 32 = .ok (.aload 4, 2) := by decide +kernel
theorem dX5_placeOf_34 : decode cX5_placeOf 34 = .ok (.iload 5, 2) := by decide +kernel
theorem dX5_placeOf_36 : decode cX5_placeOf 36 = .ok (.iload_n 2, 1) := by decide +kernel
theorem dX5_placeOf_37 : decode cX5_placeOf 37 = .ok (.invokestatic 41, 3) := by decide +kernel
theorem dX5_placeOf_40 : decode cX5_placeOf 40 = .ok (.iload_n 2, 1) := by decide +kernel
theorem dX5_placeOf_41 : decode cX5_placeOf 41 = .ok (.if_icmp .ne 6, 3) := by decide +kernel
theorem dX5_placeOf_44 : decode cX5_placeOf 44 = .ok (.iload 5, 2) := by decide +kernel
theorem dX5_placeOf_46 : decode cX5_placeOf 46 = .ok (.ireturn, 1) := by decide +kernel
theorem dX5_placeOf_47 : decode cX5_placeOf 47 = .ok (.iinc 5 1, 3) := by decide +kernel
theorem dX5_placeOf_50 : decode cX5_placeOf 50 = .ok (.goto (-40), 3) := by decide +kernel
theorem dX5_placeOf_53 : decode cX5_placeOf 53 = .ok (.bipush (-6), 2) := by decide +kernel
theorem dX5_placeOf_55 : decode cX5_placeOf 55 = .ok (.ireturn, 1) := by decide +kernel
theorem dX5_commonRun_0 : decode cX5_commonRun 0 = .ok (.iconst 0, 1) := by decide +kernel
theorem dX5_commonRun_1 : decode cX5_commonRun 1 = .ok (.istore_n 2, 1) := by decide +kernel
theorem dX5_commonRun_2 : decode cX5_commonRun 2 = .ok (.iconst 0, 1) := by decide +kernel
theorem dX5_commonRun_3 : decode cX5_commonRun 3 = .ok (.istore_n 3, 1) := by decide +kernel
theorem dX5_commonRun_4 : decode cX5_commonRun 4 = .ok (.iload_n 3, 1) := by decide +kernel
theorem dX5_commonRun_5 : decode cX5_commonRun 5 = .ok (.aload_n 0, 1) := by decide +kernel
theorem dX5_commonRun_6 : decode cX5_commonRun 6 = .ok (.getfield 9, 3) := by decide +kernel
theorem dX5_commonRun_9 : decode cX5_commonRun 9 = .ok (.arraylength, 1) := by decide +kernel
theorem dX5_commonRun_10 : decode cX5_commonRun 10 = .ok (.if_icmp .ge 49, 3) := by decide +kernel
theorem dX5_commonRun_13 : decode cX5_commonRun 13 = .ok (.iconst 0, 1) := by decide +kernel
theorem dX5_commonRun_14 : decode cX5_commonRun 14 = .ok (.istore 4, 2) := by decide +kernel
theorem dX5_commonRun_16 : decode cX5_commonRun 16 = .ok (.iload 4, 2) := by decide +kernel
theorem dX5_commonRun_18 : decode cX5_commonRun 18 = .ok (.aload_n 1, 1) := by decide +kernel
theorem dX5_commonRun_19 : decode cX5_commonRun 19 = .ok (.getfield 9, 3) := by decide +kernel
theorem dX5_commonRun_22 : decode cX5_commonRun 22 = .ok (.arraylength, 1) := by decide +kernel
theorem dX5_commonRun_23 : decode cX5_commonRun 23 = .ok (.if_icmp .ge 30, 3) := by decide +kernel
theorem dX5_commonRun_26 : decode cX5_commonRun 26 = .ok (.iload_n 2, 1) := by decide +kernel
theorem dX5_commonRun_27 : decode cX5_commonRun 27 = .ok (.aload_n 0, 1) := by decide +kernel
theorem dX5_commonRun_28 : decode cX5_commonRun 28 = .ok (.getfield 9, 3) := by decide +kernel
theorem dX5_commonRun_31 : decode cX5_commonRun 31 = .ok (.iload_n 3, 1) := by decide +kernel
theorem dX5_commonRun_32 : decode cX5_commonRun 32 = .ok (.aload_n 1, 1) := by decide +kernel
theorem dX5_commonRun_33 : decode cX5_commonRun 33 = .ok (.getfield 9, 3) := by decide +kernel
theorem dX5_commonRun_36 : decode cX5_commonRun 36 = .ok (.iload 4, 2) := by decide +kernel
theorem dX5_commonRun_38 : decode cX5_commonRun 38 = .ok (.bipush 24, 2) := by decide +kernel
theorem dX5_commonRun_40 : decode cX5_commonRun 40 = .ok (.invokestatic 41, 3) := by decide +kernel
theorem dX5_commonRun_43 : decode cX5_commonRun 43 = .ok (.invokestatic 45, 3) := by decide +kernel
theorem dX5_commonRun_46 : decode cX5_commonRun 46 = .ok (.istore_n 2, 1) := by decide +kernel
theorem dX5_commonRun_47 : decode cX5_commonRun 47 = .ok (.iinc 4 1, 3) := by decide +kernel
theorem dX5_commonRun_50 : decode cX5_commonRun 50 = .ok (.goto (-34), 3) := by decide +kernel
theorem dX5_commonRun_53 : decode cX5_commonRun 53 = .ok (.iinc 3 1, 3) := by decide +kernel
theorem dX5_commonRun_56 : decode cX5_commonRun 56 = .ok (.goto (-52), 3) := by decide +kernel
theorem dX5_commonRun_59 : decode cX5_commonRun 59 = .ok (.iload_n 2, 1) := by decide +kernel
theorem dX5_commonRun_60 : decode cX5_commonRun 60 = .ok (.ireturn, 1) := by decide +kernel
theorem dX5_hasLettersOf_0 : decode cX5_hasLettersOf 0 = .ok (.aload_n 0, 1) := by decide +kernel
theorem dX5_hasLettersOf_1 : decode cX5_hasLettersOf 1 = .ok (.getfield 9, 3) := by decide +kernel
theorem dX5_hasLettersOf_4 : decode cX5_hasLettersOf 4 = .ok (.arraylength, 1) := by decide +kernel
theorem dX5_hasLettersOf_5 : decode cX5_hasLettersOf 5 = .ok (.aload_n 1, 1) := by decide +kernel
theorem dX5_hasLettersOf_6 : decode cX5_hasLettersOf 6 = .ok (.getfield 9, 3) := by decide +kernel
theorem dX5_hasLettersOf_9 : decode cX5_hasLettersOf 9 = .ok (.arraylength, 1) := by decide +kernel
theorem dX5_hasLettersOf_10 : decode cX5_hasLettersOf 10 = .ok (.if_icmp .ne 33, 3) := by decide +kernel
theorem dX5_hasLettersOf_13 : decode cX5_hasLettersOf 13 = .ok (.aload_n 0, 1) := by decide +kernel
theorem dX5_hasLettersOf_14 : decode cX5_hasLettersOf 14 = .ok (.getfield 9, 3) := by decide +kernel
theorem dX5_hasLettersOf_17 : decode cX5_hasLettersOf 17 = .ok (.iconst 0, 1) := by decide +kernel
theorem dX5_hasLettersOf_18 : decode cX5_hasLettersOf 18 = .ok (.aload_n 1, 1) := by decide +kernel
theorem dX5_hasLettersOf_19 : decode cX5_hasLettersOf 19 = .ok (.getfield 9, 3) := by decide +kernel
theorem dX5_hasLettersOf_22 : decode cX5_hasLettersOf 22 = .ok (.iconst 0, 1) := by decide +kernel
theorem dX5_hasLettersOf_23 : decode cX5_hasLettersOf 23 = .ok (.aload_n 0, 1) := by decide +kernel
theorem dX5_hasLettersOf_24 : decode cX5_hasLettersOf 24 = .ok (.getfield 9, 3) := by decide +kernel
theorem dX5_hasLettersOf_27 : decode cX5_hasLettersOf 27 = .ok (.arraylength, 1) := by decide +kernel
theorem dX5_hasLettersOf_28 : decode cX5_hasLettersOf 28 = .ok (.invokestatic 41, 3) := by decide +kernel
theorem dX5_hasLettersOf_31 : decode cX5_hasLettersOf 31 = .ok (.aload_n 0, 1) := by decide +kernel
theorem dX5_hasLettersOf_32 : decode cX5_hasLettersOf 32 = .ok (.getfield 9, 3) := by decide +kernel
theorem dX5_hasLettersOf_35 : decode cX5_hasLettersOf 35 = .ok (.arraylength, 1) := by decide +kernel
theorem dX5_hasLettersOf_36 : decode cX5_hasLettersOf 36 = .ok (.if_icmp .ne 7, 3) := by decide +kernel
theorem dX5_hasLettersOf_39 : decode cX5_hasLettersOf 39 = .ok (.iconst 1, 1) := by decide +kernel
theorem dX5_hasLettersOf_40 : decode cX5_hasLettersOf 40 = .ok (.goto 4, 3) := by decide +kernel
theorem dX5_hasLettersOf_43 : decode cX5_hasLettersOf 43 = .ok (.iconst 0, 1) := by decide +kernel
theorem dX5_hasLettersOf_44 : decode cX5_hasLettersOf 44 = .ok (.ireturn, 1) := by decide +kernel
theorem dX5_comesByNameBefore_0 : decode cX5_comesByNameBefore 0 = .ok (.iconst 0, 1) := by decide +kernel
theorem dX5_comesByNameBefore_1 : decode cX5_comesByNameBefore 1 = .ok (.istore_n 2, 1) := by decide +kernel
theorem dX5_comesByNameBefore_2 : decode cX5_comesByNameBefore 2 = .ok (.iload_n 2, 1) := by decide +kernel
theorem dX5_comesByNameBefore_3 : decode cX5_comesByNameBefore 3 = .ok (.aload_n 0, 1) := by decide +kernel
theorem dX5_comesByNameBefore_4 : decode cX5_comesByNameBefore 4 = .ok (.getfield 9, 3) := by decide +kernel
theorem dX5_comesByNameBefore_7 : decode cX5_comesByNameBefore 7 = .ok (.arraylength, 1) := by decide +kernel
theorem dX5_comesByNameBefore_8 : decode cX5_comesByNameBefore 8 = .ok (.if_icmp .ge 54, 3) := by decide +kernel
theorem dX5_comesByNameBefore_11 : decode cX5_comesByNameBefore 11 = .ok (.iload_n 2, 1) := by decide +kernel
theorem dX5_comesByNameBefore_12 : decode cX5_comesByNameBefore 12 = .ok (.aload_n 1, 1) := by decide +kernel
theorem dX5_comesByNameBefore_13 : decode cX5_comesByNameBefore 13 = .ok (.getfield 9, 3) := by decide +kernel
theorem dX5_comesByNameBefore_16 : decode cX5_comesByNameBefore 16 = .ok (.arraylength, 1) := by decide +kernel
theorem dX5_comesByNameBefore_17 : decode cX5_comesByNameBefore 17 = .ok (.if_icmp .ge 45, 3) := by decide +kernel
theorem dX5_comesByNameBefore_20 : decode cX5_comesByNameBefore 20 = .ok (.aload_n 0, 1) := by decide +kernel
theorem dX5_comesByNameBefore_21 : decode cX5_comesByNameBefore 21 = .ok (.getfield 9, 3) := by decide +kernel
theorem dX5_comesByNameBefore_24 : decode cX5_comesByNameBefore 24 = .ok (.iload_n 2, 1) := by decide +kernel
theorem dX5_comesByNameBefore_25 : decode cX5_comesByNameBefore 25 = .ok (.caload, 1) := by decide +kernel
theorem dX5_comesByNameBefore_26 : decode cX5_comesByNameBefore 26 = .ok (.aload_n 1, 1) := by decide +kernel
theorem dX5_comesByNameBefore_27 : decode cX5_comesByNameBefore 27 = .ok (.getfield 9, 3) := by decide +kernel
theorem dX5_comesByNameBefore_30 : decode cX5_comesByNameBefore 30 = .ok (.iload_n 2, 1) := by decide +kernel
theorem dX5_comesByNameBefore_31 : decode cX5_comesByNameBefore 31 = .ok (.caload, 1) := by decide +kernel
theorem dX5_comesByNameBefore_32 : decode cX5_comesByNameBefore 32 = .ok (.if_icmp .eq 24, 3) := by decide +kernel
theorem dX5_comesByNameBefore_35 : decode cX5_comesByNameBefore 35 = .ok (.aload_n 0, 1) := by decide +kernel
theorem dX5_comesByNameBefore_36 : decode cX5_comesByNameBefore 36 = .ok (.getfield 9, 3) := by decide +kernel
theorem dX5_comesByNameBefore_39 : decode cX5_comesByNameBefore 39 = .ok (.iload_n 2, 1) := by decide +kernel
theorem dX5_comesByNameBefore_40 : decode cX5_comesByNameBefore 40 = .ok (.caload, 1) := by decide +kernel
theorem dX5_comesByNameBefore_41 : decode cX5_comesByNameBefore 41 = .ok (.aload_n 1, 1) := by decide +kernel
theorem dX5_comesByNameBefore_42 : decode cX5_comesByNameBefore 42 = .ok (.getfield 9, 3) := by decide +kernel
theorem dX5_comesByNameBefore_45 : decode cX5_comesByNameBefore 45 = .ok (.iload_n 2, 1) := by decide +kernel
theorem dX5_comesByNameBefore_46 : decode cX5_comesByNameBefore 46 = .ok (.caload, 1) := by decide +kernel
theorem dX5_comesByNameBefore_47 : decode cX5_comesByNameBefore 47 = .ok (.if_icmp .ge 7, 3) := by decide +kernel
theorem dX5_comesByNameBefore_50 : decode cX5_comesByNameBefore 50 = .ok (.iconst 1, 1) := by decide +kernel
theorem dX5_comesByNameBefore_51 : decode cX5_comesByNameBefore 51 = .ok (.goto 4, 3) := by decide +kernel
theorem dX5_comesByNameBefore_54 : decode cX5_comesByNameBefore 54 = .ok (.iconst 0, 1) := by decide +kernel
theorem dX5_comesByNameBefore_55 : decode cX5_comesByNameBefore 55 = .ok (.ireturn, 1) := by decide +kernel
theorem dX5_comesByNameBefore_56 : decode cX5_comesByNameBefore 56 = .ok (.iinc 2 1, 3) := by decide +kernel
theorem dX5_comesByNameBefore_59 : decode cX5_comesByNameBefore 59 = .ok (.goto (-57), 3) := by decide +kernel
theorem dX5_comesByNameBefore_62 : decode cX5_comesByNameBefore 62 = .ok (.aload_n 0, 1) := by decide +kernel
theorem dX5_comesByNameBefore_63 : decode cX5_comesByNameBefore 63 = .ok (.getfield 9, 3) := by decide +kernel
theorem dX5_comesByNameBefore_66 : decode cX5_comesByNameBefore 66 = .ok (.arraylength, 1) := by decide +kernel
theorem dX5_comesByNameBefore_67 : decode cX5_comesByNameBefore 67 = .ok (.aload_n 1, 1) := by decide +kernel
theorem dX5_comesByNameBefore_68 : decode cX5_comesByNameBefore 68 = .ok (.getfield 9, 3) := by decide +kernel
theorem dX5_comesByNameBefore_71 : decode cX5_comesByNameBefore 71 = .ok (.arraylength, 1) := by decide +kernel
theorem dX5_comesByNameBefore_72 : decode cX5_comesByNameBefore 72 = .ok (.if_icmp .ge 7, 3) := by decide +kernel
theorem dX5_comesByNameBefore_75 : decode cX5_comesByNameBefore 75 = .ok (.iconst 1, 1) := by decide +kernel
theorem dX5_comesByNameBefore_76 : decode cX5_comesByNameBefore 76 = .ok (.goto 4, 3) := by decide +kernel
theorem dX5_comesByNameBefore_79 : decode cX5_comesByNameBefore 79 = .ok (.iconst 0, 1) := by decide +kernel
theorem dX5_comesByNameBefore_80 : decode cX5_comesByNameBefore 80 = .ok (.ireturn, 1) := by decide +kernel
theorem dX5_sameLength_0 : decode cX5_sameLength 0 = .ok (.iconst 0, 1) := by decide +kernel
theorem dX5_sameLength_1 : decode cX5_sameLength 1 = .ok (.istore 5, 2) := by decide +kernel
theorem dX5_sameLength_3 : decode cX5_sameLength 3 = .ok (.iload 5, 2) := by decide +kernel
theorem dX5_sameLength_5 : decode cX5_sameLength 5 = .ok (.iload 4, 2) := by decide +kernel
theorem dX5_sameLength_7 : decode cX5_sameLength 7 = .ok (.if_icmp .ge 42, 3) := by decide +kernel
theorem dX5_sameLength_10 : decode cX5_sameLength 10 = .ok (.iload_n 1, 1) := by decide +kernel
theorem dX5_sameLength_11 : decode cX5_sameLength 11 = .ok (.iload 5, 2) := by decide +kernel
theorem dX5_sameLength_13 : decode cX5_sameLength 13 = .ok (.iadd, 1) := by decide +kernel
theorem dX5_sameLength_14 : decode cX5_sameLength 14 = .ok (.aload_n 0, 1) := by decide +kernel
theorem dX5_sameLength_15 : decode cX5_sameLength 15 = .ok (.arraylength, 1) := by decide +kernel
theorem dX5_sameLength_16 : decode cX5_sameLength 16 = .ok (.if_icmp .ge 33, 3) := by decide +kernel
theorem dX5_sameLength_19 : decode cX5_sameLength 19 = .ok (.iload_n 3, 1) := by decide +kernel
theorem dX5_sameLength_20 : decode cX5_sameLength 20 = .ok (.iload 5, 2) := by decide +kernel
theorem dX5_sameLength_22 : decode cX5_sameLength 22 = .ok (.iadd, 1) := by decide +kernel
theorem dX5_sameLength_23 : decode cX5_sameLength 23 = .ok (.aload_n 2, 1) := by decide +kernel
theorem dX5_sameLength_24 : decode cX5_sameLength 24 = .ok (.arraylength, 1) := by decide +kernel
theorem dX5_sameLength_25 : decode cX5_sameLength 25 = .ok (.if_icmp .ge 24, 3) := by decide +kernel
theorem dX5_sameLength_28 : decode cX5_sameLength 28 = .ok (.aload_n 0, 1) := by decide +kernel
theorem dX5_sameLength_29 : decode cX5_sameLength 29 = .ok (.iload_n 1, 1) := by decide +kernel
theorem dX5_sameLength_30 : decode cX5_sameLength 30 = .ok (.iload 5, 2) := by decide +kernel
theorem dX5_sameLength_32 : decode cX5_sameLength 32 = .ok (.iadd, 1) := by decide +kernel
theorem dX5_sameLength_33 : decode cX5_sameLength 33 = .ok (.caload, 1) := by decide +kernel
theorem dX5_sameLength_34 : decode cX5_sameLength 34 = .ok (.aload_n 2, 1) := by decide +kernel
theorem dX5_sameLength_35 : decode cX5_sameLength 35 = .ok (.iload_n 3, 1) := by decide +kernel
theorem dX5_sameLength_36 : decode cX5_sameLength 36 = .ok (.iload 5, 2) := by decide +kernel
theorem dX5_sameLength_38 : decode cX5_sameLength 38 = .ok (.iadd, 1) := by decide +kernel
theorem dX5_sameLength_39 : decode cX5_sameLength 39 = .ok (.caload, 1) := by decide +kernel
theorem dX5_sameLength_40 : decode cX5_sameLength 40 = .ok (.if_icmp .ne 9, 3) := by decide +kernel
theorem dX5_sameLength_43 : decode cX5_sameLength 43 = .ok (.iinc 5 1, 3) := by decide +kernel
theorem dX5_sameLength_46 : decode cX5_sameLength 46 = .ok (.goto (-43), 3) := by decide +kernel
theorem dX5_sameLength_49 : decode cX5_sameLength 49 = .ok (.iload 5, 2) := by decide +kernel
theorem dX5_sameLength_51 : decode cX5_sameLength 51 = .ok (.ireturn, 1) := by decide +kernel
theorem dX6_init_0 : decode cX6_init 0 = .ok (.aload_n 0, 1) := by decide +kernel
theorem dX6_init_1 : decode cX6_init 1 = .ok (.invokespecial 1, 3) := by decide +kernel
theorem dX6_init_4 : decode cX6_init 4 = .ok (.aload_n 0, 1) := by decide +kernel
theorem dX6_init_5 : decode cX6_init 5 = .ok (.new 7, 3) := by decide +kernel
theorem dX6_init_8 : decode cX6_init 8 = .ok (.dup, 1) := by decide +kernel
theorem dX6_init_9 : decode cX6_init 9 = .ok (.invokespecial 9, 3) := by decide +kernel
theorem dX6_init_12 : decode cX6_init 12 = .ok (.putfield 10, 3) := by decide +kernel
theorem dX6_init_15 : decode cX6_init 15 = .ok (.aload_n 0, 1) := by decide +kernel
theorem dX6_init_16 : decode cX6_init 16 = .ok (.new 7, 3) := by decide +kernel
theorem dX6_init_19 : decode cX6_init 19 = .ok (.dup, 1) := by decide +kernel
theorem dX6_init_20 : decode cX6_init 20 = .ok (.invokespecial 9, 3) := by decide +kernel
theorem dX6_init_23 : decode cX6_init 23 = .ok (.putfield 16, 3) := by decide +kernel
theorem dX6_init_26 : decode cX6_init 26 = .ok (.aload_n 0, 1) := by decide +kernel
theorem dX6_init_27 : decode cX6_init 27 = .ok (.new 19, 3) := by decide +kernel
theorem dX6_init_30 : decode cX6_init 30 = .ok (.dup, 1) := by decide +kernel
theorem dX6_init_31 : decode cX6_init 31 = .ok (.invokespecial 21, 3) := by decide +kernel
theorem dX6_init_34 : decode cX6_init 34 = .ok (.putfield 22, 3) := by decide +kernel
theorem dX6_init_37 : decode cX6_init 37 = .ok (.aload_n 0, 1) := by decide +kernel
theorem dX6_init_38 : decode cX6_init 38 = .ok (.new 26, 3) := by decide +kernel
theorem dX6_init_41 : decode cX6_init 41 = .ok (.dup, 1) := by decide +kernel
theorem dX6_init_42 : decode cX6_init 42 = .ok (.invokespecial 28, 3) := by decide +kernel
theorem dX6_init_45 : decode cX6_init 45 = .ok (.putfield 29, 3) := by decide +kernel
theorem dX6_init_48 : decode cX6_init 48 = .ok (.aload_n 0, 1) := by decide +kernel
theorem dX6_init_49 : decode cX6_init 49 = .ok (.new 33, 3) := by decide +kernel
theorem dX6_init_52 : decode cX6_init 52 = .ok (.dup, 1) := by decide +kernel
theorem dX6_init_53 : decode cX6_init 53 = .ok (.invokespecial 35, 3) := by decide +kernel
theorem dX6_init_56 : decode cX6_init 56 = .ok (.putfield 36, 3) := by decide +kernel
theorem dX6_init_59 : decode cX6_init 59 = .ok (.aload_n 0, 1) := by decide +kernel
theorem dX6_init_60 : decode cX6_init 60 = .ok (.new 40, 3) := by decide +kernel
theorem dX6_init_63 : decode cX6_init 63 = .ok (.dup, 1) := by decide +kernel
theorem dX6_init_64 : decode cX6_init 64 = .ok (.invokespecial 42, 3) := by decide +kernel
theorem dX6_init_67 : decode cX6_init 67 = .ok (.putfield 43, 3) := by decide +kernel
theorem dX6_init_70 : decode cX6_init 70 = .ok (.return_, 1) := by decide +kernel
theorem dX6_type_0 : decode cX6_type 0 = .ok (.iload_n 1, 1) := by decide +kernel
theorem dX6_type_1 : decode cX6_type 1 = .ok (.bipush 32, 2) := by decide +kernel
theorem dX6_type_3 : decode cX6_type 3 = .ok (.if_icmp .lt 9, 3) := by decide +kernel
theorem dX6_type_6 : decode cX6_type 6 = .ok (.iload_n 1, 1) := by decide +kernel
theorem dX6_type_7 : decode cX6_type 7 = .ok (.bipush 126, 2) := by decide +kernel
theorem dX6_type_9 : decode cX6_type 9 = .ok (.if_icmp .le 6, 3) := by decide +kernel
theorem dX6_type_12 : decode cX6_type 12 = .ok (.bipush (-2), 2) := by decide +kernel
theorem dX6_type_14 : decode cX6_type 14 = .ok (.ireturn, 1) := by decide +kernel
theorem dX6_type_15 : decode cX6_type 15 = .ok (.aload_n 0, 1) := by decide +kernel
theorem dX6_type_16 : decode cX6_type 16 = .ok (.getfield 29, 3) := by decide +kernel
theorem dX6_type_19 : decode cX6_type 19 = .ok (.iload_n 1, 1) := by decide +kernel
theorem dX6_type_20 : decode cX6_type 20 = .ok (.i2c, 1) := by decide +kernel
theorem dX6_type_21 : decode cX6_type 21 = .ok (.invokevirtual 47, 3) := by decide +kernel
theorem dX6_type_24 : decode cX6_type 24 = .ok (.ifCond .ne 6, 3) := by decide +kernel
theorem dX6_type_27 : decode cX6_type 27 = .ok (.bipush (-4), 2) := by decide +kernel
theorem dX6_type_29 : decode cX6_type 29 = .ok (.ireturn, 1) := by decide +kernel
theorem dX6_type_30 : decode cX6_type 30 = .ok (.aload_n 0, 1) := by decide +kernel
theorem dX6_type_31 : decode cX6_type 31 = .ok (.getfield 29, 3) := by decide +kernel
theorem dX6_type_34 : decode cX6_type 34 = .ok (.getfield 51, 3) := by decide +kernel
theorem dX6_type_37 : decode cX6_type 37 = .ok (.ireturn, 1) := by decide +kernel
theorem dX6_clearText_0 : decode cX6_clearText 0 = .ok (.aload_n 0, 1) := by decide +kernel
theorem dX6_clearText_1 : decode cX6_clearText 1 = .ok (.getfield 29, 3) := by decide +kernel
theorem dX6_clearText_4 : decode cX6_clearText 4 = .ok (.getfield 51, 3) := by decide +kernel
theorem dX6_clearText_7 : decode cX6_clearText 7 = .ok (.istore_n 1, 1) := by decide +kernel
theorem dX6_clearText_8 : decode cX6_clearText 8 = .ok (.aload_n 0, 1) := by decide +kernel
theorem dX6_clearText_9 : decode cX6_clearText 9 = .ok (.getfield 29, 3) := by decide +kernel
theorem dX6_clearText_12 : decode cX6_clearText 12 = .ok (.invokevirtual 55, 3) := by decide +kernel
theorem dX6_clearText_15 : decode cX6_clearText 15 = .ok (.iload_n 1, 1) := by decide +kernel
theorem dX6_clearText_16 : decode cX6_clearText 16 = .ok (.ireturn, 1) := by decide +kernel
theorem dX6_syntaxError_0 : decode cX6_syntaxError 0 = .ok (.aload_n 0, 1) := by decide +kernel
theorem dX6_syntaxError_1 : decode cX6_syntaxError 1 = .ok (.getfield 29, 3) := by decide +kernel
theorem dX6_syntaxError_4 : decode cX6_syntaxError 4 = .ok (.invokevirtual 58, 3) := by decide +kernel
theorem dX6_syntaxError_7 : decode cX6_syntaxError 7 = .ok (.ireturn, 1) := by decide +kernel
theorem dX6_carryOut_0 : decode cX6_carryOut 0 = .ok (.aload_n 0, 1) := by decide +kernel
theorem dX6_carryOut_1 : decode cX6_carryOut 1 = .ok (.getfield 29, 3) := by decide +kernel
theorem dX6_carryOut_4 : decode cX6_carryOut 4 = .ok (.invokevirtual 58, 3) := by decide +kernel
theorem dX6_carryOut_7 : decode cX6_carryOut 7 = .ok (.bipush (-6), 2) := by decide +kernel
theorem dX6_carryOut_9 : decode cX6_carryOut 9 = .ok (.if_icmp .eq 6, 3) := by decide +kernel
theorem dX6_carryOut_12 : decode cX6_carryOut 12 = .ok (.bipush (-5), 2) := by decide +kernel
theorem dX6_carryOut_14 : decode cX6_carryOut 14 = .ok (.ireturn, 1) := by decide +kernel
theorem dX6_carryOut_15 : decode cX6_carryOut 15 = .ok (.aload_n 0, 1) := by decide +kernel
theorem dX6_carryOut_16 : decode cX6_carryOut 16 = .ok (.getfield 22, 3) := by decide +kernel
theorem dX6_carryOut_19 : decode cX6_carryOut 19 = .ok (.aload_n 0, 1) := by decide +kernel
theorem dX6_carryOut_20 : decode cX6_carryOut 20 = .ok (.getfield 10, 3) := by decide +kernel
theorem dX6_carryOut_23 : decode cX6_carryOut 23 = .ok (.invokevirtual 62, 3) := by decide +kernel
theorem dX6_carryOut_26 : decode cX6_carryOut 26 = .ok (.aload_n 0, 1) := by decide +kernel
theorem dX6_carryOut_27 : decode cX6_carryOut 27 = .ok (.getfield 29, 3) := by decide +kernel
theorem dX6_carryOut_30 : decode cX6_carryOut 30 = .ok (.invokevirtual 66, 3) := by decide +kernel
theorem dX6_carryOut_33 : decode cX6_carryOut 33 = .ok (.iconst 0, 1) := by decide +kernel
theorem dX6_carryOut_34 : decode cX6_carryOut 34 = .ok (.istore_n 1, 1) := by decide +kernel
theorem dX6_carryOut_35 : decode cX6_carryOut 35 = .ok (.iload_n 1, 1) := by decide +kernel
theorem dX6_carryOut_36 : decode cX6_carryOut 36 = .ok (.bipush 80, 2) := by decide +kernel
theorem dX6_carryOut_38 : decode cX6_carryOut 38 = .ok (.if_icmp .ge 36, 3) := by decide +kernel
theorem dX6_carryOut_41 : decode cX6_carryOut 41 = .ok (.aload_n 0, 1) := by decide +kernel
theorem dX6_carryOut_42 : decode cX6_carryOut 42 = .ok (.getfield 29, 3) := by decide +kernel
theorem dX6_carryOut_45 : decode cX6_carryOut 45 = .ok (.invokevirtual 69, 3) := by decide +kernel
theorem dX6_carryOut_48 : decode cX6_carryOut 48 = .ok (.ifCond .eq 26, 3) := by decide +kernel
theorem dX6_carryOut_51 : decode cX6_carryOut 51 = .ok (.aload_n 0, 1) := by decide +kernel
theorem dX6_carryOut_52 : decode cX6_carryOut 52 = .ok (.invokevirtual 73, 3) := by decide +kernel
theorem dX6_carryOut_55 : decode cX6_carryOut 55 = .ok (.ifCond .eq 19, 3) := by decide +kernel
theorem dX6_carryOut_58 : decode cX6_carryOut 58 = .ok (.iinc 1 1, 3) := by decide +kernel
theorem dX6_carryOut_61 : decode cX6_carryOut 61 = .ok (.aload_n 0, 1) := by decide +kernel
theorem dX6_carryOut_62 : decode cX6_carryOut 62 = .ok (.getfield 29, 3) := by decide +kernel
theorem dX6_carryOut_65 : decode cX6_carryOut 65 = .ok (.invokevirtual 76, 3) := by decide +kernel
theorem dX6_carryOut_68 : decode cX6_carryOut 68 = .ok (.ifCond .ne (-33), 3) := by decide +kernel
theorem dX6_carryOut_71 : decode cX6_carryOut 71 = .ok (.goto 3, 3) := by decide +kernel
theorem dX6_carryOut_74 : decode cX6_carryOut 74 = .ok (.aload_n 0, 1) := by decide +kernel
theorem dX6_carryOut_75 : decode cX6_carryOut 75 = .ok (.getfield 29, 3) := by decide +kernel
theorem dX6_carryOut_78 : decode cX6_carryOut 78 = .ok (.invokevirtual 55, 3) := by decide +kernel
theorem dX6_carryOut_81 : decode cX6_carryOut 81 = .ok (.iload_n 1, 1) := by decide +kernel
theorem dX6_carryOut_82 : decode cX6_carryOut 82 = .ok (.ireturn, 1) := by decide +kernel
theorem dX6_obeyed_0 : decode cX6_obeyed 0 = .ok (.aload_n 0, 1) := by decide +kernel
theorem dX6_obeyed_1 : decode cX6_obeyed 1 = .ok (.getfield 29, 3) := by decide +kernel
theorem dX6_obeyed_4 : decode cX6_obeyed 4 = .ok (.getfield 79, 3) := by decide +kernel
theorem dX6_obeyed_7 : decode cX6_obeyed 7 = .ok (.tableswitch 148 0 6 #[41, 61, 73, 89, 105, 118, 138], 41) := by decide +kernel
theorem dX6_obeyed_48 : decode cX6_obeyed 48 = .ok (.aload_n 0, 1) := by decide +kernel
theorem dX6_obeyed_49 : decode cX6_obeyed 49 = .ok (.aload_n 0, 1) := by decide +kernel
theorem dX6_obeyed_50 : decode cX6_obeyed 50 = .ok (.getfield 29, 3) := by decide +kernel
theorem dX6_obeyed_53 : decode cX6_obeyed 53 = .ok (.invokevirtual 82, 3) := by decide +kernel
theorem dX6_obeyed_56 : decode cX6_obeyed 56 = .ok (.invokevirtual 86, 3) := by decide +kernel
theorem dX6_obeyed_59 : decode cX6_obeyed 59 = .ok (.ifCond .lt 7, 3) := by decide +kernel
theorem dX6_obeyed_62 : decode cX6_obeyed 62 = .ok (.iconst 1, 1) := by decide +kernel
theorem dX6_obeyed_63 : decode cX6_obeyed 63 = .ok (.goto 4, 3) := by decide +kernel
theorem dX6_obeyed_66 : decode cX6_obeyed 66 = .ok (.iconst 0, 1) := by decide +kernel
theorem dX6_obeyed_67 : decode cX6_obeyed 67 = .ok (.ireturn, 1) := by decide +kernel
theorem dX6_obeyed_68 : decode cX6_obeyed 68 = .ok (.aload_n 0, 1) := by decide +kernel
theorem dX6_obeyed_69 : decode cX6_obeyed 69 = .ok (.aload_n 0, 1) := by decide +kernel
theorem dX6_obeyed_70 : decode cX6_obeyed 70 = .ok (.getfield 29, 3) := by decide +kernel
theorem dX6_obeyed_73 : decode cX6_obeyed 73 = .ok (.getfield 90, 3) := by decide +kernel
theorem dX6_obeyed_76 : decode cX6_obeyed 76 = .ok (.invokevirtual 93, 3) := by decide +kernel
theorem dX6_obeyed_79 : decode cX6_obeyed 79 = .ok (.ireturn, 1) := by decide +kernel
theorem dX6_obeyed_80 : decode cX6_obeyed 80 = .ok (.aload_n 0, 1) := by decide +kernel
theorem dX6_obeyed_81 : decode cX6_obeyed 81 = .ok (.getfield 10, 3) := by decide +kernel
theorem dX6_obeyed_84 : decode cX6_obeyed 84 = .ok (.aload_n 0, 1) := by decide +kernel
theorem dX6_obeyed_85 : decode cX6_obeyed 85 = .ok (.getfield 29, 3) := by decide +kernel
theorem dX6_obeyed_88 : decode cX6_obeyed 88 = .ok (.getfield 90, 3) := by decide +kernel
theorem dX6_obeyed_91 : decode cX6_obeyed 91 = .ok (.putfield 97, 3) := by decide +kernel
theorem dX6_obeyed_94 : decode cX6_obeyed 94 = .ok (.iconst 1, 1) := by decide +kernel
theorem dX6_obeyed_95 : decode cX6_obeyed 95 = .ok (.ireturn, 1) := by decide +kernel
theorem dX6_obeyed_96 : decode cX6_obeyed 96 = .ok (.aload_n 0, 1) := by decide +kernel
theorem dX6_obeyed_97 : decode cX6_obeyed 97 = .ok (.getfield 10, 3) := by decide +kernel
theorem dX6_obeyed_100 : decode cX6_obeyed 100 = .ok (.aload_n 0, 1) := by decide +kernel
theorem dX6_obeyed_101 : decode cX6_obeyed 101 = .ok (.getfield 29, 3) := by decide +kernel
theorem dX6_obeyed_104 : decode cX6_obeyed 104 = .ok (.getfield 90, 3) := by decide +kernel
theorem dX6_obeyed_107 : decode cX6_obeyed 107 = .ok (.putfield 100, 3) := by decide +kernel
theorem dX6_obeyed_110 : decode cX6_obeyed 110 = .ok (.iconst 1, 1) := by decide +kernel
theorem dX6_obeyed_111 : decode cX6_obeyed 111 = .ok (.ireturn, 1) := by decide +kernel
theorem dX6_obeyed_112 : decode cX6_obeyed 112 = .ok (.aload_n 0, 1) := by decide +kernel
theorem dX6_obeyed_113 : decode cX6_obeyed 113 = .ok (.getfield 29, 3) := by decide +kernel
theorem dX6_obeyed_116 : decode cX6_obeyed 116 = .ok (.aload_n 0, 1) := by decide +kernel
theorem dX6_obeyed_117 : decode cX6_obeyed 117 = .ok (.getfield 10, 3) := by decide +kernel
theorem dX6_obeyed_120 : decode cX6_obeyed 120 = .ok (.invokevirtual 103, 3) := by decide +kernel
theorem dX6_obeyed_123 : decode cX6_obeyed 123 = .ok (.iconst 1, 1) := by decide +kernel
theorem dX6_obeyed_124 : decode cX6_obeyed 124 = .ok (.ireturn, 1) := by decide +kernel
theorem dX6_obeyed_125 : decode cX6_obeyed 125 = .ok (.aload_n 0, 1) := by decide +kernel
theorem dX6_obeyed_126 : decode cX6_obeyed 126 = .ok (.aload_n 0, 1) := by decide +kernel
theorem dX6_obeyed_127 : decode cX6_obeyed 127 = .ok (.getfield 29, 3) := by decide +kernel
theorem dX6_obeyed_130 : decode cX6_obeyed 130 = .ok (.getfield 90, 3) := by decide +kernel
theorem dX6_obeyed_133 : decode cX6_obeyed 133 = .ok (.invokevirtual 106, 3) := by decide +kernel
theorem dX6_obeyed_136 : decode cX6_obeyed 136 = .ok (.ifCond .lt 7, 3) := by decide +kernel
theorem dX6_obeyed_139 : decode cX6_obeyed 139 = .ok (.iconst 1, 1) := by decide +kernel
theorem dX6_obeyed_140 : decode cX6_obeyed 140 = .ok (.goto 4, 3) := by decide +kernel
theorem dX6_obeyed_143 : decode cX6_obeyed 143 = .ok (.iconst 0, 1) := by decide +kernel
theorem dX6_obeyed_144 : decode cX6_obeyed 144 = .ok (.ireturn, 1) := by decide +kernel
theorem dX6_obeyed_145 : decode cX6_obeyed 145 = .ok (.aload_n 0, 1) := by decide +kernel
theorem dX6_obeyed_146 : decode cX6_obeyed 146 = .ok (.getfield 10, 3) := by decide +kernel
theorem dX6_obeyed_149 : decode cX6_obeyed 149 = .ok (.iconst 0, 1) := by decide +kernel
theorem dX6_obeyed_150 : decode cX6_obeyed 150 = .ok (.putfield 110, 3) := by decide +kernel
theorem dX6_obeyed_153 : decode cX6_obeyed 153 = .ok (.iconst 1, 1) := by decide +kernel
theorem dX6_obeyed_154 : decode cX6_obeyed 154 = .ok (.ireturn, 1) := by decide +kernel
theorem dX6_obeyed_155 : decode cX6_obeyed 155 = .ok (.iconst 0, 1) := by decide +kernel
theorem dX6_obeyed_156 : decode cX6_obeyed 156 = .ok (.ireturn, 1) := by decide +kernel
theorem dX6_add_0 : decode cX6_add 0 = .ok (.aload_n 0, 1) := by decide +kernel
theorem dX6_add_1 : decode cX6_add 1 = .ok (.getfield 29, 3) := by decide +kernel
theorem dX6_add_4 : decode cX6_add 4 = .ok (.invokevirtual 113, 3) := by decide +kernel
theorem dX6_add_7 : decode cX6_add 7 = .ok (.ifCond .ne 6, 3) := by decide +kernel
theorem dX6_add_10 : decode cX6_add 10 = .ok (.bipush (-5), 2) := by decide +kernel
theorem dX6_add_12 : decode cX6_add 12 = .ok (.ireturn, 1) := by decide +kernel
theorem dX6_add_13 : decode cX6_add 13 = .ok (.aload_n 0, 1) := by decide +kernel
theorem dX6_add_14 : decode cX6_add 14 = .ok (.getfield 29, 3) := by decide +kernel
theorem dX6_add_17 : decode cX6_add 17 = .ok (.invokevirtual 82, 3) := by decide +kernel
theorem dX6_add_20 : decode cX6_add 20 = .ok (.astore_n 1, 1) := by decide +kernel
theorem dX6_add_21 : decode cX6_add 21 = .ok (.aload_n 0, 1) := by decide +kernel
theorem dX6_add_22 : decode cX6_add 22 = .ok (.getfield 10, 3) := by decide +kernel
theorem dX6_add_25 : decode cX6_add 25 = .ok (.aload_n 1, 1) := by decide +kernel
theorem dX6_add_26 : decode cX6_add 26 = .ok (.invokevirtual 116, 3) := by decide +kernel
theorem dX6_add_29 : decode cX6_add 29 = .ok (.istore_n 2, 1) := by decide +kernel
theorem dX6_add_30 : decode cX6_add 30 = .ok (.iload_n 2, 1) := by decide +kernel
theorem dX6_add_31 : decode cX6_add 31 = .ok (.ifCond .ge 5, 3) := by decide +kernel
theorem dX6_add_34 : decode cX6_add 34 = .ok (.iload_n 2, 1) := by decide +kernel
theorem dX6_add_35 : decode cX6_add 35 = .ok (.ireturn, 1) := by decide +kernel
theorem dX6_add_36 : decode cX6_add 36 = .ok (.aload_n 0, 1) := by decide +kernel
theorem dX6_add_37 : decode cX6_add 37 = .ok (.getfield 22, 3) := by decide +kernel
theorem dX6_add_40 : decode cX6_add 40 = .ok (.aload_n 0, 1) := by decide +kernel
theorem dX6_add_41 : decode cX6_add 41 = .ok (.getfield 10, 3) := by decide +kernel
theorem dX6_add_44 : decode cX6_add 44 = .ok (.invokevirtual 62, 3) := by decide +kernel
theorem dX6_add_47 : decode cX6_add 47 = .ok (.aload_n 0, 1) := by decide +kernel
theorem dX6_add_48 : decode cX6_add 48 = .ok (.getfield 29, 3) := by decide +kernel
theorem dX6_add_51 : decode cX6_add 51 = .ok (.invokevirtual 55, 3) := by decide +kernel
theorem dX6_add_54 : decode cX6_add 54 = .ok (.aload_n 0, 1) := by decide +kernel
theorem dX6_add_55 : decode cX6_add 55 = .ok (.aload_n 1, 1) := by decide +kernel
theorem dX6_add_56 : decode cX6_add 56 = .ok (.invokevirtual 86, 3) := by decide +kernel
theorem dX6_add_59 : decode cX6_add 59 = .ok (.ireturn, 1) := by decide +kernel
theorem dX6_addIfPossible_0 : decode cX6_addIfPossible 0 = .ok (.aload_n 0, 1) := by decide +kernel
theorem dX6_addIfPossible_1 : decode cX6_addIfPossible 1 = .ok (.getfield 10, 3) := by decide +kernel
theorem dX6_addIfPossible_4 : decode cX6_addIfPossible 4 = .ok (.aload_n 1, 1) := by decide +kernel
theorem dX6_addIfPossible_5 : decode cX6_addIfPossible 5 = .ok (.invokevirtual 116, 3) := by decide +kernel
theorem dX6_addIfPossible_8 : decode cX6_addIfPossible 8 = .ok (.istore_n 2, 1) := by decide +kernel
theorem dX6_addIfPossible_9 : decode cX6_addIfPossible 9 = .ok (.iload_n 2, 1) := by decide +kernel
theorem dX6_addIfPossible_10 : decode cX6_addIfPossible 10 = .ok (.ifCond .ge 5, 3) := by decide +kernel
theorem dX6_addIfPossible_13 : decode cX6_addIfPossible 13 = .ok (.iload_n 2, 1) := by decide +kernel
theorem dX6_addIfPossible_14 : decode cX6_addIfPossible 14 = .ok (.ireturn, 1) := by decide +kernel
theorem dX6_addIfPossible_15 : decode cX6_addIfPossible 15 = .ok (.aload_n 0, 1) := by decide +kernel
theorem dX6_addIfPossible_16 : decode cX6_addIfPossible 16 = .ok (.getfield 10, 3) := by decide +kernel
theorem dX6_addIfPossible_19 : decode cX6_addIfPossible 19 = .ok (.getfield 119, 3) := by decide +kernel
theorem dX6_addIfPossible_22 : decode cX6_addIfPossible 22 = .ok (.aload_n 1, 1) := by decide +kernel
theorem dX6_addIfPossible_23 : decode cX6_addIfPossible 23 = .ok (.invokevirtual 123, 3) := by decide +kernel
theorem dX6_addIfPossible_26 : decode cX6_addIfPossible 26 = .ok (.pop, 1) := by decide +kernel
theorem dX6_addIfPossible_27 : decode cX6_addIfPossible 27 = .ok (.aload_n 0, 1) := by decide +kernel
theorem dX6_addIfPossible_28 : decode cX6_addIfPossible 28 = .ok (.getfield 10, 3) := by decide +kernel
theorem dX6_addIfPossible_31 : decode cX6_addIfPossible 31 = .ok (.getfield 119, 3) := by decide +kernel
theorem dX6_addIfPossible_34 : decode cX6_addIfPossible 34 = .ok (.invokevirtual 129, 3) := by decide +kernel
theorem dX6_addIfPossible_37 : decode cX6_addIfPossible 37 = .ok (.iconst 1, 1) := by decide +kernel
theorem dX6_addIfPossible_38 : decode cX6_addIfPossible 38 = .ok (.isub, 1) := by decide +kernel
theorem dX6_addIfPossible_39 : decode cX6_addIfPossible 39 = .ok (.ireturn, 1) := by decide +kernel
theorem dX6_drop_0 : decode cX6_drop 0 = .ok (.aload_n 0, 1) := by decide +kernel
theorem dX6_drop_1 : decode cX6_drop 1 = .ok (.getfield 10, 3) := by decide +kernel
theorem dX6_drop_4 : decode cX6_drop 4 = .ok (.iload_n 1, 1) := by decide +kernel
theorem dX6_drop_5 : decode cX6_drop 5 = .ok (.invokevirtual 132, 3) := by decide +kernel
theorem dX6_drop_8 : decode cX6_drop 8 = .ok (.ifCond .ne 5, 3) := by decide +kernel
theorem dX6_drop_11 : decode cX6_drop 11 = .ok (.iconst (-1), 1) := by decide +kernel
theorem dX6_drop_12 : decode cX6_drop 12 = .ok (.ireturn, 1) := by decide +kernel
theorem dX6_drop_13 : decode cX6_drop 13 = .ok (.aload_n 0, 1) := by decide +kernel
theorem dX6_drop_14 : decode cX6_drop 14 = .ok (.getfield 22, 3) := by decide +kernel
theorem dX6_drop_17 : decode cX6_drop 17 = .ok (.aload_n 0, 1) := by decide +kernel
theorem dX6_drop_18 : decode cX6_drop 18 = .ok (.getfield 10, 3) := by decide +kernel
theorem dX6_drop_21 : decode cX6_drop 21 = .ok (.invokevirtual 62, 3) := by decide +kernel
theorem dX6_drop_24 : decode cX6_drop 24 = .ok (.aload_n 0, 1) := by decide +kernel
theorem dX6_drop_25 : decode cX6_drop 25 = .ok (.iload_n 1, 1) := by decide +kernel
theorem dX6_drop_26 : decode cX6_drop 26 = .ok (.invokevirtual 93, 3) := by decide +kernel
theorem dX6_drop_29 : decode cX6_drop 29 = .ok (.pop, 1) := by decide +kernel
theorem dX6_drop_30 : decode cX6_drop 30 = .ok (.aload_n 0, 1) := by decide +kernel
theorem dX6_drop_31 : decode cX6_drop 31 = .ok (.getfield 10, 3) := by decide +kernel
theorem dX6_drop_34 : decode cX6_drop 34 = .ok (.getfield 119, 3) := by decide +kernel
theorem dX6_drop_37 : decode cX6_drop 37 = .ok (.invokevirtual 129, 3) := by decide +kernel
theorem dX6_drop_40 : decode cX6_drop 40 = .ok (.ireturn, 1) := by decide +kernel
theorem dX6_dropIfThere_0 : decode cX6_dropIfThere 0 = .ok (.aload_n 0, 1) := by decide +kernel
theorem dX6_dropIfThere_1 : decode cX6_dropIfThere 1 = .ok (.getfield 10, 3) := by decide +kernel
theorem dX6_dropIfThere_4 : decode cX6_dropIfThere 4 = .ok (.iload_n 1, 1) := by decide +kernel
theorem dX6_dropIfThere_5 : decode cX6_dropIfThere 5 = .ok (.invokevirtual 132, 3) := by decide +kernel
theorem dX6_dropIfThere_8 : decode cX6_dropIfThere 8 = .ok (.ifCond .ne 5, 3) := by decide +kernel
theorem dX6_dropIfThere_11 : decode cX6_dropIfThere 11 = .ok (.iconst 0, 1) := by decide +kernel
theorem dX6_dropIfThere_12 : decode cX6_dropIfThere 12 = .ok (.ireturn, 1) := by decide +kernel
theorem dX6_dropIfThere_13 : decode cX6_dropIfThere 13 = .ok (.aload_n 0, 1) := by decide +kernel
theorem dX6_dropIfThere_14 : decode cX6_dropIfThere 14 = .ok (.getfield 10, 3) := by decide +kernel
theorem dX6_dropIfThere_17 : decode cX6_dropIfThere 17 = .ok (.getfield 119, 3) := by decide +kernel
theorem dX6_dropIfThere_20 : decode cX6_dropIfThere 20 = .ok (.iload_n 1, 1) := by decide +kernel
theorem dX6_dropIfThere_21 : decode cX6_dropIfThere 21 = .ok (.invokevirtual 135, 3) := by decide +kernel
theorem dX6_dropIfThere_24 : decode cX6_dropIfThere 24 = .ok (.pop, 1) := by decide +kernel
theorem dX6_dropIfThere_25 : decode cX6_dropIfThere 25 = .ok (.iconst 1, 1) := by decide +kernel
theorem dX6_dropIfThere_26 : decode cX6_dropIfThere 26 = .ok (.ireturn, 1) := by decide +kernel
theorem dX6_titles_0 : decode cX6_titles 0 = .ok (.aload_n 0, 1) := by decide +kernel
theorem dX6_titles_1 : decode cX6_titles 1 = .ok (.getfield 10, 3) := by decide +kernel
theorem dX6_titles_4 : decode cX6_titles 4 = .ok (.getfield 119, 3) := by decide +kernel
theorem dX6_titles_7 : decode cX6_titles 7 = .ok (.invokevirtual 129, 3) := by decide +kernel
theorem dX6_titles_10 : decode cX6_titles 10 = .ok (.ireturn, 1) := by decide +kernel
theorem dX6_character_0 : decode cX6_character 0 = .ok (.aload_n 0, 1) := by decide +kernel
theorem dX6_character_1 : decode cX6_character 1 = .ok (.getfield 10, 3) := by decide +kernel
theorem dX6_character_4 : decode cX6_character 4 = .ok (.iload_n 1, 1) := by decide +kernel
theorem dX6_character_5 : decode cX6_character 5 = .ok (.invokevirtual 132, 3) := by decide +kernel
theorem dX6_character_8 : decode cX6_character 8 = .ok (.ifCond .ne 5, 3) := by decide +kernel
theorem dX6_character_11 : decode cX6_character 11 = .ok (.iconst (-1), 1) := by decide +kernel
theorem dX6_character_12 : decode cX6_character 12 = .ok (.ireturn, 1) := by decide +kernel
theorem dX6_character_13 : decode cX6_character 13 = .ok (.aload_n 0, 1) := by decide +kernel
theorem dX6_character_14 : decode cX6_character 14 = .ok (.getfield 10, 3) := by decide +kernel
theorem dX6_character_17 : decode cX6_character 17 = .ok (.getfield 119, 3) := by decide +kernel
theorem dX6_character_20 : decode cX6_character 20 = .ok (.iload_n 1, 1) := by decide +kernel
theorem dX6_character_21 : decode cX6_character 21 = .ok (.invokevirtual 139, 3) := by decide +kernel
theorem dX6_character_24 : decode cX6_character 24 = .ok (.checkcast 142, 3) := by decide +kernel
theorem dX6_character_27 : decode cX6_character 27 = .ok (.getfield 144, 3) := by decide +kernel
theorem dX6_character_30 : decode cX6_character 30 = .ok (.astore_n 3, 1) := by decide +kernel
theorem dX6_character_31 : decode cX6_character 31 = .ok (.iload_n 2, 1) := by decide +kernel
theorem dX6_character_32 : decode cX6_character 32 = .ok (.ifCond .lt 9, 3) := by decide +kernel
theorem dX6_character_35 : decode cX6_character 35 = .ok (.iload_n 2, 1) := by decide +kernel
theorem dX6_character_36 : decode cX6_character 36 = .ok (.aload_n 3, 1) := by decide +kernel
theorem dX6_character_37 : decode cX6_character 37 = .ok (.arraylength, 1) := by decide +kernel
theorem dX6_character_38 : decode cX6_character 38 = .ok (.if_icmp .lt 5, 3) := by decide +kernel
theorem dX6_character_41 : decode cX6_character 41 = .ok (.iconst (-1), 1) := by decide +kernel
theorem dX6_character_42 : decode cX6_character 42 = .ok (.ireturn, 1) := by decide +kernel
theorem dX6_character_43 : decode cX6_character 43 = .ok (.aload_n 3, 1) := by decide +kernel
theorem dX6_character_44 : decode cX6_character 44 = .ok (.iload_n 2, 1) := by decide +kernel
theorem dX6_character_45 : decode cX6_character 45 = .ok (.caload, 1) := by decide +kernel
theorem dX6_character_46 : decode cX6_character 46 = .ok (.ireturn, 1) := by decide +kernel
theorem dX6_of_0 : decode cX6_of 0 = .ok (.aload_n 0, 1) := by decide +kernel
theorem dX6_of_1 : decode cX6_of 1 = .ok (.getfield 10, 3) := by decide +kernel
theorem dX6_of_4 : decode cX6_of 4 = .ok (.iload_n 1, 1) := by decide +kernel
theorem dX6_of_5 : decode cX6_of 5 = .ok (.invokevirtual 132, 3) := by decide +kernel
theorem dX6_of_8 : decode cX6_of 8 = .ok (.ifCond .ne 5, 3) := by decide +kernel
theorem dX6_of_11 : decode cX6_of 11 = .ok (.iconst (-1), 1) := by decide +kernel
theorem dX6_of_12 : decode cX6_of 12 = .ok (.ireturn, 1) := by decide +kernel
theorem dX6_of_13 : decode cX6_of 13 = .ok (.iload_n 2, 1) := by decide +kernel
theorem dX6_of_14 : decode cX6_of 14 = .ok (.ifCond .lt 9, 3) := by decide +kernel
theorem dX6_of_17 : decode cX6_of 17 = .ok (.iload_n 2, 1) := by decide +kernel
theorem dX6_of_18 : decode cX6_of 18 = .ok (.bipush 6, 2) := by decide +kernel
theorem dX6_of_20 : decode cX6_of 20 = .ok (.if_icmp .le 6, 3) := by decide +kernel
theorem dX6_of_23 : decode cX6_of 23 = .ok (.bipush (-2), 2) := by decide +kernel
theorem dX6_of_25 : decode cX6_of 25 = .ok (.ireturn, 1) := by decide +kernel
theorem dX6_of_26 : decode cX6_of 26 = .ok (.aload_n 0, 1) := by decide +kernel
theorem dX6_of_27 : decode cX6_of 27 = .ok (.getfield 43, 3) := by decide +kernel
theorem dX6_of_30 : decode cX6_of 30 = .ok (.aload_n 0, 1) := by decide +kernel
theorem dX6_of_31 : decode cX6_of 31 = .ok (.getfield 10, 3) := by decide +kernel
theorem dX6_of_34 : decode cX6_of 34 = .ok (.iload_n 1, 1) := by decide +kernel
theorem dX6_of_35 : decode cX6_of 35 = .ok (.invokevirtual 148, 3) := by decide +kernel
theorem dX6_of_38 : decode cX6_of 38 = .ok (.aload_n 0, 1) := by decide +kernel
theorem dX6_of_39 : decode cX6_of 39 = .ok (.aload_n 0, 1) := by decide +kernel
theorem dX6_of_40 : decode cX6_of 40 = .ok (.getfield 10, 3) := by decide +kernel
theorem dX6_of_43 : decode cX6_of 43 = .ok (.getfield 119, 3) := by decide +kernel
theorem dX6_of_46 : decode cX6_of 46 = .ok (.iload_n 1, 1) := by decide +kernel
theorem dX6_of_47 : decode cX6_of 47 = .ok (.invokevirtual 139, 3) := by decide +kernel
theorem dX6_of_50 : decode cX6_of 50 = .ok (.checkcast 142, 3) := by decide +kernel
theorem dX6_of_53 : decode cX6_of 53 = .ok (.iload_n 2, 1) := by decide +kernel
theorem dX6_of_54 : decode cX6_of 54 = .ok (.invokevirtual 152, 3) := by decide +kernel
theorem dX6_of_57 : decode cX6_of 57 = .ok (.ireturn, 1) := by decide +kernel
theorem dX6_studiedNumber_0 : decode cX6_studiedNumber 0 = .ok (.iload_n 2, 1) := by decide +kernel
theorem dX6_studiedNumber_1 : decode cX6_studiedNumber 1 = .ok (.tableswitch 152 0 6 #[43, 49, 55, 60, 83, 106, 129], 43) := by decide +kernel
theorem dX6_studiedNumber_44 : decode cX6_studiedNumber 44 = .ok (.aload_n 1, 1) := by decide +kernel
theorem dX6_studiedNumber_45 : decode cX6_studiedNumber 45 = .ok (.getfield 144, 3) := by decide +kernel
theorem dX6_studiedNumber_48 : decode cX6_studiedNumber 48 = .ok (.arraylength, 1) := by decide +kernel
theorem dX6_studiedNumber_49 : decode cX6_studiedNumber 49 = .ok (.ireturn, 1) := by decide +kernel
theorem dX6_studiedNumber_50 : decode cX6_studiedNumber 50 = .ok (.aload_n 1, 1) := by decide +kernel
theorem dX6_studiedNumber_51 : decode cX6_studiedNumber 51 = .ok (.getfield 156, 3) := by decide +kernel
theorem dX6_studiedNumber_54 : decode cX6_studiedNumber 54 = .ok (.arraylength, 1) := by decide +kernel
theorem dX6_studiedNumber_55 : decode cX6_studiedNumber 55 = .ok (.ireturn, 1) := by decide +kernel
theorem dX6_studiedNumber_56 : decode cX6_studiedNumber 56 = .ok (.aload_n 1, 1) := by decide +kernel
theorem dX6_studiedNumber_57 : decode cX6_studiedNumber 57 = .ok (.getfield 159, 3) := by decide +kernel
theorem dX6_studiedNumber_60 : decode cX6_studiedNumber 60 = .ok (.ireturn, 1) := by decide +kernel
theorem dX6_studiedNumber_61 : decode cX6_studiedNumber 61 = .ok (.aload_n 0, 1) := by decide +kernel
theorem dX6_studiedNumber_62 : decode cX6_studiedNumber 62 = .ok (.getfield 43, 3) := by decide +kernel
theorem dX6_studiedNumber_65 : decode cX6_studiedNumber 65 = .ok (.invokevirtual 162, 3) := by decide +kernel
theorem dX6_studiedNumber_68 : decode cX6_studiedNumber 68 = .ok (.ifCond .eq 13, 3) := by decide +kernel
theorem dX6_studiedNumber_71 : decode cX6_studiedNumber 71 = .ok (.aload_n 0, 1) := by decide +kernel
theorem dX6_studiedNumber_72 : decode cX6_studiedNumber 72 = .ok (.getfield 43, 3) := by decide +kernel
theorem dX6_studiedNumber_75 : decode cX6_studiedNumber 75 = .ok (.getfield 165, 3) := by decide +kernel
theorem dX6_studiedNumber_78 : decode cX6_studiedNumber 78 = .ok (.goto 5, 3) := by decide +kernel
theorem dX6_studiedNumber_81 : decode cX6_studiedNumber 81 = .ok (.bipush (-6), 2) := by decide +kernel
theorem dX6_studiedNumber_83 : decode cX6_studiedNumber 83 = .ok (.ireturn, 1) := by decide +kernel
theorem dX6_studiedNumber_84 : decode cX6_studiedNumber 84 = .ok (.aload_n 0, 1) := by decide +kernel
theorem dX6_studiedNumber_85 : decode cX6_studiedNumber 85 = .ok (.getfield 43, 3) := by decide +kernel
theorem dX6_studiedNumber_88 : decode cX6_studiedNumber 88 = .ok (.invokevirtual 162, 3) := by decide +kernel
theorem dX6_studiedNumber_91 : decode cX6_studiedNumber 91 = .ok (.ifCond .eq 13, 3) := by decide +kernel
theorem dX6_studiedNumber_94 : decode cX6_studiedNumber 94 = .ok (.aload_n 0, 1) := by decide +kernel
theorem dX6_studiedNumber_95 : decode cX6_studiedNumber 95 = .ok (.getfield 43, 3) := by decide +kernel
theorem dX6_studiedNumber_98 : decode cX6_studiedNumber 98 = .ok (.getfield 168, 3) := by decide +kernel
theorem dX6_studiedNumber_101 : decode cX6_studiedNumber 101 = .ok (.goto 5, 3) := by decide +kernel
theorem dX6_studiedNumber_104 : decode cX6_studiedNumber 104 = .ok (.bipush (-6), 2) := by decide +kernel
theorem dX6_studiedNumber_106 : decode cX6_studiedNumber 106 = .ok (.ireturn, 1) := by decide +kernel
theorem dX6_studiedNumber_107 : decode cX6_studiedNumber 107 = .ok (.aload_n 0, 1) := by decide +kernel
theorem dX6_studiedNumber_108 : decode cX6_studiedNumber 108 = .ok (.getfield 43, 3) := by decide +kernel
theorem dX6_studiedNumber_111 : decode cX6_studiedNumber 111 = .ok (.invokevirtual 171, 3) := by decide +kernel
theorem dX6_studiedNumber_114 : decode cX6_studiedNumber 114 = .ok (.ifCond .eq 13, 3) := by decide +kernel
theorem dX6_studiedNumber_117 : decode cX6_studiedNumber 117 = .ok (.aload_n 0, 1) := by decide +kernel
theorem dX6_studiedNumber_118 : decode cX6_studiedNumber 118 = .ok (.getfield 43, 3) := by decide +kernel
theorem dX6_studiedNumber_121 : decode cX6_studiedNumber 121 = .ok (.getfield 174, 3) := by decide +kernel
theorem dX6_studiedNumber_124 : decode cX6_studiedNumber 124 = .ok (.goto 5, 3) := by decide +kernel
theorem dX6_studiedNumber_127 : decode cX6_studiedNumber 127 = .ok (.bipush (-6), 2) := by decide +kernel
theorem dX6_studiedNumber_129 : decode cX6_studiedNumber 129 = .ok (.ireturn, 1) := by decide +kernel
theorem dX6_studiedNumber_130 : decode cX6_studiedNumber 130 = .ok (.aload_n 0, 1) := by decide +kernel
theorem dX6_studiedNumber_131 : decode cX6_studiedNumber 131 = .ok (.getfield 43, 3) := by decide +kernel
theorem dX6_studiedNumber_134 : decode cX6_studiedNumber 134 = .ok (.invokevirtual 171, 3) := by decide +kernel
theorem dX6_studiedNumber_137 : decode cX6_studiedNumber 137 = .ok (.ifCond .eq 13, 3) := by decide +kernel
theorem dX6_studiedNumber_140 : decode cX6_studiedNumber 140 = .ok (.aload_n 0, 1) := by decide +kernel
theorem dX6_studiedNumber_141 : decode cX6_studiedNumber 141 = .ok (.getfield 43, 3) := by decide +kernel
theorem dX6_studiedNumber_144 : decode cX6_studiedNumber 144 = .ok (.getfield 177, 3) := by decide +kernel
theorem dX6_studiedNumber_147 : decode cX6_studiedNumber 147 = .ok (.goto 5, 3) := by decide +kernel
theorem dX6_studiedNumber_150 : decode cX6_studiedNumber 150 = .ok (.bipush (-6), 2) := by decide +kernel
theorem dX6_studiedNumber_152 : decode cX6_studiedNumber 152 = .ok (.ireturn, 1) := by decide +kernel
theorem dX6_studiedNumber_153 : decode cX6_studiedNumber 153 = .ok (.bipush (-2), 2) := by decide +kernel
theorem dX6_studiedNumber_155 : decode cX6_studiedNumber 155 = .ok (.ireturn, 1) := by decide +kernel
theorem dX6_common_0 : decode cX6_common 0 = .ok (.aload_n 0, 1) := by decide +kernel
theorem dX6_common_1 : decode cX6_common 1 = .ok (.getfield 10, 3) := by decide +kernel
theorem dX6_common_4 : decode cX6_common 4 = .ok (.iload_n 1, 1) := by decide +kernel
theorem dX6_common_5 : decode cX6_common 5 = .ok (.invokevirtual 132, 3) := by decide +kernel
theorem dX6_common_8 : decode cX6_common 8 = .ok (.ifCond .eq 14, 3) := by decide +kernel
theorem dX6_common_11 : decode cX6_common 11 = .ok (.aload_n 0, 1) := by decide +kernel
theorem dX6_common_12 : decode cX6_common 12 = .ok (.getfield 10, 3) := by decide +kernel
theorem dX6_common_15 : decode cX6_common 15 = .ok (.iload_n 2, 1) := by decide +kernel
theorem dX6_common_16 : decode cX6_common 16 = .ok (.invokevirtual 132, 3) := by decide +kernel
theorem dX6_common_19 : decode cX6_common 19 = .ok (.ifCond .ne 5, 3) := by decide +kernel
theorem dX6_common_22 : decode cX6_common 22 = .ok (.iconst (-1), 1) := by decide +kernel
theorem dX6_common_23 : decode cX6_common 23 = .ok (.ireturn, 1) := by decide +kernel
theorem dX6_common_24 : decode cX6_common 24 = .ok (.aload_n 0, 1) := by decide +kernel
theorem dX6_common_25 : decode cX6_common 25 = .ok (.getfield 10, 3) := by decide +kernel
theorem dX6_common_28 : decode cX6_common 28 = .ok (.getfield 119, 3) := by decide +kernel
theorem dX6_common_31 : decode cX6_common 31 = .ok (.iload_n 1, 1) := by decide +kernel
theorem dX6_common_32 : decode cX6_common 32 = .ok (.invokevirtual 139, 3) := by decide +kernel
theorem dX6_common_35 : decode cX6_common 35 = .ok (.checkcast 142, 3) := by decide +kernel
theorem dX6_common_38 : decode cX6_common 38 = .ok (.aload_n 0, 1) := by decide +kernel
theorem dX6_common_39 : decode cX6_common 39 = .ok (.getfield 10, 3) := by decide +kernel
theorem dX6_common_42 : decode cX6_common 42 = .ok (.getfield 119, 3) := by decide +kernel
theorem dX6_common_45 : decode cX6_common 45 = .ok (.iload_n 2, 1) := by decide +kernel
theorem dX6_common_46 : decode cX6_common 46 = .ok (.invokevirtual 139, 3) := by decide +kernel
theorem dX6_common_49 : decode cX6_common 49 = .ok (.checkcast 142, 3) := by decide +kernel
theorem dX6_common_52 : decode cX6_common 52 = .ok (.invokevirtual 180, 3) := by decide +kernel
theorem dX6_common_55 : decode cX6_common 55 = .ok (.ireturn, 1) := by decide +kernel
theorem dX6_closest_0 : decode cX6_closest 0 = .ok (.aload_n 0, 1) := by decide +kernel
theorem dX6_closest_1 : decode cX6_closest 1 = .ok (.getfield 10, 3) := by decide +kernel
theorem dX6_closest_4 : decode cX6_closest 4 = .ok (.iload_n 1, 1) := by decide +kernel
theorem dX6_closest_5 : decode cX6_closest 5 = .ok (.invokevirtual 132, 3) := by decide +kernel
theorem dX6_closest_8 : decode cX6_closest 8 = .ok (.ifCond .ne 5, 3) := by decide +kernel
theorem dX6_closest_11 : decode cX6_closest 11 = .ok (.iconst (-1), 1) := by decide +kernel
theorem dX6_closest_12 : decode cX6_closest 12 = .ok (.ireturn, 1) := by decide +kernel
theorem dX6_closest_13 : decode cX6_closest 13 = .ok (.aload_n 0, 1) := by decide +kernel
theorem dX6_closest_14 : decode cX6_closest 14 = .ok (.getfield 10, 3) := by decide +kernel
theorem dX6_closest_17 : decode cX6_closest 17 = .ok (.getfield 119, 3) := by decide +kernel
theorem dX6_closest_20 : decode cX6_closest 20 = .ok (.iload_n 1, 1) := by decide +kernel
theorem dX6_closest_21 : decode cX6_closest 21 = .ok (.invokevirtual 139, 3) := by decide +kernel
theorem dX6_closest_24 : decode cX6_closest 24 = .ok (.checkcast 142, 3) := by decide +kernel
theorem dX6_closest_27 : decode cX6_closest 27 = .ok (.astore_n 2, 1) := by decide +kernel
theorem dX6_closest_28 : decode cX6_closest 28 = .ok (.bipush (-6), 2) := by decide +kernel
theorem dX6_closest_30 : decode cX6_closest 30 = .ok (.istore_n 3, 1) := by decide +kernel
theorem dX6_closest_31 : decode cX6_closest 31 = .ok (.iconst (-1), 1) := by decide +kernel
theorem dX6_closest_32 : decode cX6_closest 32 = .ok (.istore 4, 2) := by decide +kernel
theorem dX6_closest_34 : decode cX6_closest 34 = .ok (.iconst 0, 1) := by decide +kernel
theorem dX6_closest_35 : decode cX6_closest 35 = .ok (.istore 5, 2) := by decide +kernel
theorem dX6_closest_37 : decode cX6_closest 37 = .ok (.iload 5, 2) := by decide +kernel
theorem dX6_closest_39 : decode cX6_closest 39 = .ok (.aload_n 0, 1) := by decide +kernel
theorem dX6_closest_40 : decode cX6_closest 40 = .ok (.getfield 10, 3) := by decide +kernel
theorem dX6_closest_43 : decode cX6_closest 43 = .ok (.getfield 119, 3) := by decide +kernel
theorem dX6_closest_46 : decode cX6_closest 46 = .ok (.invokevirtual 129, 3) := by decide +kernel
theorem dX6_closest_49 : decode cX6_closest 49 = .ok (.if_icmp .ge 54, 3) := by decide +kernel
theorem dX6_closest_52 : decode cX6_closest 52 = .ok (.iload 5, 2) := by decide +kernel
theorem dX6_closest_54 : decode cX6_closest 54 = .ok (.iload_n 1, 1) := by decide +kernel
theorem dX6_closest_55 : decode cX6_closest 55 = .ok (.if_icmp .ne 7, 3) := by decide +kernel
theorem dX6_closest_58 : decode cX6_closest 58 = .ok (.iconst (-1), 1) := by decide +kernel
theorem dX6_closest_59 : decode cX6_closest 59 = .ok (.goto 22, 3) := by decide +kernel
theorem dX6_closest_62 : decode cX6_closest 62 = .ok (.aload_n 2, 1) := by decide +kernel
theorem dX6_closest_63 : decode cX6_closest 63 = .ok (.aload_n 0, 1) := by decide +kernel
theorem dX6_closest_64 : decode cX6_closest 64 = .ok (.getfield 10, 3) := by decide +kernel
theorem dX6_closest_67 : decode cX6_closest 67 = .ok (.getfield 119, 3) := by decide +kernel
theorem dX6_closest_70 : decode cX6_closest 70 = .ok (.iload 5, 2) := by decide +kernel
theorem dX6_closest_72 : decode cX6_closest 72 = .ok (.invokevirtual 139, 3) := by decide +kernel
theorem dX6_closest_75 : decode cX6_closest 75 = .ok (.checkcast 142, 3) := by decide +kernel
theorem dX6_closest_78 : decode cX6_closest 78 = .ok (.invokevirtual 180, 3) := by decide +kernel
theorem dX6_closest_81 : decode cX6_closest 81 = .ok (.istore 6, 2) := by decide +kernel
theorem dX6_closest_83 : decode cX6_closest 83 = .ok (.iload 6, 2) := by decide +kernel
theorem dX6_closest_85 : decode cX6_closest 85 = .ok (.iload 4, 2) := by decide +kernel
theorem dX6_closest_87 : decode cX6_closest 87 = .ok (.if_icmp .le 10, 3) := by decide +kernel
theorem dX6_closest_90 : decode cX6_closest 90 = .ok (.iload 6, 2) := by decide +kernel
theorem dX6_closest_92 : decode cX6_closest 92 = .ok (.istore 4, 2) := by decide +kernel
theorem dX6_closest_94 : decode cX6_closest 94 = .ok (.iload 5, 2) := by decide +kernel
theorem dX6_closest_96 : decode cX6_closest 96 = .ok (.istore_n 3, 1) := by decide +kernel
theorem dX6_closest_97 : decode cX6_closest 97 = .ok (.iinc 5 1, 3) := by decide +kernel
theorem dX6_closest_100 : decode cX6_closest 100 = .ok (.goto (-63), 3) := by decide +kernel
theorem dX6_closest_103 : decode cX6_closest 103 = .ok (.iload_n 3, 1) := by decide +kernel
theorem dX6_closest_104 : decode cX6_closest 104 = .ok (.ireturn, 1) := by decide +kernel
theorem dX6_unknown_0 : decode cX6_unknown 0 = .ok (.iconst 0, 1) := by decide +kernel
theorem dX6_unknown_1 : decode cX6_unknown 1 = .ok (.istore_n 1, 1) := by decide +kernel
theorem dX6_unknown_2 : decode cX6_unknown 2 = .ok (.iconst 0, 1) := by decide +kernel
theorem dX6_unknown_3 : decode cX6_unknown 3 = .ok (.istore_n 2, 1) := by decide +kernel
theorem dX6_unknown_4 : decode cX6_unknown 4 = .ok (.iload_n 2, 1) := by decide +kernel
theorem dX6_unknown_5 : decode cX6_unknown 5 = .ok (.aload_n 0, 1) := by decide +kernel
theorem dX6_unknown_6 : decode cX6_unknown 6 = .ok (.getfield 10, 3) := by decide +kernel
theorem dX6_unknown_9 : decode cX6_unknown 9 = .ok (.getfield 119, 3) := by decide +kernel
theorem dX6_unknown_12 : decode cX6_unknown 12 = .ok (.invokevirtual 129, 3) := by decide +kernel
theorem dX6_unknown_15 : decode cX6_unknown 15 = .ok (.if_icmp .ge 34, 3) := by decide +kernel
theorem dX6_unknown_18 : decode cX6_unknown 18 = .ok (.aload_n 0, 1) := by decide +kernel
theorem dX6_unknown_19 : decode cX6_unknown 19 = .ok (.getfield 43, 3) := by decide +kernel
theorem dX6_unknown_22 : decode cX6_unknown 22 = .ok (.aload_n 0, 1) := by decide +kernel
theorem dX6_unknown_23 : decode cX6_unknown 23 = .ok (.getfield 10, 3) := by decide +kernel
theorem dX6_unknown_26 : decode cX6_unknown 26 = .ok (.iload_n 2, 1) := by decide +kernel
theorem dX6_unknown_27 : decode cX6_unknown 27 = .ok (.invokevirtual 148, 3) := by decide +kernel
theorem dX6_unknown_30 : decode cX6_unknown 30 = .ok (.aload_n 0, 1) := by decide +kernel
theorem dX6_unknown_31 : decode cX6_unknown 31 = .ok (.getfield 43, 3) := by decide +kernel
theorem dX6_unknown_34 : decode cX6_unknown 34 = .ok (.invokevirtual 162, 3) := by decide +kernel
theorem dX6_unknown_37 : decode cX6_unknown 37 = .ok (.ifCond .ne 6, 3) := by decide +kernel
theorem dX6_unknown_40 : decode cX6_unknown 40 = .ok (.iinc 1 1, 3) := by decide +kernel
theorem dX6_unknown_43 : decode cX6_unknown 43 = .ok (.iinc 2 1, 3) := by decide +kernel
theorem dX6_unknown_46 : decode cX6_unknown 46 = .ok (.goto (-42), 3) := by decide +kernel
theorem dX6_unknown_49 : decode cX6_unknown 49 = .ok (.iload_n 1, 1) := by decide +kernel
theorem dX6_unknown_50 : decode cX6_unknown 50 = .ok (.ireturn, 1) := by decide +kernel
theorem dX6_hardest_0 : decode cX6_hardest 0 = .ok (.bipush (-6), 2) := by decide +kernel
theorem dX6_hardest_2 : decode cX6_hardest 2 = .ok (.istore_n 1, 1) := by decide +kernel
theorem dX6_hardest_3 : decode cX6_hardest 3 = .ok (.iconst 0, 1) := by decide +kernel
theorem dX6_hardest_4 : decode cX6_hardest 4 = .ok (.istore_n 2, 1) := by decide +kernel
theorem dX6_hardest_5 : decode cX6_hardest 5 = .ok (.iconst 0, 1) := by decide +kernel
theorem dX6_hardest_6 : decode cX6_hardest 6 = .ok (.istore_n 3, 1) := by decide +kernel
theorem dX6_hardest_7 : decode cX6_hardest 7 = .ok (.iload_n 3, 1) := by decide +kernel
theorem dX6_hardest_8 : decode cX6_hardest 8 = .ok (.aload_n 0, 1) := by decide +kernel
theorem dX6_hardest_9 : decode cX6_hardest 9 = .ok (.getfield 10, 3) := by decide +kernel
theorem dX6_hardest_12 : decode cX6_hardest 12 = .ok (.getfield 119, 3) := by decide +kernel
theorem dX6_hardest_15 : decode cX6_hardest 15 = .ok (.invokevirtual 129, 3) := by decide +kernel
theorem dX6_hardest_18 : decode cX6_hardest 18 = .ok (.if_icmp .ge 52, 3) := by decide +kernel
theorem dX6_hardest_21 : decode cX6_hardest 21 = .ok (.aload_n 0, 1) := by decide +kernel
theorem dX6_hardest_22 : decode cX6_hardest 22 = .ok (.getfield 43, 3) := by decide +kernel
theorem dX6_hardest_25 : decode cX6_hardest 25 = .ok (.aload_n 0, 1) := by decide +kernel
theorem dX6_hardest_26 : decode cX6_hardest 26 = .ok (.getfield 10, 3) := by decide +kernel
theorem dX6_hardest_29 : decode cX6_hardest 29 = .ok (.iload_n 3, 1) := by decide +kernel
theorem dX6_hardest_30 : decode cX6_hardest 30 = .ok (.invokevirtual 148, 3) := by decide +kernel
theorem dX6_hardest_33 : decode cX6_hardest 33 = .ok (.aload_n 0, 1) := by decide +kernel
theorem dX6_hardest_34 : decode cX6_hardest 34 = .ok (.getfield 43, 3) := by decide +kernel
theorem dX6_hardest_37 : decode cX6_hardest 37 = .ok (.invokevirtual 162, 3) := by decide +kernel
theorem dX6_hardest_40 : decode cX6_hardest 40 = .ok (.ifCond .eq 24, 3) := by decide +kernel
theorem dX6_hardest_43 : decode cX6_hardest 43 = .ok (.aload_n 0, 1) := by decide +kernel
theorem dX6_hardest_44 : decode cX6_hardest 44 = .ok (.getfield 43, 3) := by decide +kernel
theorem dX6_hardest_47 : decode cX6_hardest 47 = .ok (.getfield 168, 3) := by decide +kernel
theorem dX6_hardest_50 : decode cX6_hardest 50 = .ok (.iload_n 2, 1) := by decide +kernel
theorem dX6_hardest_51 : decode cX6_hardest 51 = .ok (.if_icmp .le 13, 3) := by decide +kernel
theorem dX6_hardest_54 : decode cX6_hardest 54 = .ok (.aload_n 0, 1) := by decide +kernel
theorem dX6_hardest_55 : decode cX6_hardest 55 = .ok (.getfield 43, 3) := by decide +kernel
theorem dX6_hardest_58 : decode cX6_hardest 58 = .ok (.getfield 168, 3) := by decide +kernel
theorem dX6_hardest_61 : decode cX6_hardest 61 = .ok (.istore_n 2, 1) := by decide +kernel
theorem dX6_hardest_62 : decode cX6_hardest 62 = .ok (.iload_n 3, 1) := by decide +kernel
theorem dX6_hardest_63 : decode cX6_hardest 63 = .ok (.istore_n 1, 1) := by decide +kernel
theorem dX6_hardest_64 : decode cX6_hardest 64 = .ok (.iinc 3 1, 3) := by decide +kernel
theorem dX6_hardest_67 : decode cX6_hardest 67 = .ok (.goto (-60), 3) := by decide +kernel
theorem dX6_hardest_70 : decode cX6_hardest 70 = .ok (.iload_n 1, 1) := by decide +kernel
theorem dX6_hardest_71 : decode cX6_hardest 71 = .ok (.ireturn, 1) := by decide +kernel
theorem dX6_ifAdded_0 : decode cX6_ifAdded 0 = .ok (.aload_n 0, 1) := by decide +kernel
theorem dX6_ifAdded_1 : decode cX6_ifAdded 1 = .ok (.getfield 29, 3) := by decide +kernel
theorem dX6_ifAdded_4 : decode cX6_ifAdded 4 = .ok (.invokevirtual 113, 3) := by decide +kernel
theorem dX6_ifAdded_7 : decode cX6_ifAdded 7 = .ok (.ifCond .ne 6, 3) := by decide +kernel
theorem dX6_ifAdded_10 : decode cX6_ifAdded 10 = .ok (.bipush (-5), 2) := by decide +kernel
theorem dX6_ifAdded_12 : decode cX6_ifAdded 12 = .ok (.ireturn, 1) := by decide +kernel
theorem dX6_ifAdded_13 : decode cX6_ifAdded 13 = .ok (.aload_n 0, 1) := by decide +kernel
theorem dX6_ifAdded_14 : decode cX6_ifAdded 14 = .ok (.getfield 29, 3) := by decide +kernel
theorem dX6_ifAdded_17 : decode cX6_ifAdded 17 = .ok (.invokevirtual 82, 3) := by decide +kernel
theorem dX6_ifAdded_20 : decode cX6_ifAdded 20 = .ok (.astore_n 1, 1) := by decide +kernel
theorem dX6_ifAdded_21 : decode cX6_ifAdded 21 = .ok (.aload_n 0, 1) := by decide +kernel
theorem dX6_ifAdded_22 : decode cX6_ifAdded 22 = .ok (.getfield 10, 3) := by decide +kernel
theorem dX6_ifAdded_25 : decode cX6_ifAdded 25 = .ok (.aload_n 1, 1) := by decide +kernel
theorem dX6_ifAdded_26 : decode cX6_ifAdded 26 = .ok (.invokevirtual 116, 3) := by decide +kernel
theorem dX6_ifAdded_29 : decode cX6_ifAdded 29 = .ok (.istore_n 2, 1) := by decide +kernel
theorem dX6_ifAdded_30 : decode cX6_ifAdded 30 = .ok (.iload_n 2, 1) := by decide +kernel
theorem dX6_ifAdded_31 : decode cX6_ifAdded 31 = .ok (.ifCond .ge 5, 3) := by decide +kernel
theorem dX6_ifAdded_34 : decode cX6_ifAdded 34 = .ok (.iload_n 2, 1) := by decide +kernel
theorem dX6_ifAdded_35 : decode cX6_ifAdded 35 = .ok (.ireturn, 1) := by decide +kernel
theorem dX6_ifAdded_36 : decode cX6_ifAdded 36 = .ok (.aload_n 0, 1) := by decide +kernel
theorem dX6_ifAdded_37 : decode cX6_ifAdded 37 = .ok (.getfield 16, 3) := by decide +kernel
theorem dX6_ifAdded_40 : decode cX6_ifAdded 40 = .ok (.aload_n 0, 1) := by decide +kernel
theorem dX6_ifAdded_41 : decode cX6_ifAdded 41 = .ok (.getfield 10, 3) := by decide +kernel
theorem dX6_ifAdded_44 : decode cX6_ifAdded 44 = .ok (.invokevirtual 183, 3) := by decide +kernel
theorem dX6_ifAdded_47 : decode cX6_ifAdded 47 = .ok (.aload_n 0, 1) := by decide +kernel
theorem dX6_ifAdded_48 : decode cX6_ifAdded 48 = .ok (.getfield 16, 3) := by decide +kernel
theorem dX6_ifAdded_51 : decode cX6_ifAdded 51 = .ok (.getfield 119, 3) := by decide +kernel
theorem dX6_ifAdded_54 : decode cX6_ifAdded 54 = .ok (.aload_n 1, 1) := by decide +kernel
theorem dX6_ifAdded_55 : decode cX6_ifAdded 55 = .ok (.invokevirtual 123, 3) := by decide +kernel
theorem dX6_ifAdded_58 : decode cX6_ifAdded 58 = .ok (.pop, 1) := by decide +kernel
theorem dX6_ifAdded_59 : decode cX6_ifAdded 59 = .ok (.iconst 0, 1) := by decide +kernel
theorem dX6_ifAdded_60 : decode cX6_ifAdded 60 = .ok (.istore_n 3, 1) := by decide +kernel
theorem dX6_ifAdded_61 : decode cX6_ifAdded 61 = .ok (.iconst 0, 1) := by decide +kernel
theorem dX6_ifAdded_62 : decode cX6_ifAdded 62 = .ok (.istore 4, 2) := by decide +kernel
theorem dX6_ifAdded_64 : decode cX6_ifAdded 64 = .ok (.iload 4, 2) := by decide +kernel
theorem dX6_ifAdded_66 : decode cX6_ifAdded 66 = .ok (.aload_n 0, 1) := by decide +kernel
theorem dX6_ifAdded_67 : decode cX6_ifAdded 67 = .ok (.getfield 10, 3) := by decide +kernel
theorem dX6_ifAdded_70 : decode cX6_ifAdded 70 = .ok (.getfield 119, 3) := by decide +kernel
theorem dX6_ifAdded_73 : decode cX6_ifAdded 73 = .ok (.invokevirtual 129, 3) := by decide +kernel
theorem dX6_ifAdded_76 : decode cX6_ifAdded 76 = .ok (.if_icmp .ge 21, 3) := by decide +kernel
theorem dX6_ifAdded_79 : decode cX6_ifAdded 79 = .ok (.aload_n 0, 1) := by decide +kernel
theorem dX6_ifAdded_80 : decode cX6_ifAdded 80 = .ok (.iload 4, 2) := by decide +kernel
theorem dX6_ifAdded_82 : decode cX6_ifAdded 82 = .ok (.invokevirtual 186, 3) := by decide +kernel
theorem dX6_ifAdded_85 : decode cX6_ifAdded 85 = .ok (.ifCond .eq 6, 3) := by decide +kernel
theorem dX6_ifAdded_88 : decode cX6_ifAdded 88 = .ok (.iinc 3 1, 3) := by decide +kernel
theorem dX6_ifAdded_91 : decode cX6_ifAdded 91 = .ok (.iinc 4 1, 3) := by decide +kernel
theorem dX6_ifAdded_94 : decode cX6_ifAdded 94 = .ok (.goto (-30), 3) := by decide +kernel
theorem dX6_ifAdded_97 : decode cX6_ifAdded 97 = .ok (.iload_n 3, 1) := by decide +kernel
theorem dX6_ifAdded_98 : decode cX6_ifAdded 98 = .ok (.ireturn, 1) := by decide +kernel
theorem dX6_keyWouldChange_0 : decode cX6_keyWouldChange 0 = .ok (.aload_n 0, 1) := by decide +kernel
theorem dX6_keyWouldChange_1 : decode cX6_keyWouldChange 1 = .ok (.getfield 43, 3) := by decide +kernel
theorem dX6_keyWouldChange_4 : decode cX6_keyWouldChange 4 = .ok (.aload_n 0, 1) := by decide +kernel
theorem dX6_keyWouldChange_5 : decode cX6_keyWouldChange 5 = .ok (.getfield 10, 3) := by decide +kernel
theorem dX6_keyWouldChange_8 : decode cX6_keyWouldChange 8 = .ok (.iload_n 1, 1) := by decide +kernel
theorem dX6_keyWouldChange_9 : decode cX6_keyWouldChange 9 = .ok (.invokevirtual 148, 3) := by decide +kernel
theorem dX6_keyWouldChange_12 : decode cX6_keyWouldChange 12 = .ok (.aload_n 0, 1) := by decide +kernel
theorem dX6_keyWouldChange_13 : decode cX6_keyWouldChange 13 = .ok (.getfield 43, 3) := by decide +kernel
theorem dX6_keyWouldChange_16 : decode cX6_keyWouldChange 16 = .ok (.getfield 165, 3) := by decide +kernel
theorem dX6_keyWouldChange_19 : decode cX6_keyWouldChange 19 = .ok (.istore_n 2, 1) := by decide +kernel
theorem dX6_keyWouldChange_20 : decode cX6_keyWouldChange 20 = .ok (.aload_n 0, 1) := by decide +kernel
theorem dX6_keyWouldChange_21 : decode cX6_keyWouldChange 21 = .ok (.getfield 43, 3) := by decide +kernel
theorem dX6_keyWouldChange_24 : decode cX6_keyWouldChange 24 = .ok (.getfield 168, 3) := by decide +kernel
theorem dX6_keyWouldChange_27 : decode cX6_keyWouldChange 27 = .ok (.istore_n 3, 1) := by decide +kernel
theorem dX6_keyWouldChange_28 : decode cX6_keyWouldChange 28 = .ok (.aload_n 0, 1) := by decide +kernel
theorem dX6_keyWouldChange_29 : decode cX6_keyWouldChange 29 = .ok (.getfield 43, 3) := by decide +kernel
theorem dX6_keyWouldChange_32 : decode cX6_keyWouldChange 32 = .ok (.aload_n 0, 1) := by decide +kernel
theorem dX6_keyWouldChange_33 : decode cX6_keyWouldChange 33 = .ok (.getfield 16, 3) := by decide +kernel
theorem dX6_keyWouldChange_36 : decode cX6_keyWouldChange 36 = .ok (.iload_n 1, 1) := by decide +kernel
theorem dX6_keyWouldChange_37 : decode cX6_keyWouldChange 37 = .ok (.invokevirtual 148, 3) := by decide +kernel
theorem dX6_keyWouldChange_40 : decode cX6_keyWouldChange 40 = .ok (.aload_n 0, 1) := by decide +kernel
theorem dX6_keyWouldChange_41 : decode cX6_keyWouldChange 41 = .ok (.getfield 43, 3) := by decide +kernel
theorem dX6_keyWouldChange_44 : decode cX6_keyWouldChange 44 = .ok (.getfield 165, 3) := by decide +kernel
theorem dX6_keyWouldChange_47 : decode cX6_keyWouldChange 47 = .ok (.iload_n 2, 1) := by decide +kernel
theorem dX6_keyWouldChange_48 : decode cX6_keyWouldChange 48 = .ok (.if_icmp .ne 14, 3) := by decide +kernel
theorem dX6_keyWouldChange_51 : decode cX6_keyWouldChange 51 = .ok (.aload_n 0, 1) := by decide +kernel
theorem dX6_keyWouldChange_52 : decode cX6_keyWouldChange 52 = .ok (.getfield 43, 3) := by decide +kernel
theorem dX6_keyWouldChange_55 : decode cX6_keyWouldChange 55 = .ok (.getfield 168, 3) := by decide +kernel
theorem dX6_keyWouldChange_58 : decode cX6_keyWouldChange 58 = .ok (.iload_n 3, 1) := by decide +kernel
theorem dX6_keyWouldChange_59 : decode cX6_keyWouldChange 59 = .ok (.if_icmp .eq 7, 3) := by decide +kernel
theorem dX6_keyWouldChange_62 : decode cX6_keyWouldChange 62 = .ok (.iconst 1, 1) := by decide +kernel
theorem dX6_keyWouldChange_63 : decode cX6_keyWouldChange 63 = .ok (.goto 4, 3) := by decide +kernel
theorem dX6_keyWouldChange_66 : decode cX6_keyWouldChange 66 = .ok (.iconst 0, 1) := by decide +kernel
theorem dX6_keyWouldChange_67 : decode cX6_keyWouldChange 67 = .ok (.ireturn, 1) := by decide +kernel
theorem dX6_setMode_0 : decode cX6_setMode 0 = .ok (.iload_n 1, 1) := by decide +kernel
theorem dX6_setMode_1 : decode cX6_setMode 1 = .ok (.ifCond .lt 8, 3) := by decide +kernel
theorem dX6_setMode_4 : decode cX6_setMode 4 = .ok (.iload_n 1, 1) := by decide +kernel
theorem dX6_setMode_5 : decode cX6_setMode 5 = .ok (.iconst 3, 1) := by decide +kernel
theorem dX6_setMode_6 : decode cX6_setMode 6 = .ok (.if_icmp .le 6, 3) := by decide +kernel
theorem dX6_setMode_9 : decode cX6_setMode 9 = .ok (.bipush (-2), 2) := by decide +kernel
theorem dX6_setMode_11 : decode cX6_setMode 11 = .ok (.ireturn, 1) := by decide +kernel
theorem dX6_setMode_12 : decode cX6_setMode 12 = .ok (.aload_n 0, 1) := by decide +kernel
theorem dX6_setMode_13 : decode cX6_setMode 13 = .ok (.getfield 10, 3) := by decide +kernel
theorem dX6_setMode_16 : decode cX6_setMode 16 = .ok (.getfield 97, 3) := by decide +kernel
theorem dX6_setMode_19 : decode cX6_setMode 19 = .ok (.istore_n 2, 1) := by decide +kernel
theorem dX6_setMode_20 : decode cX6_setMode 20 = .ok (.aload_n 0, 1) := by decide +kernel
theorem dX6_setMode_21 : decode cX6_setMode 21 = .ok (.getfield 22, 3) := by decide +kernel
theorem dX6_setMode_24 : decode cX6_setMode 24 = .ok (.aload_n 0, 1) := by decide +kernel
theorem dX6_setMode_25 : decode cX6_setMode 25 = .ok (.getfield 10, 3) := by decide +kernel
theorem dX6_setMode_28 : decode cX6_setMode 28 = .ok (.invokevirtual 62, 3) := by decide +kernel
theorem dX6_setMode_31 : decode cX6_setMode 31 = .ok (.aload_n 0, 1) := by decide +kernel
theorem dX6_setMode_32 : decode cX6_setMode 32 = .ok (.getfield 10, 3) := by decide +kernel
theorem dX6_setMode_35 : decode cX6_setMode 35 = .ok (.iload_n 1, 1) := by decide +kernel
theorem dX6_setMode_36 : decode cX6_setMode 36 = .ok (.putfield 97, 3) := by decide +kernel
theorem dX6_setMode_39 : decode cX6_setMode 39 = .ok (.iload_n 2, 1) := by decide +kernel
theorem dX6_setMode_40 : decode cX6_setMode 40 = .ok (.ireturn, 1) := by decide +kernel
theorem dX6_setOrder_0 : decode cX6_setOrder 0 = .ok (.iload_n 1, 1) := by decide +kernel
theorem dX6_setOrder_1 : decode cX6_setOrder 1 = .ok (.ifCond .lt 8, 3) := by decide +kernel
theorem dX6_setOrder_4 : decode cX6_setOrder 4 = .ok (.iload_n 1, 1) := by decide +kernel
theorem dX6_setOrder_5 : decode cX6_setOrder 5 = .ok (.iconst 2, 1) := by decide +kernel
theorem dX6_setOrder_6 : decode cX6_setOrder 6 = .ok (.if_icmp .le 6, 3) := by decide +kernel
theorem dX6_setOrder_9 : decode cX6_setOrder 9 = .ok (.bipush (-2), 2) := by decide +kernel
theorem dX6_setOrder_11 : decode cX6_setOrder 11 = .ok (.ireturn, 1) := by decide +kernel
theorem dX6_setOrder_12 : decode cX6_setOrder 12 = .ok (.aload_n 0, 1) := by decide +kernel
theorem dX6_setOrder_13 : decode cX6_setOrder 13 = .ok (.getfield 10, 3) := by decide +kernel
theorem dX6_setOrder_16 : decode cX6_setOrder 16 = .ok (.getfield 100, 3) := by decide +kernel
theorem dX6_setOrder_19 : decode cX6_setOrder 19 = .ok (.istore_n 2, 1) := by decide +kernel
theorem dX6_setOrder_20 : decode cX6_setOrder 20 = .ok (.aload_n 0, 1) := by decide +kernel
theorem dX6_setOrder_21 : decode cX6_setOrder 21 = .ok (.getfield 22, 3) := by decide +kernel
theorem dX6_setOrder_24 : decode cX6_setOrder 24 = .ok (.aload_n 0, 1) := by decide +kernel
theorem dX6_setOrder_25 : decode cX6_setOrder 25 = .ok (.getfield 10, 3) := by decide +kernel
theorem dX6_setOrder_28 : decode cX6_setOrder 28 = .ok (.invokevirtual 62, 3) := by decide +kernel
theorem dX6_setOrder_31 : decode cX6_setOrder 31 = .ok (.aload_n 0, 1) := by decide +kernel
theorem dX6_setOrder_32 : decode cX6_setOrder 32 = .ok (.getfield 10, 3) := by decide +kernel
theorem dX6_setOrder_35 : decode cX6_setOrder 35 = .ok (.iload_n 1, 1) := by decide +kernel
theorem dX6_setOrder_36 : decode cX6_setOrder 36 = .ok (.putfield 100, 3) := by decide +kernel
theorem dX6_setOrder_39 : decode cX6_setOrder 39 = .ok (.iload_n 2, 1) := by decide +kernel
theorem dX6_setOrder_40 : decode cX6_setOrder 40 = .ok (.ireturn, 1) := by decide +kernel
theorem dX6_mode_0 : decode cX6_mode 0 = .ok (.aload_n 0, 1) := by decide +kernel
theorem dX6_mode_1 : decode cX6_mode 1 = .ok (.getfield 10, 3) := by decide +kernel
theorem dX6_mode_4 : decode cX6_mode 4 = .ok (.getfield 97, 3) := by decide +kernel
theorem dX6_mode_7 : decode cX6_mode 7 = .ok (.ireturn, 1) := by decide +kernel
theorem dX6_order_0 : decode cX6_order 0 = .ok (.aload_n 0, 1) := by decide +kernel
theorem dX6_order_1 : decode cX6_order 1 = .ok (.getfield 10, 3) := by decide +kernel
theorem dX6_order_4 : decode cX6_order 4 = .ok (.getfield 100, 3) := by decide +kernel
theorem dX6_order_7 : decode cX6_order 7 = .ok (.ireturn, 1) := by decide +kernel
theorem dX6_ask_0 : decode cX6_ask 0 = .ok (.iload_n 1, 1) := by decide +kernel
theorem dX6_ask_1 : decode cX6_ask 1 = .ok (.bipush 32, 2) := by decide +kernel
theorem dX6_ask_3 : decode cX6_ask 3 = .ok (.if_icmp .eq 13, 3) := by decide +kernel
theorem dX6_ask_6 : decode cX6_ask 6 = .ok (.iload_n 1, 1) := by decide +kernel
theorem dX6_ask_7 : decode cX6_ask 7 = .ok (.invokestatic 189, 3) := by decide +kernel
theorem dX6_ask_10 : decode cX6_ask 10 = .ok (.ifCond .ne 6, 3) := by decide +kernel
theorem dX6_ask_13 : decode cX6_ask 13 = .ok (.bipush (-2), 2) := by decide +kernel
theorem dX6_ask_15 : decode cX6_ask 15 = .ok (.ireturn, 1) := by decide +kernel
theorem dX6_ask_16 : decode cX6_ask 16 = .ok (.iload_n 1, 1) := by decide +kernel
theorem dX6_ask_17 : decode cX6_ask 17 = .ok (.bipush 32, 2) := by decide +kernel
theorem dX6_ask_19 : decode cX6_ask 19 = .ok (.if_icmp .ne 16, 3) := by decide +kernel
theorem dX6_ask_22 : decode cX6_ask 22 = .ok (.aload_n 0, 1) := by decide +kernel
theorem dX6_ask_23 : decode cX6_ask 23 = .ok (.getfield 10, 3) := by decide +kernel
theorem dX6_ask_26 : decode cX6_ask 26 = .ok (.invokevirtual 192, 3) := by decide +kernel
theorem dX6_ask_29 : decode cX6_ask 29 = .ok (.ifCond .ne 6, 3) := by decide +kernel
theorem dX6_ask_32 : decode cX6_ask 32 = .ok (.bipush (-3), 2) := by decide +kernel
theorem dX6_ask_34 : decode cX6_ask 34 = .ok (.ireturn, 1) := by decide +kernel
theorem dX6_ask_35 : decode cX6_ask 35 = .ok (.aload_n 0, 1) := by decide +kernel
theorem dX6_ask_36 : decode cX6_ask 36 = .ok (.getfield 10, 3) := by decide +kernel
theorem dX6_ask_39 : decode cX6_ask 39 = .ok (.getfield 110, 3) := by decide +kernel
theorem dX6_ask_42 : decode cX6_ask 42 = .ok (.bipush 24, 2) := by decide +kernel
theorem dX6_ask_44 : decode cX6_ask 44 = .ok (.if_icmp .lt 6, 3) := by decide +kernel
theorem dX6_ask_47 : decode cX6_ask 47 = .ok (.bipush (-4), 2) := by decide +kernel
theorem dX6_ask_49 : decode cX6_ask 49 = .ok (.ireturn, 1) := by decide +kernel
theorem dX6_ask_50 : decode cX6_ask 50 = .ok (.aload_n 0, 1) := by decide +kernel
theorem dX6_ask_51 : decode cX6_ask 51 = .ok (.getfield 22, 3) := by decide +kernel
theorem dX6_ask_54 : decode cX6_ask 54 = .ok (.aload_n 0, 1) := by decide +kernel
theorem dX6_ask_55 : decode cX6_ask 55 = .ok (.getfield 10, 3) := by decide +kernel
theorem dX6_ask_58 : decode cX6_ask 58 = .ok (.invokevirtual 62, 3) := by decide +kernel
theorem dX6_ask_61 : decode cX6_ask 61 = .ok (.aload_n 0, 1) := by decide +kernel
theorem dX6_ask_62 : decode cX6_ask 62 = .ok (.getfield 10, 3) := by decide +kernel
theorem dX6_ask_65 : decode cX6_ask 65 = .ok (.iload_n 1, 1) := by decide +kernel
theorem dX6_ask_66 : decode cX6_ask 66 = .ok (.i2c, 1) := by decide +kernel
theorem dX6_ask_67 : decode cX6_ask 67 = .ok (.invokevirtual 195, 3) := by decide +kernel
theorem dX6_ask_70 : decode cX6_ask 70 = .ok (.aload_n 0, 1) := by decide +kernel
theorem dX6_ask_71 : decode cX6_ask 71 = .ok (.invokevirtual 199, 3) := by decide +kernel
theorem dX6_ask_74 : decode cX6_ask 74 = .ok (.ireturn, 1) := by decide +kernel
theorem dX6_erase_0 : decode cX6_erase 0 = .ok (.aload_n 0, 1) := by decide +kernel
theorem dX6_erase_1 : decode cX6_erase 1 = .ok (.getfield 10, 3) := by decide +kernel
theorem dX6_erase_4 : decode cX6_erase 4 = .ok (.getfield 110, 3) := by decide +kernel
theorem dX6_erase_7 : decode cX6_erase 7 = .ok (.ifCond .gt 6, 3) := by decide +kernel
theorem dX6_erase_10 : decode cX6_erase 10 = .ok (.bipush (-3), 2) := by decide +kernel
theorem dX6_erase_12 : decode cX6_erase 12 = .ok (.ireturn, 1) := by decide +kernel
theorem dX6_erase_13 : decode cX6_erase 13 = .ok (.aload_n 0, 1) := by decide +kernel
theorem dX6_erase_14 : decode cX6_erase 14 = .ok (.getfield 22, 3) := by decide +kernel
theorem dX6_erase_17 : decode cX6_erase 17 = .ok (.aload_n 0, 1) := by decide +kernel
theorem dX6_erase_18 : decode cX6_erase 18 = .ok (.getfield 10, 3) := by decide +kernel
theorem dX6_erase_21 : decode cX6_erase 21 = .ok (.invokevirtual 62, 3) := by decide +kernel
theorem dX6_erase_24 : decode cX6_erase 24 = .ok (.aload_n 0, 1) := by decide +kernel
theorem dX6_erase_25 : decode cX6_erase 25 = .ok (.getfield 10, 3) := by decide +kernel
theorem dX6_erase_28 : decode cX6_erase 28 = .ok (.dup, 1) := by decide +kernel
theorem dX6_erase_29 : decode cX6_erase 29 = .ok (.getfield 110, 3) := by decide +kernel
theorem dX6_erase_32 : decode cX6_erase 32 = .ok (.iconst 1, 1) := by decide +kernel
theorem dX6_erase_33 : decode cX6_erase 33 = .ok (.isub, 1) := by decide +kernel
theorem dX6_erase_34 : decode cX6_erase 34 = .ok (.putfield 110, 3) := by decide +kernel
theorem dX6_erase_37 : decode cX6_erase 37 = .ok (.aload_n 0, 1) := by decide +kernel
theorem dX6_erase_38 : decode cX6_erase 38 = .ok (.invokevirtual 199, 3) := by decide +kernel
theorem dX6_erase_41 : decode cX6_erase 41 = .ok (.ireturn, 1) := by decide +kernel
theorem dX6_queryLength_0 : decode cX6_queryLength 0 = .ok (.aload_n 0, 1) := by decide +kernel
theorem dX6_queryLength_1 : decode cX6_queryLength 1 = .ok (.getfield 10, 3) := by decide +kernel
theorem dX6_queryLength_4 : decode cX6_queryLength 4 = .ok (.getfield 110, 3) := by decide +kernel
theorem dX6_queryLength_7 : decode cX6_queryLength 7 = .ok (.ireturn, 1) := by decide +kernel
theorem dX6_queryCharacter_0 : decode cX6_queryCharacter 0 = .ok (.iload_n 1, 1) := by decide +kernel
theorem dX6_queryCharacter_1 : decode cX6_queryCharacter 1 = .ok (.ifCond .lt 26, 3) := by decide +kernel
theorem dX6_queryCharacter_4 : decode cX6_queryCharacter 4 = .ok (.iload_n 1, 1) := by decide +kernel
theorem dX6_queryCharacter_5 : decode cX6_queryCharacter 5 = .ok (.aload_n 0, 1) := by decide +kernel
theorem dX6_queryCharacter_6 : decode cX6_queryCharacter 6 = .ok (.getfield 10, 3) := by decide +kernel
theorem dX6_queryCharacter_9 : decode cX6_queryCharacter 9 = .ok (.getfield 110, 3) := by decide +kernel
theorem dX6_queryCharacter_12 : decode cX6_queryCharacter 12 = .ok (.if_icmp .ge 15, 3) := by decide +kernel
theorem dX6_queryCharacter_15 : decode cX6_queryCharacter 15 = .ok (.iload_n 1, 1) := by decide +kernel
theorem dX6_queryCharacter_16 : decode cX6_queryCharacter 16 = .ok (.aload_n 0, 1) := by decide +kernel
theorem dX6_queryCharacter_17 : decode cX6_queryCharacter 17 = .ok (.getfield 10, 3) := by decide +kernel
theorem dX6_queryCharacter_20 : decode cX6_queryCharacter 20 = .ok (.getfield 202, 3) := by decide +kernel
theorem dX6_queryCharacter_23 : decode cX6_queryCharacter 23 = .ok (.arraylength, 1) := by decide +kernel
theorem dX6_queryCharacter_24 : decode cX6_queryCharacter 24 = .ok (.if_icmp .lt 5, 3) := by decide +kernel
theorem dX6_queryCharacter_27 : decode cX6_queryCharacter 27 = .ok (.iconst (-1), 1) := by decide +kernel
theorem dX6_queryCharacter_28 : decode cX6_queryCharacter 28 = .ok (.ireturn, 1) := by decide +kernel
theorem dX6_queryCharacter_29 : decode cX6_queryCharacter 29 = .ok (.aload_n 0, 1) := by decide +kernel
theorem dX6_queryCharacter_30 : decode cX6_queryCharacter 30 = .ok (.getfield 10, 3) := by decide +kernel
theorem dX6_queryCharacter_33 : decode cX6_queryCharacter 33 = .ok (.getfield 202, 3) := by decide +kernel
theorem dX6_queryCharacter_36 : decode cX6_queryCharacter 36 = .ok (.iload_n 1, 1) := by decide +kernel
theorem dX6_queryCharacter_37 : decode cX6_queryCharacter 37 = .ok (.caload, 1) := by decide +kernel
theorem dX6_queryCharacter_38 : decode cX6_queryCharacter 38 = .ok (.ireturn, 1) := by decide +kernel
theorem dX6_results_0 : decode cX6_results 0 = .ok (.aload_n 0, 1) := by decide +kernel
theorem dX6_results_1 : decode cX6_results 1 = .ok (.getfield 36, 3) := by decide +kernel
theorem dX6_results_4 : decode cX6_results 4 = .ok (.aload_n 0, 1) := by decide +kernel
theorem dX6_results_5 : decode cX6_results 5 = .ok (.getfield 10, 3) := by decide +kernel
theorem dX6_results_8 : decode cX6_results 8 = .ok (.invokevirtual 205, 3) := by decide +kernel
theorem dX6_results_11 : decode cX6_results 11 = .ok (.aload_n 0, 1) := by decide +kernel
theorem dX6_results_12 : decode cX6_results 12 = .ok (.getfield 36, 3) := by decide +kernel
theorem dX6_results_15 : decode cX6_results 15 = .ok (.getfield 208, 3) := by decide +kernel
theorem dX6_results_18 : decode cX6_results 18 = .ok (.ireturn, 1) := by decide +kernel
theorem dX6_result_0 : decode cX6_result 0 = .ok (.aload_n 0, 1) := by decide +kernel
theorem dX6_result_1 : decode cX6_result 1 = .ok (.getfield 36, 3) := by decide +kernel
theorem dX6_result_4 : decode cX6_result 4 = .ok (.aload_n 0, 1) := by decide +kernel
theorem dX6_result_5 : decode cX6_result 5 = .ok (.getfield 10, 3) := by decide +kernel
theorem dX6_result_8 : decode cX6_result 8 = .ok (.invokevirtual 205, 3) := by decide +kernel
theorem dX6_result_11 : decode cX6_result 11 = .ok (.aload_n 0, 1) := by decide +kernel
theorem dX6_result_12 : decode cX6_result 12 = .ok (.getfield 36, 3) := by decide +kernel
theorem dX6_result_15 : decode cX6_result 15 = .ok (.iload_n 1, 1) := by decide +kernel
theorem dX6_result_16 : decode cX6_result 16 = .ok (.invokevirtual 211, 3) := by decide +kernel
theorem dX6_result_19 : decode cX6_result 19 = .ok (.ifCond .eq 14, 3) := by decide +kernel
theorem dX6_result_22 : decode cX6_result 22 = .ok (.aload_n 0, 1) := by decide +kernel
theorem dX6_result_23 : decode cX6_result 23 = .ok (.getfield 36, 3) := by decide +kernel
theorem dX6_result_26 : decode cX6_result 26 = .ok (.iload_n 1, 1) := by decide +kernel
theorem dX6_result_27 : decode cX6_result 27 = .ok (.invokevirtual 212, 3) := by decide +kernel
theorem dX6_result_30 : decode cX6_result 30 = .ok (.goto 4, 3) := by decide +kernel
theorem dX6_result_33 : decode cX6_result 33 = .ok (.iconst (-1), 1) := by decide +kernel
theorem dX6_result_34 : decode cX6_result 34 = .ok (.ireturn, 1) := by decide +kernel
theorem dX6_matchPlace_0 : decode cX6_matchPlace 0 = .ok (.aload_n 0, 1) := by decide +kernel
theorem dX6_matchPlace_1 : decode cX6_matchPlace 1 = .ok (.getfield 36, 3) := by decide +kernel
theorem dX6_matchPlace_4 : decode cX6_matchPlace 4 = .ok (.aload_n 0, 1) := by decide +kernel
theorem dX6_matchPlace_5 : decode cX6_matchPlace 5 = .ok (.getfield 10, 3) := by decide +kernel
theorem dX6_matchPlace_8 : decode cX6_matchPlace 8 = .ok (.invokevirtual 205, 3) := by decide +kernel
theorem dX6_matchPlace_11 : decode cX6_matchPlace 11 = .ok (.aload_n 0, 1) := by decide +kernel
theorem dX6_matchPlace_12 : decode cX6_matchPlace 12 = .ok (.getfield 36, 3) := by decide +kernel
theorem dX6_matchPlace_15 : decode cX6_matchPlace 15 = .ok (.iload_n 1, 1) := by decide +kernel
theorem dX6_matchPlace_16 : decode cX6_matchPlace 16 = .ok (.invokevirtual 211, 3) := by decide +kernel
theorem dX6_matchPlace_19 : decode cX6_matchPlace 19 = .ok (.ifCond .eq 14, 3) := by decide +kernel
theorem dX6_matchPlace_22 : decode cX6_matchPlace 22 = .ok (.aload_n 0, 1) := by decide +kernel
theorem dX6_matchPlace_23 : decode cX6_matchPlace 23 = .ok (.getfield 36, 3) := by decide +kernel
theorem dX6_matchPlace_26 : decode cX6_matchPlace 26 = .ok (.iload_n 1, 1) := by decide +kernel
theorem dX6_matchPlace_27 : decode cX6_matchPlace 27 = .ok (.invokevirtual 215, 3) := by decide +kernel
theorem dX6_matchPlace_30 : decode cX6_matchPlace 30 = .ok (.goto 4, 3) := by decide +kernel
theorem dX6_matchPlace_33 : decode cX6_matchPlace 33 = .ok (.iconst (-1), 1) := by decide +kernel
theorem dX6_matchPlace_34 : decode cX6_matchPlace 34 = .ok (.ireturn, 1) := by decide +kernel
theorem dX6_pick_0 : decode cX6_pick 0 = .ok (.aload_n 0, 1) := by decide +kernel
theorem dX6_pick_1 : decode cX6_pick 1 = .ok (.getfield 36, 3) := by decide +kernel
theorem dX6_pick_4 : decode cX6_pick 4 = .ok (.aload_n 0, 1) := by decide +kernel
theorem dX6_pick_5 : decode cX6_pick 5 = .ok (.getfield 10, 3) := by decide +kernel
theorem dX6_pick_8 : decode cX6_pick 8 = .ok (.invokevirtual 205, 3) := by decide +kernel
theorem dX6_pick_11 : decode cX6_pick 11 = .ok (.aload_n 0, 1) := by decide +kernel
theorem dX6_pick_12 : decode cX6_pick 12 = .ok (.getfield 36, 3) := by decide +kernel
theorem dX6_pick_15 : decode cX6_pick 15 = .ok (.iload_n 1, 1) := by decide +kernel
theorem dX6_pick_16 : decode cX6_pick 16 = .ok (.invokevirtual 211, 3) := by decide +kernel
theorem dX6_pick_19 : decode cX6_pick 19 = .ok (.ifCond .ne 5, 3) := by decide +kernel
theorem dX6_pick_22 : decode cX6_pick 22 = .ok (.iconst (-1), 1) := by decide +kernel
theorem dX6_pick_23 : decode cX6_pick 23 = .ok (.ireturn, 1) := by decide +kernel
theorem dX6_pick_24 : decode cX6_pick 24 = .ok (.aload_n 0, 1) := by decide +kernel
theorem dX6_pick_25 : decode cX6_pick 25 = .ok (.getfield 22, 3) := by decide +kernel
theorem dX6_pick_28 : decode cX6_pick 28 = .ok (.aload_n 0, 1) := by decide +kernel
theorem dX6_pick_29 : decode cX6_pick 29 = .ok (.getfield 10, 3) := by decide +kernel
theorem dX6_pick_32 : decode cX6_pick 32 = .ok (.invokevirtual 62, 3) := by decide +kernel
theorem dX6_pick_35 : decode cX6_pick 35 = .ok (.aload_n 0, 1) := by decide +kernel
theorem dX6_pick_36 : decode cX6_pick 36 = .ok (.iload_n 1, 1) := by decide +kernel
theorem dX6_pick_37 : decode cX6_pick 37 = .ok (.invokevirtual 106, 3) := by decide +kernel
theorem dX6_pick_40 : decode cX6_pick 40 = .ok (.ireturn, 1) := by decide +kernel
theorem dX6_pickIfThere_0 : decode cX6_pickIfThere 0 = .ok (.aload_n 0, 1) := by decide +kernel
theorem dX6_pickIfThere_1 : decode cX6_pickIfThere 1 = .ok (.getfield 36, 3) := by decide +kernel
theorem dX6_pickIfThere_4 : decode cX6_pickIfThere 4 = .ok (.aload_n 0, 1) := by decide +kernel
theorem dX6_pickIfThere_5 : decode cX6_pickIfThere 5 = .ok (.getfield 10, 3) := by decide +kernel
theorem dX6_pickIfThere_8 : decode cX6_pickIfThere 8 = .ok (.invokevirtual 205, 3) := by decide +kernel
theorem dX6_pickIfThere_11 : decode cX6_pickIfThere 11 = .ok (.aload_n 0, 1) := by decide +kernel
theorem dX6_pickIfThere_12 : decode cX6_pickIfThere 12 = .ok (.getfield 36, 3) := by decide +kernel
theorem dX6_pickIfThere_15 : decode cX6_pickIfThere 15 = .ok (.iload_n 1, 1) := by decide +kernel
theorem dX6_pickIfThere_16 : decode cX6_pickIfThere 16 = .ok (.invokevirtual 211, 3) := by decide +kernel
theorem dX6_pickIfThere_19 : decode cX6_pickIfThere 19 = .ok (.ifCond .ne 5, 3) := by decide +kernel
theorem dX6_pickIfThere_22 : decode cX6_pickIfThere 22 = .ok (.iconst (-1), 1) := by decide +kernel
theorem dX6_pickIfThere_23 : decode cX6_pickIfThere 23 = .ok (.ireturn, 1) := by decide +kernel
theorem dX6_pickIfThere_24 : decode cX6_pickIfThere 24 = .ok (.aload_n 0, 1) := by decide +kernel
theorem dX6_pickIfThere_25 : decode cX6_pickIfThere 25 = .ok (.getfield 36, 3) := by decide +kernel
theorem dX6_pickIfThere_28 : decode cX6_pickIfThere 28 = .ok (.iload_n 1, 1) := by decide +kernel
theorem dX6_pickIfThere_29 : decode cX6_pickIfThere 29 = .ok (.invokevirtual 212, 3) := by decide +kernel
theorem dX6_pickIfThere_32 : decode cX6_pickIfThere 32 = .ok (.istore_n 2, 1) := by decide +kernel
theorem dX6_pickIfThere_33 : decode cX6_pickIfThere 33 = .ok (.aload_n 0, 1) := by decide +kernel
theorem dX6_pickIfThere_34 : decode cX6_pickIfThere 34 = .ok (.getfield 10, 3) := by decide +kernel
theorem dX6_pickIfThere_37 : decode cX6_pickIfThere 37 = .ok (.iload_n 2, 1) := by decide +kernel
theorem dX6_pickIfThere_38 : decode cX6_pickIfThere 38 = .ok (.invokevirtual 132, 3) := by decide +kernel
theorem dX6_pickIfThere_41 : decode cX6_pickIfThere 41 = .ok (.ifCond .ne 5, 3) := by decide +kernel
theorem dX6_pickIfThere_44 : decode cX6_pickIfThere 44 = .ok (.iconst (-1), 1) := by decide +kernel
theorem dX6_pickIfThere_45 : decode cX6_pickIfThere 45 = .ok (.ireturn, 1) := by decide +kernel
theorem dX6_pickIfThere_46 : decode cX6_pickIfThere 46 = .ok (.aload_n 0, 1) := by decide +kernel
theorem dX6_pickIfThere_47 : decode cX6_pickIfThere 47 = .ok (.getfield 10, 3) := by decide +kernel
theorem dX6_pickIfThere_50 : decode cX6_pickIfThere 50 = .ok (.getfield 119, 3) := by decide +kernel
theorem dX6_pickIfThere_53 : decode cX6_pickIfThere 53 = .ok (.iload_n 2, 1) := by decide +kernel
theorem dX6_pickIfThere_54 : decode cX6_pickIfThere 54 = .ok (.aload_n 0, 1) := by decide +kernel
theorem dX6_pickIfThere_55 : decode cX6_pickIfThere 55 = .ok (.getfield 10, 3) := by decide +kernel
theorem dX6_pickIfThere_58 : decode cX6_pickIfThere 58 = .ok (.getfield 119, 3) := by decide +kernel
theorem dX6_pickIfThere_61 : decode cX6_pickIfThere 61 = .ok (.iload_n 2, 1) := by decide +kernel
theorem dX6_pickIfThere_62 : decode cX6_pickIfThere 62 = .ok (.invokevirtual 139, 3) := by decide +kernel
theorem dX6_pickIfThere_65 : decode cX6_pickIfThere 65 = .ok (.checkcast 142, 3) := by decide +kernel
theorem dX6_pickIfThere_68 : decode cX6_pickIfThere 68 = .ok (.invokevirtual 218, 3) := by decide +kernel
theorem dX6_pickIfThere_71 : decode cX6_pickIfThere 71 = .ok (.invokevirtual 221, 3) := by decide +kernel
theorem dX6_pickIfThere_74 : decode cX6_pickIfThere 74 = .ok (.pop, 1) := by decide +kernel
theorem dX6_pickIfThere_75 : decode cX6_pickIfThere 75 = .ok (.aload_n 0, 1) := by decide +kernel
theorem dX6_pickIfThere_76 : decode cX6_pickIfThere 76 = .ok (.getfield 10, 3) := by decide +kernel
theorem dX6_pickIfThere_79 : decode cX6_pickIfThere 79 = .ok (.iconst 0, 1) := by decide +kernel
theorem dX6_pickIfThere_80 : decode cX6_pickIfThere 80 = .ok (.putfield 110, 3) := by decide +kernel
theorem dX6_pickIfThere_83 : decode cX6_pickIfThere 83 = .ok (.iload_n 2, 1) := by decide +kernel
theorem dX6_pickIfThere_84 : decode cX6_pickIfThere 84 = .ok (.ireturn, 1) := by decide +kernel
theorem dX6_undo_0 : decode cX6_undo 0 = .ok (.aload_n 0, 1) := by decide +kernel
theorem dX6_undo_1 : decode cX6_undo 1 = .ok (.getfield 22, 3) := by decide +kernel
theorem dX6_undo_4 : decode cX6_undo 4 = .ok (.getfield 225, 3) := by decide +kernel
theorem dX6_undo_7 : decode cX6_undo 7 = .ok (.ifCond .gt 6, 3) := by decide +kernel
theorem dX6_undo_10 : decode cX6_undo 10 = .ok (.bipush (-3), 2) := by decide +kernel
theorem dX6_undo_12 : decode cX6_undo 12 = .ok (.ireturn, 1) := by decide +kernel
theorem dX6_undo_13 : decode cX6_undo 13 = .ok (.aload_n 0, 1) := by decide +kernel
theorem dX6_undo_14 : decode cX6_undo 14 = .ok (.getfield 22, 3) := by decide +kernel
theorem dX6_undo_17 : decode cX6_undo 17 = .ok (.aload_n 0, 1) := by decide +kernel
theorem dX6_undo_18 : decode cX6_undo 18 = .ok (.getfield 10, 3) := by decide +kernel
theorem dX6_undo_21 : decode cX6_undo 21 = .ok (.invokevirtual 226, 3) := by decide +kernel
theorem dX6_undo_24 : decode cX6_undo 24 = .ok (.aload_n 0, 1) := by decide +kernel
theorem dX6_undo_25 : decode cX6_undo 25 = .ok (.getfield 22, 3) := by decide +kernel
theorem dX6_undo_28 : decode cX6_undo 28 = .ok (.getfield 225, 3) := by decide +kernel
theorem dX6_undo_31 : decode cX6_undo 31 = .ok (.ireturn, 1) := by decide +kernel
theorem dX6_digest_0 : decode cX6_digest 0 = .ok (.ldc2_w 229, 3) := by decide +kernel
theorem dX6_digest_3 : decode cX6_digest 3 = .ok (.aload_n 0, 1) := by decide +kernel
theorem dX6_digest_4 : decode cX6_digest 4 = .ok (.invokevirtual 231, 3) := by decide +kernel
theorem dX6_digest_7 : decode cX6_digest 7 = .ok (.invokestatic 233, 3) := by decide +kernel
theorem dX6_digest_10 : decode cX6_digest 10 = .ok (.lstore_n 1, 1) := by decide +kernel
theorem dX6_digest_11 : decode cX6_digest 11 = .ok (.iconst 0, 1) := by decide +kernel
theorem dX6_digest_12 : decode cX6_digest 12 = .ok (.istore_n 3, 1) := by decide +kernel
theorem dX6_digest_13 : decode cX6_digest 13 = .ok (.iload_n 3, 1) := by decide +kernel
theorem dX6_digest_14 : decode cX6_digest 14 = .ok (.aload_n 0, 1) := by decide +kernel
theorem dX6_digest_15 : decode cX6_digest 15 = .ok (.getfield 10, 3) := by decide +kernel
theorem dX6_digest_18 : decode cX6_digest 18 = .ok (.getfield 119, 3) := by decide +kernel
theorem dX6_digest_21 : decode cX6_digest 21 = .ok (.invokevirtual 129, 3) := by decide +kernel
theorem dX6_digest_24 : decode cX6_digest 24 = .ok (.if_icmp .ge 30, 3) := by decide +kernel
theorem dX6_digest_27 : decode cX6_digest 27 = .ok (.aload_n 0, 1) := by decide +kernel
theorem dX6_digest_28 : decode cX6_digest 28 = .ok (.lload_n 1, 1) := by decide +kernel
theorem dX6_digest_29 : decode cX6_digest 29 = .ok (.iload_n 3, 1) := by decide +kernel
theorem dX6_digest_30 : decode cX6_digest 30 = .ok (.aload_n 0, 1) := by decide +kernel
theorem dX6_digest_31 : decode cX6_digest 31 = .ok (.getfield 10, 3) := by decide +kernel
theorem dX6_digest_34 : decode cX6_digest 34 = .ok (.getfield 119, 3) := by decide +kernel
theorem dX6_digest_37 : decode cX6_digest 37 = .ok (.iload_n 3, 1) := by decide +kernel
theorem dX6_digest_38 : decode cX6_digest 38 = .ok (.invokevirtual 139, 3) := by decide +kernel
theorem dX6_digest_41 : decode cX6_digest 41 = .ok (.checkcast 142, 3) := by decide +kernel
theorem dX6_digest_44 : decode cX6_digest 44 = .ok (.invokevirtual 237, 3) := by decide +kernel
theorem dX6_digest_47 : decode cX6_digest 47 = .ok (.lstore_n 1, 1) := by decide +kernel
theorem dX6_digest_48 : decode cX6_digest 48 = .ok (.iinc 3 1, 3) := by decide +kernel
theorem dX6_digest_51 : decode cX6_digest 51 = .ok (.goto (-38), 3) := by decide +kernel
theorem dX6_digest_54 : decode cX6_digest 54 = .ok (.lload_n 1, 1) := by decide +kernel
theorem dX6_digest_55 : decode cX6_digest 55 = .ok (.aload_n 0, 1) := by decide +kernel
theorem dX6_digest_56 : decode cX6_digest 56 = .ok (.invokevirtual 241, 3) := by decide +kernel
theorem dX6_digest_59 : decode cX6_digest 59 = .ok (.invokestatic 233, 3) := by decide +kernel
theorem dX6_digest_62 : decode cX6_digest 62 = .ok (.lstore_n 1, 1) := by decide +kernel
theorem dX6_digest_63 : decode cX6_digest 63 = .ok (.lload_n 1, 1) := by decide +kernel
theorem dX6_digest_64 : decode cX6_digest 64 = .ok (.aload_n 0, 1) := by decide +kernel
theorem dX6_digest_65 : decode cX6_digest 65 = .ok (.invokevirtual 244, 3) := by decide +kernel
theorem dX6_digest_68 : decode cX6_digest 68 = .ok (.invokestatic 233, 3) := by decide +kernel
theorem dX6_digest_71 : decode cX6_digest 71 = .ok (.lstore_n 1, 1) := by decide +kernel
theorem dX6_digest_72 : decode cX6_digest 72 = .ok (.lload_n 1, 1) := by decide +kernel
theorem dX6_digest_73 : decode cX6_digest 73 = .ok (.aload_n 0, 1) := by decide +kernel
theorem dX6_digest_74 : decode cX6_digest 74 = .ok (.invokevirtual 247, 3) := by decide +kernel
theorem dX6_digest_77 : decode cX6_digest 77 = .ok (.invokestatic 233, 3) := by decide +kernel
theorem dX6_digest_80 : decode cX6_digest 80 = .ok (.lstore_n 1, 1) := by decide +kernel
theorem dX6_digest_81 : decode cX6_digest 81 = .ok (.lload_n 1, 1) := by decide +kernel
theorem dX6_digest_82 : decode cX6_digest 82 = .ok (.aload_n 0, 1) := by decide +kernel
theorem dX6_digest_83 : decode cX6_digest 83 = .ok (.invokevirtual 249, 3) := by decide +kernel
theorem dX6_digest_86 : decode cX6_digest 86 = .ok (.invokestatic 233, 3) := by decide +kernel
theorem dX6_digest_89 : decode cX6_digest 89 = .ok (.lstore_n 1, 1) := by decide +kernel
theorem dX6_digest_90 : decode cX6_digest 90 = .ok (.lload_n 1, 1) := by decide +kernel
theorem dX6_digest_91 : decode cX6_digest 91 = .ok (.aload_n 0, 1) := by decide +kernel
theorem dX6_digest_92 : decode cX6_digest 92 = .ok (.invokevirtual 251, 3) := by decide +kernel
theorem dX6_digest_95 : decode cX6_digest 95 = .ok (.invokestatic 233, 3) := by decide +kernel
theorem dX6_digest_98 : decode cX6_digest 98 = .ok (.lstore_n 1, 1) := by decide +kernel
theorem dX6_digest_99 : decode cX6_digest 99 = .ok (.iconst 0, 1) := by decide +kernel
theorem dX6_digest_100 : decode cX6_digest 100 = .ok (.istore_n 3, 1) := by decide +kernel
theorem dX6_digest_101 : decode cX6_digest 101 = .ok (.iload_n 3, 1) := by decide +kernel
theorem dX6_digest_102 : decode cX6_digest 102 = .ok (.aload_n 0, 1) := by decide +kernel
theorem dX6_digest_103 : decode cX6_digest 103 = .ok (.getfield 10, 3) := by decide +kernel
theorem dX6_digest_106 : decode cX6_digest 106 = .ok (.getfield 110, 3) := by decide +kernel
theorem dX6_digest_109 : decode cX6_digest 109 = .ok (.if_icmp .ge 19, 3) := by decide +kernel
theorem dX6_digest_112 : decode cX6_digest 112 = .ok (.lload_n 1, 1) := by decide +kernel
theorem dX6_digest_113 : decode cX6_digest 113 = .ok (.aload_n 0, 1) := by decide +kernel
theorem dX6_digest_114 : decode cX6_digest 114 = .ok (.iload_n 3, 1) := by decide +kernel
theorem dX6_digest_115 : decode cX6_digest 115 = .ok (.invokevirtual 253, 3) := by decide +kernel
theorem dX6_digest_118 : decode cX6_digest 118 = .ok (.invokestatic 233, 3) := by decide +kernel
theorem dX6_digest_121 : decode cX6_digest 121 = .ok (.lstore_n 1, 1) := by decide +kernel
theorem dX6_digest_122 : decode cX6_digest 122 = .ok (.iinc 3 1, 3) := by decide +kernel
theorem dX6_digest_125 : decode cX6_digest 125 = .ok (.goto (-24), 3) := by decide +kernel
theorem dX6_digest_128 : decode cX6_digest 128 = .ok (.aload_n 0, 1) := by decide +kernel
theorem dX6_digest_129 : decode cX6_digest 129 = .ok (.lload_n 1, 1) := by decide +kernel
theorem dX6_digest_130 : decode cX6_digest 130 = .ok (.invokevirtual 256, 3) := by decide +kernel
theorem dX6_digest_133 : decode cX6_digest 133 = .ok (.lreturn, 1) := by decide +kernel
theorem dX6_hashWithTitle_0 : decode cX6_hashWithTitle 0 = .ok (.lload_n 1, 1) := by decide +kernel
theorem dX6_hashWithTitle_1 : decode cX6_hashWithTitle 1 = .ok (.lstore 5, 2) := by decide +kernel
theorem dX6_hashWithTitle_3 : decode cX6_hashWithTitle 3 = .ok (.aload_n 0, 1) := by decide +kernel
theorem dX6_hashWithTitle_4 : decode cX6_hashWithTitle 4 = .ok (.getfield 43, 3) := by decide +kernel
theorem dX6_hashWithTitle_7 : decode cX6_hashWithTitle 7 = .ok (.aload_n 0, 1) := by decide +kernel
theorem dX6_hashWithTitle_8 : decode cX6_hashWithTitle 8 = .ok (.getfield 10, 3) := by decide +kernel
theorem dX6_hashWithTitle_11 : decode cX6_hashWithTitle 11 = .ok (.iload_n 3, 1) := by decide +kernel
theorem dX6_hashWithTitle_12 : decode cX6_hashWithTitle 12 = .ok (.invokevirtual 148, 3) := by decide +kernel
theorem dX6_hashWithTitle_15 : decode cX6_hashWithTitle 15 = .ok (.iconst 0, 1) := by decide +kernel
theorem dX6_hashWithTitle_16 : decode cX6_hashWithTitle 16 = .ok (.istore 7, 2) := by decide +kernel
theorem dX6_hashWithTitle_18 : decode cX6_hashWithTitle 18 = .ok (.iload 7, 2) := by decide +kernel
theorem dX6_hashWithTitle_20 : decode cX6_hashWithTitle 20 = .ok (.bipush 6, 2) := by decide +kernel
theorem dX6_hashWithTitle_22 : decode cX6_hashWithTitle 22 = .ok (.if_icmp .gt 24, 3) := by decide +kernel
theorem dX6_hashWithTitle_25 : decode cX6_hashWithTitle 25 = .ok (.lload 5, 2) := by decide +kernel
theorem dX6_hashWithTitle_27 : decode cX6_hashWithTitle 27 = .ok (.aload_n 0, 1) := by decide +kernel
theorem dX6_hashWithTitle_28 : decode cX6_hashWithTitle 28 = .ok (.aload 4, 2) := by decide +kernel
theorem dX6_hashWithTitle_30 : decode cX6_hashWithTitle 30 = .ok (.iload 7, 2) := by decide +kernel
theorem dX6_hashWithTitle_32 : decode cX6_hashWithTitle 32 = .ok (.invokevirtual 152, 3) := by decide +kernel
theorem dX6_hashWithTitle_35 : decode cX6_hashWithTitle 35 = .ok (.invokestatic 233, 3) := by decide +kernel
theorem dX6_hashWithTitle_38 : decode cX6_hashWithTitle 38 = .ok (.lstore 5, 2) := by decide +kernel
theorem dX6_hashWithTitle_40 : decode cX6_hashWithTitle 40 = .ok (.iinc 7 1, 3) := by decide +kernel
theorem dX6_hashWithTitle_43 : decode cX6_hashWithTitle 43 = .ok (.goto (-25), 3) := by decide +kernel
theorem dX6_hashWithTitle_46 : decode cX6_hashWithTitle 46 = .ok (.iconst 0, 1) := by decide +kernel
theorem dX6_hashWithTitle_47 : decode cX6_hashWithTitle 47 = .ok (.istore 7, 2) := by decide +kernel
theorem dX6_hashWithTitle_49 : decode cX6_hashWithTitle 49 = .ok (.iload 7, 2) := by decide +kernel
theorem dX6_hashWithTitle_51 : decode cX6_hashWithTitle 51 = .ok (.aload 4, 2) := by decide +kernel
theorem dX6_hashWithTitle_53 : decode cX6_hashWithTitle 53 = .ok (.getfield 144, 3) := by decide +kernel
theorem dX6_hashWithTitle_56 : decode cX6_hashWithTitle 56 = .ok (.arraylength, 1) := by decide +kernel
theorem dX6_hashWithTitle_57 : decode cX6_hashWithTitle 57 = .ok (.if_icmp .ge 24, 3) := by decide +kernel
theorem dX6_hashWithTitle_60 : decode cX6_hashWithTitle 60 = .ok (.lload 5, 2) := by decide +kernel
theorem dX6_hashWithTitle_62 : decode cX6_hashWithTitle 62 = .ok (.aload 4, 2) := by decide +kernel
theorem dX6_hashWithTitle_64 : decode cX6_hashWithTitle 64 = .ok (.getfield 144, 3) := by decide +kernel
theorem dX6_hashWithTitle_67 : decode cX6_hashWithTitle 67 = .ok (.iload 7, 2) := by decide +kernel
theorem dX6_hashWithTitle_69 : decode cX6_hashWithTitle 69 = .ok (.caload, 1) := by decide +kernel
theorem dX6_hashWithTitle_70 : decode cX6_hashWithTitle 70 = .ok (.invokestatic 233, 3) := by decide +kernel
theorem dX6_hashWithTitle_73 : decode cX6_hashWithTitle 73 = .ok (.lstore 5, 2) := by decide +kernel
theorem dX6_hashWithTitle_75 : decode cX6_hashWithTitle 75 = .ok (.iinc 7 1, 3) := by decide +kernel
theorem dX6_hashWithTitle_78 : decode cX6_hashWithTitle 78 = .ok (.goto (-29), 3) := by decide +kernel
theorem dX6_hashWithTitle_81 : decode cX6_hashWithTitle 81 = .ok (.lload 5, 2) := by decide +kernel
theorem dX6_hashWithTitle_83 : decode cX6_hashWithTitle 83 = .ok (.lreturn, 1) := by decide +kernel
theorem dX6_hashWithResults_0 : decode cX6_hashWithResults 0 = .ok (.lload_n 1, 1) := by decide +kernel
theorem dX6_hashWithResults_1 : decode cX6_hashWithResults 1 = .ok (.aload_n 0, 1) := by decide +kernel
theorem dX6_hashWithResults_2 : decode cX6_hashWithResults 2 = .ok (.invokevirtual 199, 3) := by decide +kernel
theorem dX6_hashWithResults_5 : decode cX6_hashWithResults 5 = .ok (.invokestatic 233, 3) := by decide +kernel
theorem dX6_hashWithResults_8 : decode cX6_hashWithResults 8 = .ok (.lstore_n 3, 1) := by decide +kernel
theorem dX6_hashWithResults_9 : decode cX6_hashWithResults 9 = .ok (.iconst 0, 1) := by decide +kernel
theorem dX6_hashWithResults_10 : decode cX6_hashWithResults 10 = .ok (.istore 5, 2) := by decide +kernel
theorem dX6_hashWithResults_12 : decode cX6_hashWithResults 12 = .ok (.iload 5, 2) := by decide +kernel
theorem dX6_hashWithResults_14 : decode cX6_hashWithResults 14 = .ok (.aload_n 0, 1) := by decide +kernel
theorem dX6_hashWithResults_15 : decode cX6_hashWithResults 15 = .ok (.getfield 36, 3) := by decide +kernel
theorem dX6_hashWithResults_18 : decode cX6_hashWithResults 18 = .ok (.getfield 208, 3) := by decide +kernel
theorem dX6_hashWithResults_21 : decode cX6_hashWithResults 21 = .ok (.if_icmp .ge 37, 3) := by decide +kernel
theorem dX6_hashWithResults_24 : decode cX6_hashWithResults 24 = .ok (.lload_n 3, 1) := by decide +kernel
theorem dX6_hashWithResults_25 : decode cX6_hashWithResults 25 = .ok (.aload_n 0, 1) := by decide +kernel
theorem dX6_hashWithResults_26 : decode cX6_hashWithResults 26 = .ok (.getfield 36, 3) := by decide +kernel
theorem dX6_hashWithResults_29 : decode cX6_hashWithResults 29 = .ok (.iload 5, 2) := by decide +kernel
theorem dX6_hashWithResults_31 : decode cX6_hashWithResults 31 = .ok (.invokevirtual 212, 3) := by decide +kernel
theorem dX6_hashWithResults_34 : decode cX6_hashWithResults 34 = .ok (.invokestatic 233, 3) := by decide +kernel
theorem dX6_hashWithResults_37 : decode cX6_hashWithResults 37 = .ok (.lstore_n 3, 1) := by decide +kernel
theorem dX6_hashWithResults_38 : decode cX6_hashWithResults 38 = .ok (.lload_n 3, 1) := by decide +kernel
theorem dX6_hashWithResults_39 : decode cX6_hashWithResults 39 = .ok (.aload_n 0, 1) := by decide +kernel
theorem dX6_hashWithResults_40 : decode cX6_hashWithResults 40 = .ok (.getfield 36, 3) := by decide +kernel
theorem dX6_hashWithResults_43 : decode cX6_hashWithResults 43 = .ok (.iload 5, 2) := by decide +kernel
theorem dX6_hashWithResults_45 : decode cX6_hashWithResults 45 = .ok (.invokevirtual 215, 3) := by decide +kernel
theorem dX6_hashWithResults_48 : decode cX6_hashWithResults 48 = .ok (.invokestatic 233, 3) := by decide +kernel
theorem dX6_hashWithResults_51 : decode cX6_hashWithResults 51 = .ok (.lstore_n 3, 1) := by decide +kernel
theorem dX6_hashWithResults_52 : decode cX6_hashWithResults 52 = .ok (.iinc 5 1, 3) := by decide +kernel
theorem dX6_hashWithResults_55 : decode cX6_hashWithResults 55 = .ok (.goto (-43), 3) := by decide +kernel
theorem dX6_hashWithResults_58 : decode cX6_hashWithResults 58 = .ok (.lload_n 3, 1) := by decide +kernel
theorem dX6_hashWithResults_59 : decode cX6_hashWithResults 59 = .ok (.lreturn, 1) := by decide +kernel
theorem dX6_hashWith_0 : decode cX6_hashWith 0 = .ok (.ldc2_w 260, 3) := by decide +kernel
theorem dX6_hashWith_3 : decode cX6_hashWith 3 = .ok (.lload_n 0, 1) := by decide +kernel
theorem dX6_hashWith_4 : decode cX6_hashWith 4 = .ok (.lmul, 1) := by decide +kernel
theorem dX6_hashWith_5 : decode cX6_hashWith 5 = .ok (.iload_n 2, 1) := by decide +kernel
theorem dX6_hashWith_6 : decode cX6_hashWith 6 = .ok (.i2l, 1) := by decide +kernel
theorem dX6_hashWith_7 : decode cX6_hashWith 7 = .ok (.ladd, 1) := by decide +kernel
theorem dX6_hashWith_8 : decode cX6_hashWith 8 = .ok (.lreturn, 1) := by decide +kernel
end
section
theorem dX7_init_0 : decode cX7_init 0 = .ok (.aload_n 0, 1) := by decide +kernel
theorem dX7_init_1 : decode cX7_init 1 = .ok (.invokespecial 1, 3) := by decide +kernel
theorem dX7_init_4 : decode cX7_init 4 = .ok (.aload_n 0, 1) := by decide +kernel
theorem dX7_init_5 : decode cX7_init 5 = .ok (.sipush 444, 3) := by decide +kernel
theorem dX7_init_8 : decode cX7_init 8 = .ok (.newarray .int, 2) := by decide +kernel
theorem dX7_init_10 : decode cX7_init 10 = .ok (.putfield 7, 3) := by decide +kernel
theorem dX7_init_13 : decode cX7_init 13 = .ok (.aload_n 0, 1) := by decide +kernel
theorem dX7_init_14 : decode cX7_init 14 = .ok (.sipush 2664, 3) := by decide +kernel
theorem dX7_init_17 : decode cX7_init 17 = .ok (.newarray .int, 2) := by decide +kernel
theorem dX7_init_19 : decode cX7_init 19 = .ok (.putfield 13, 3) := by decide +kernel
theorem dX7_init_22 : decode cX7_init 22 = .ok (.aload_n 0, 1) := by decide +kernel
theorem dX7_init_23 : decode cX7_init 23 = .ok (.bipush 80, 2) := by decide +kernel
theorem dX7_init_25 : decode cX7_init 25 = .ok (.newarray .int, 2) := by decide +kernel
theorem dX7_init_27 : decode cX7_init 27 = .ok (.putfield 16, 3) := by decide +kernel
theorem dX7_init_30 : decode cX7_init 30 = .ok (.aload_n 0, 1) := by decide +kernel
theorem dX7_init_31 : decode cX7_init 31 = .ok (.sipush 384, 3) := by decide +kernel
theorem dX7_init_34 : decode cX7_init 34 = .ok (.newarray .int, 2) := by decide +kernel
theorem dX7_init_36 : decode cX7_init 36 = .ok (.putfield 19, 3) := by decide +kernel
theorem dX7_init_39 : decode cX7_init 39 = .ok (.aload_n 0, 1) := by decide +kernel
theorem dX7_init_40 : decode cX7_init 40 = .ok (.bipush 16, 2) := by decide +kernel
theorem dX7_init_42 : decode cX7_init 42 = .ok (.newarray .int, 2) := by decide +kernel
theorem dX7_init_44 : decode cX7_init 44 = .ok (.putfield 22, 3) := by decide +kernel
theorem dX7_init_47 : decode cX7_init 47 = .ok (.aload_n 0, 1) := by decide +kernel
theorem dX7_init_48 : decode cX7_init 48 = .ok (.bipush 24, 2) := by decide +kernel
theorem dX7_init_50 : decode cX7_init 50 = .ok (.newarray .int, 2) := by decide +kernel
theorem dX7_init_52 : decode cX7_init 52 = .ok (.putfield 25, 3) := by decide +kernel
theorem dX7_init_55 : decode cX7_init 55 = .ok (.aload_n 0, 1) := by decide +kernel
theorem dX7_init_56 : decode cX7_init 56 = .ok (.bipush 16, 2) := by decide +kernel
theorem dX7_init_58 : decode cX7_init 58 = .ok (.newarray .int, 2) := by decide +kernel
theorem dX7_init_60 : decode cX7_init 60 = .ok (.putfield 28, 3) := by decide +kernel
theorem dX7_init_63 : decode cX7_init 63 = .ok (.aload_n 0, 1) := by decide +kernel
theorem dX7_init_64 : decode cX7_init 64 = .ok (.bipush 16, 2) := by decide +kernel
theorem dX7_init_66 : decode cX7_init 66 = .ok (.newarray .int, 2) := by decide +kernel
theorem dX7_init_68 : decode cX7_init 68 = .ok (.putfield 31, 3) := by decide +kernel
theorem dX7_init_71 : decode cX7_init 71 = .ok (.aload_n 0, 1) := by decide +kernel
theorem dX7_init_72 : decode cX7_init 72 = .ok (.bipush 16, 2) := by decide +kernel
theorem dX7_init_74 : decode cX7_init 74 = .ok (.newarray .int, 2) := by decide +kernel
theorem dX7_init_76 : decode cX7_init 76 = .ok (.putfield 34, 3) := by decide +kernel
theorem dX7_init_79 : decode cX7_init 79 = .ok (.aload_n 0, 1) := by decide +kernel
theorem dX7_init_80 : decode cX7_init 80 = .ok (.bipush 16, 2) := by decide +kernel
theorem dX7_init_82 : decode cX7_init 82 = .ok (.newarray .int, 2) := by decide +kernel
theorem dX7_init_84 : decode cX7_init 84 = .ok (.putfield 37, 3) := by decide +kernel
theorem dX7_init_87 : decode cX7_init 87 = .ok (.aload_n 0, 1) := by decide +kernel
theorem dX7_init_88 : decode cX7_init 88 = .ok (.bipush 25, 2) := by decide +kernel
theorem dX7_init_90 : decode cX7_init 90 = .ok (.newarray .int, 2) := by decide +kernel
theorem dX7_init_92 : decode cX7_init 92 = .ok (.putfield 40, 3) := by decide +kernel
theorem dX7_init_95 : decode cX7_init 95 = .ok (.return_, 1) := by decide +kernel
theorem dX7_within_0 : decode cX7_within 0 = .ok (.iload_n 0, 1) := by decide +kernel
theorem dX7_within_1 : decode cX7_within 1 = .ok (.iload_n 1, 1) := by decide +kernel
theorem dX7_within_2 : decode cX7_within 2 = .ok (.if_icmp .lt 12, 3) := by decide +kernel
theorem dX7_within_5 : decode cX7_within 5 = .ok (.iload_n 0, 1) := by decide +kernel
theorem dX7_within_6 : decode cX7_within 6 = .ok (.iload_n 2, 1) := by decide +kernel
theorem dX7_within_7 : decode cX7_within 7 = .ok (.if_icmp .gt 7, 3) := by decide +kernel
theorem dX7_within_10 : decode cX7_within 10 = .ok (.iconst 1, 1) := by decide +kernel
theorem dX7_within_11 : decode cX7_within 11 = .ok (.goto 4, 3) := by decide +kernel
theorem dX7_within_14 : decode cX7_within 14 = .ok (.iconst 0, 1) := by decide +kernel
theorem dX7_within_15 : decode cX7_within 15 = .ok (.ireturn, 1) := by decide +kernel
theorem dX7_record_0 : decode cX7_record 0 = .ok (.aload_n 0, 1) := by decide +kernel
theorem dX7_record_1 : decode cX7_record 1 = .ok (.getfield 43, 3) := by decide +kernel
theorem dX7_record_4 : decode cX7_record 4 = .ok (.bipush 6, 2) := by decide +kernel
theorem dX7_record_6 : decode cX7_record 6 = .ok (.if_icmp .ne 44, 3) := by decide +kernel
theorem dX7_record_9 : decode cX7_record 9 = .ok (.iconst 0, 1) := by decide +kernel
theorem dX7_record_10 : decode cX7_record 10 = .ok (.istore_n 1, 1) := by decide +kernel
theorem dX7_record_11 : decode cX7_record 11 = .ok (.iload_n 1, 1) := by decide +kernel
theorem dX7_record_12 : decode cX7_record 12 = .ok (.sipush 2220, 3) := by decide +kernel
theorem dX7_record_15 : decode cX7_record 15 = .ok (.if_icmp .ge 25, 3) := by decide +kernel
theorem dX7_record_18 : decode cX7_record 18 = .ok (.aload_n 0, 1) := by decide +kernel
theorem dX7_record_19 : decode cX7_record 19 = .ok (.getfield 13, 3) := by decide +kernel
theorem dX7_record_22 : decode cX7_record 22 = .ok (.iload_n 1, 1) := by decide +kernel
theorem dX7_record_23 : decode cX7_record 23 = .ok (.aload_n 0, 1) := by decide +kernel
theorem dX7_record_24 : decode cX7_record 24 = .ok (.getfield 13, 3) := by decide +kernel
theorem dX7_record_27 : decode cX7_record 27 = .ok (.iload_n 1, 1) := by decide +kernel
theorem dX7_record_28 : decode cX7_record 28 = .ok (.sipush 444, 3) := by decide +kernel
theorem dX7_record_31 : decode cX7_record 31 = .ok (.iadd, 1) := by decide +kernel
theorem dX7_record_32 : decode cX7_record 32 = .ok (.iaload, 1) := by decide +kernel
theorem dX7_record_33 : decode cX7_record 33 = .ok (.iastore, 1) := by decide +kernel
theorem dX7_record_34 : decode cX7_record 34 = .ok (.iinc 1 1, 3) := by decide +kernel
theorem dX7_record_37 : decode cX7_record 37 = .ok (.goto (-26), 3) := by decide +kernel
theorem dX7_record_40 : decode cX7_record 40 = .ok (.aload_n 0, 1) := by decide +kernel
theorem dX7_record_41 : decode cX7_record 41 = .ok (.dup, 1) := by decide +kernel
theorem dX7_record_42 : decode cX7_record 42 = .ok (.getfield 43, 3) := by decide +kernel
theorem dX7_record_45 : decode cX7_record 45 = .ok (.iconst 1, 1) := by decide +kernel
theorem dX7_record_46 : decode cX7_record 46 = .ok (.isub, 1) := by decide +kernel
theorem dX7_record_47 : decode cX7_record 47 = .ok (.putfield 43, 3) := by decide +kernel
theorem dX7_record_50 : decode cX7_record 50 = .ok (.iconst 0, 1) := by decide +kernel
theorem dX7_record_51 : decode cX7_record 51 = .ok (.istore_n 1, 1) := by decide +kernel
theorem dX7_record_52 : decode cX7_record 52 = .ok (.iload_n 1, 1) := by decide +kernel
theorem dX7_record_53 : decode cX7_record 53 = .ok (.sipush 444, 3) := by decide +kernel
theorem dX7_record_56 : decode cX7_record 56 = .ok (.if_icmp .ge 30, 3) := by decide +kernel
theorem dX7_record_59 : decode cX7_record 59 = .ok (.aload_n 0, 1) := by decide +kernel
theorem dX7_record_60 : decode cX7_record 60 = .ok (.getfield 13, 3) := by decide +kernel
theorem dX7_record_63 : decode cX7_record 63 = .ok (.aload_n 0, 1) := by decide +kernel
theorem dX7_record_64 : decode cX7_record 64 = .ok (.getfield 43, 3) := by decide +kernel
theorem dX7_record_67 : decode cX7_record 67 = .ok (.sipush 444, 3) := by decide +kernel
theorem dX7_record_70 : decode cX7_record 70 = .ok (.imul, 1) := by decide +kernel
theorem dX7_record_71 : decode cX7_record 71 = .ok (.iload_n 1, 1) := by decide +kernel
theorem dX7_record_72 : decode cX7_record 72 = .ok (.iadd, 1) := by decide +kernel
theorem dX7_record_73 : decode cX7_record 73 = .ok (.aload_n 0, 1) := by decide +kernel
theorem dX7_record_74 : decode cX7_record 74 = .ok (.getfield 7, 3) := by decide +kernel
theorem dX7_record_77 : decode cX7_record 77 = .ok (.iload_n 1, 1) := by decide +kernel
theorem dX7_record_78 : decode cX7_record 78 = .ok (.iaload, 1) := by decide +kernel
theorem dX7_record_79 : decode cX7_record 79 = .ok (.iastore, 1) := by decide +kernel
theorem dX7_record_80 : decode cX7_record 80 = .ok (.iinc 1 1, 3) := by decide +kernel
theorem dX7_record_83 : decode cX7_record 83 = .ok (.goto (-31), 3) := by decide +kernel
theorem dX7_record_86 : decode cX7_record 86 = .ok (.aload_n 0, 1) := by decide +kernel
theorem dX7_record_87 : decode cX7_record 87 = .ok (.dup, 1) := by decide +kernel
theorem dX7_record_88 : decode cX7_record 88 = .ok (.getfield 43, 3) := by decide +kernel
theorem dX7_record_91 : decode cX7_record 91 = .ok (.iconst 1, 1) := by decide +kernel
theorem dX7_record_92 : decode cX7_record 92 = .ok (.iadd, 1) := by decide +kernel
theorem dX7_record_93 : decode cX7_record 93 = .ok (.putfield 43, 3) := by decide +kernel
theorem dX7_record_96 : decode cX7_record 96 = .ok (.return_, 1) := by decide +kernel
theorem dX7_isTitle_0 : decode cX7_isTitle 0 = .ok (.iload_n 1, 1) := by decide +kernel
theorem dX7_isTitle_1 : decode cX7_isTitle 1 = .ok (.iconst 0, 1) := by decide +kernel
theorem dX7_isTitle_2 : decode cX7_isTitle 2 = .ok (.aload_n 0, 1) := by decide +kernel
theorem dX7_isTitle_3 : decode cX7_isTitle 3 = .ok (.getfield 7, 3) := by decide +kernel
theorem dX7_isTitle_6 : decode cX7_isTitle 6 = .ok (.iconst 0, 1) := by decide +kernel
theorem dX7_isTitle_7 : decode cX7_isTitle 7 = .ok (.iaload, 1) := by decide +kernel
theorem dX7_isTitle_8 : decode cX7_isTitle 8 = .ok (.iconst 1, 1) := by decide +kernel
theorem dX7_isTitle_9 : decode cX7_isTitle 9 = .ok (.isub, 1) := by decide +kernel
theorem dX7_isTitle_10 : decode cX7_isTitle 10 = .ok (.invokestatic 47, 3) := by decide +kernel
theorem dX7_isTitle_13 : decode cX7_isTitle 13 = .ok (.ireturn, 1) := by decide +kernel
theorem dX7_part_0 : decode cX7_part 0 = .ok (.aload_n 0, 1) := by decide +kernel
theorem dX7_part_1 : decode cX7_part 1 = .ok (.getfield 7, 3) := by decide +kernel
theorem dX7_part_4 : decode cX7_part 4 = .ok (.bipush 28, 2) := by decide +kernel
theorem dX7_part_6 : decode cX7_part 6 = .ok (.bipush 26, 2) := by decide +kernel
theorem dX7_part_8 : decode cX7_part 8 = .ok (.iload_n 1, 1) := by decide +kernel
theorem dX7_part_9 : decode cX7_part 9 = .ok (.imul, 1) := by decide +kernel
theorem dX7_part_10 : decode cX7_part 10 = .ok (.iadd, 1) := by decide +kernel
theorem dX7_part_11 : decode cX7_part 11 = .ok (.iload_n 2, 1) := by decide +kernel
theorem dX7_part_12 : decode cX7_part 12 = .ok (.iadd, 1) := by decide +kernel
theorem dX7_part_13 : decode cX7_part 13 = .ok (.iaload, 1) := by decide +kernel
theorem dX7_part_14 : decode cX7_part 14 = .ok (.ireturn, 1) := by decide +kernel
theorem dX7_lengthOf_0 : decode cX7_lengthOf 0 = .ok (.aload_n 0, 1) := by decide +kernel
theorem dX7_lengthOf_1 : decode cX7_lengthOf 1 = .ok (.iload_n 1, 1) := by decide +kernel
theorem dX7_lengthOf_2 : decode cX7_lengthOf 2 = .ok (.iconst 0, 1) := by decide +kernel
theorem dX7_lengthOf_3 : decode cX7_lengthOf 3 = .ok (.invokevirtual 51, 3) := by decide +kernel
theorem dX7_lengthOf_6 : decode cX7_lengthOf 6 = .ok (.ireturn, 1) := by decide +kernel
theorem dX7_characterOf_0 : decode cX7_characterOf 0 = .ok (.aload_n 0, 1) := by decide +kernel
theorem dX7_characterOf_1 : decode cX7_characterOf 1 = .ok (.iload_n 1, 1) := by decide +kernel
theorem dX7_characterOf_2 : decode cX7_characterOf 2 = .ok (.iconst 2, 1) := by decide +kernel
theorem dX7_characterOf_3 : decode cX7_characterOf 3 = .ok (.iload_n 2, 1) := by decide +kernel
theorem dX7_characterOf_4 : decode cX7_characterOf 4 = .ok (.iadd, 1) := by decide +kernel
theorem dX7_characterOf_5 : decode cX7_characterOf 5 = .ok (.invokevirtual 51, 3) := by decide +kernel
theorem dX7_characterOf_8 : decode cX7_characterOf 8 = .ok (.ireturn, 1) := by decide +kernel
theorem dX7_isLetter_0 : decode cX7_isLetter 0 = .ok (.iload_n 0, 1) := by decide +kernel
theorem dX7_isLetter_1 : decode cX7_isLetter 1 = .ok (.bipush 97, 2) := by decide +kernel
theorem dX7_isLetter_3 : decode cX7_isLetter 3 = .ok (.bipush 122, 2) := by decide +kernel
theorem dX7_isLetter_5 : decode cX7_isLetter 5 = .ok (.invokestatic 47, 3) := by decide +kernel
theorem dX7_isLetter_8 : decode cX7_isLetter 8 = .ok (.ifCond .ne 14, 3) := by decide +kernel
theorem dX7_isLetter_11 : decode cX7_isLetter 11 = .ok (.iload_n 0, 1) := by decide +kernel
theorem dX7_isLetter_12 : decode cX7_isLetter 12 = .ok (.bipush 48, 2) := by decide +kernel
theorem dX7_isLetter_14 : decode cX7_isLetter 14 = .ok (.bipush 57, 2) := by decide +kernel
theorem dX7_isLetter_16 : decode cX7_isLetter 16 = .ok (.invokestatic 47, 3) := by decide +kernel
theorem dX7_isLetter_19 : decode cX7_isLetter 19 = .ok (.ifCond .eq 7, 3) := by decide +kernel
theorem dX7_isLetter_22 : decode cX7_isLetter 22 = .ok (.iconst 1, 1) := by decide +kernel
theorem dX7_isLetter_23 : decode cX7_isLetter 23 = .ok (.goto 4, 3) := by decide +kernel
theorem dX7_isLetter_26 : decode cX7_isLetter 26 = .ok (.iconst 0, 1) := by decide +kernel
theorem dX7_isLetter_27 : decode cX7_isLetter 27 = .ok (.ireturn, 1) := by decide +kernel
theorem dX7_beginsWord_0 : decode cX7_beginsWord 0 = .ok (.aload_n 0, 1) := by decide +kernel
theorem dX7_beginsWord_1 : decode cX7_beginsWord 1 = .ok (.iload_n 1, 1) := by decide +kernel
theorem dX7_beginsWord_2 : decode cX7_beginsWord 2 = .ok (.iload_n 2, 1) := by decide +kernel
theorem dX7_beginsWord_3 : decode cX7_beginsWord 3 = .ok (.invokevirtual 55, 3) := by decide +kernel
theorem dX7_beginsWord_6 : decode cX7_beginsWord 6 = .ok (.bipush 32, 2) := by decide +kernel
theorem dX7_beginsWord_8 : decode cX7_beginsWord 8 = .ok (.if_icmp .eq 24, 3) := by decide +kernel
theorem dX7_beginsWord_11 : decode cX7_beginsWord 11 = .ok (.iload_n 2, 1) := by decide +kernel
theorem dX7_beginsWord_12 : decode cX7_beginsWord 12 = .ok (.ifCond .eq 16, 3) := by decide +kernel
theorem dX7_beginsWord_15 : decode cX7_beginsWord 15 = .ok (.aload_n 0, 1) := by decide +kernel
theorem dX7_beginsWord_16 : decode cX7_beginsWord 16 = .ok (.iload_n 1, 1) := by decide +kernel
theorem dX7_beginsWord_17 : decode cX7_beginsWord 17 = .ok (.iload_n 2, 1) := by decide +kernel
theorem dX7_beginsWord_18 : decode cX7_beginsWord 18 = .ok (.iconst 1, 1) := by decide +kernel
theorem dX7_beginsWord_19 : decode cX7_beginsWord 19 = .ok (.isub, 1) := by decide +kernel
theorem dX7_beginsWord_20 : decode cX7_beginsWord 20 = .ok (.invokevirtual 55, 3) := by decide +kernel
theorem dX7_beginsWord_23 : decode cX7_beginsWord 23 = .ok (.bipush 32, 2) := by decide +kernel
theorem dX7_beginsWord_25 : decode cX7_beginsWord 25 = .ok (.if_icmp .ne 7, 3) := by decide +kernel
theorem dX7_beginsWord_28 : decode cX7_beginsWord 28 = .ok (.iconst 1, 1) := by decide +kernel
theorem dX7_beginsWord_29 : decode cX7_beginsWord 29 = .ok (.goto 4, 3) := by decide +kernel
theorem dX7_beginsWord_32 : decode cX7_beginsWord 32 = .ok (.iconst 0, 1) := by decide +kernel
theorem dX7_beginsWord_33 : decode cX7_beginsWord 33 = .ok (.ireturn, 1) := by decide +kernel
theorem dX7_findSources_0 : decode cX7_findSources 0 = .ok (.iconst 0, 1) := by decide +kernel
theorem dX7_findSources_1 : decode cX7_findSources 1 = .ok (.istore_n 1, 1) := by decide +kernel
theorem dX7_findSources_2 : decode cX7_findSources 2 = .ok (.iload_n 1, 1) := by decide +kernel
theorem dX7_findSources_3 : decode cX7_findSources 3 = .ok (.aload_n 0, 1) := by decide +kernel
theorem dX7_findSources_4 : decode cX7_findSources 4 = .ok (.getfield 7, 3) := by decide +kernel
theorem dX7_findSources_7 : decode cX7_findSources 7 = .ok (.iconst 0, 1) := by decide +kernel
theorem dX7_findSources_8 : decode cX7_findSources 8 = .ok (.iaload, 1) := by decide +kernel
theorem dX7_findSources_9 : decode cX7_findSources 9 = .ok (.if_icmp .ge 74, 3) := by decide +kernel
theorem dX7_findSources_12 : decode cX7_findSources 12 = .ok (.iconst 0, 1) := by decide +kernel
theorem dX7_findSources_13 : decode cX7_findSources 13 = .ok (.istore_n 2, 1) := by decide +kernel
theorem dX7_findSources_14 : decode cX7_findSources 14 = .ok (.iconst 0, 1) := by decide +kernel
theorem dX7_findSources_15 : decode cX7_findSources 15 = .ok (.istore_n 3, 1) := by decide +kernel
theorem dX7_findSources_16 : decode cX7_findSources 16 = .ok (.iload_n 3, 1) := by decide +kernel
theorem dX7_findSources_17 : decode cX7_findSources 17 = .ok (.aload_n 0, 1) := by decide +kernel
theorem dX7_findSources_18 : decode cX7_findSources 18 = .ok (.iload_n 1, 1) := by decide +kernel
theorem dX7_findSources_19 : decode cX7_findSources 19 = .ok (.invokevirtual 58, 3) := by decide +kernel
theorem dX7_findSources_22 : decode cX7_findSources 22 = .ok (.if_icmp .ge 48, 3) := by decide +kernel
theorem dX7_findSources_25 : decode cX7_findSources 25 = .ok (.aload_n 0, 1) := by decide +kernel
theorem dX7_findSources_26 : decode cX7_findSources 26 = .ok (.getfield 7, 3) := by decide +kernel
theorem dX7_findSources_29 : decode cX7_findSources 29 = .ok (.iconst 1, 1) := by decide +kernel
theorem dX7_findSources_30 : decode cX7_findSources 30 = .ok (.iaload, 1) := by decide +kernel
theorem dX7_findSources_31 : decode cX7_findSources 31 = .ok (.iconst 3, 1) := by decide +kernel
theorem dX7_findSources_32 : decode cX7_findSources 32 = .ok (.if_icmp .ne 12, 3) := by decide +kernel
theorem dX7_findSources_35 : decode cX7_findSources 35 = .ok (.aload_n 0, 1) := by decide +kernel
theorem dX7_findSources_36 : decode cX7_findSources 36 = .ok (.iload_n 1, 1) := by decide +kernel
theorem dX7_findSources_37 : decode cX7_findSources 37 = .ok (.iload_n 3, 1) := by decide +kernel
theorem dX7_findSources_38 : decode cX7_findSources 38 = .ok (.invokevirtual 62, 3) := by decide +kernel
theorem dX7_findSources_41 : decode cX7_findSources 41 = .ok (.ifCond .eq 23, 3) := by decide +kernel
theorem dX7_findSources_44 : decode cX7_findSources 44 = .ok (.aload_n 0, 1) := by decide +kernel
theorem dX7_findSources_45 : decode cX7_findSources 45 = .ok (.getfield 19, 3) := by decide +kernel
theorem dX7_findSources_48 : decode cX7_findSources 48 = .ok (.bipush 24, 2) := by decide +kernel
theorem dX7_findSources_50 : decode cX7_findSources 50 = .ok (.iload_n 1, 1) := by decide +kernel
theorem dX7_findSources_51 : decode cX7_findSources 51 = .ok (.imul, 1) := by decide +kernel
theorem dX7_findSources_52 : decode cX7_findSources 52 = .ok (.iload_n 2, 1) := by decide +kernel
theorem dX7_findSources_53 : decode cX7_findSources 53 = .ok (.iadd, 1) := by decide +kernel
theorem dX7_findSources_54 : decode cX7_findSources 54 = .ok (.aload_n 0, 1) := by decide +kernel
theorem dX7_findSources_55 : decode cX7_findSources 55 = .ok (.iload_n 1, 1) := by decide +kernel
theorem dX7_findSources_56 : decode cX7_findSources 56 = .ok (.iload_n 3, 1) := by decide +kernel
theorem dX7_findSources_57 : decode cX7_findSources 57 = .ok (.invokevirtual 55, 3) := by decide +kernel
theorem dX7_findSources_60 : decode cX7_findSources 60 = .ok (.iastore, 1) := by decide +kernel
theorem dX7_findSources_61 : decode cX7_findSources 61 = .ok (.iinc 2 1, 3) := by decide +kernel
theorem dX7_findSources_64 : decode cX7_findSources 64 = .ok (.iinc 3 1, 3) := by decide +kernel
theorem dX7_findSources_67 : decode cX7_findSources 67 = .ok (.goto (-51), 3) := by decide +kernel
theorem dX7_findSources_70 : decode cX7_findSources 70 = .ok (.aload_n 0, 1) := by decide +kernel
theorem dX7_findSources_71 : decode cX7_findSources 71 = .ok (.getfield 22, 3) := by decide +kernel
theorem dX7_findSources_74 : decode cX7_findSources 74 = .ok (.iload_n 1, 1) := by decide +kernel
theorem dX7_findSources_75 : decode cX7_findSources 75 = .ok (.iload_n 2, 1) := by decide +kernel
theorem dX7_findSources_76 : decode cX7_findSources 76 = .ok (.iastore, 1) := by decide +kernel
theorem dX7_findSources_77 : decode cX7_findSources 77 = .ok (.iinc 1 1, 3) := by decide +kernel
theorem dX7_findSources_80 : decode cX7_findSources 80 = .ok (.goto (-78), 3) := by decide +kernel
theorem dX7_findSources_83 : decode cX7_findSources 83 = .ok (.return_, 1) := by decide +kernel
theorem dX7_sourceAt_0 : decode cX7_sourceAt 0 = .ok (.aload_n 0, 1) := by decide +kernel
theorem dX7_sourceAt_1 : decode cX7_sourceAt 1 = .ok (.getfield 19, 3) := by decide +kernel
theorem dX7_sourceAt_4 : decode cX7_sourceAt 4 = .ok (.bipush 24, 2) := by decide +kernel
theorem dX7_sourceAt_6 : decode cX7_sourceAt 6 = .ok (.iload_n 1, 1) := by decide +kernel
theorem dX7_sourceAt_7 : decode cX7_sourceAt 7 = .ok (.imul, 1) := by decide +kernel
theorem dX7_sourceAt_8 : decode cX7_sourceAt 8 = .ok (.iload_n 2, 1) := by decide +kernel
theorem dX7_sourceAt_9 : decode cX7_sourceAt 9 = .ok (.iadd, 1) := by decide +kernel
theorem dX7_sourceAt_10 : decode cX7_sourceAt 10 = .ok (.iaload, 1) := by decide +kernel
theorem dX7_sourceAt_11 : decode cX7_sourceAt 11 = .ok (.ireturn, 1) := by decide +kernel
theorem dX7_canStart_0 : decode cX7_canStart 0 = .ok (.aload_n 0, 1) := by decide +kernel
theorem dX7_canStart_1 : decode cX7_canStart 1 = .ok (.getfield 7, 3) := by decide +kernel
theorem dX7_canStart_4 : decode cX7_canStart 4 = .ok (.iconst 1, 1) := by decide +kernel
theorem dX7_canStart_5 : decode cX7_canStart 5 = .ok (.iaload, 1) := by decide +kernel
theorem dX7_canStart_6 : decode cX7_canStart 6 = .ok (.tableswitch 60 0 2 #[26, 43, 53], 26) := by decide +kernel
theorem dX7_canStart_32 : decode cX7_canStart 32 = .ok (.aload_n 0, 1) := by decide +kernel
theorem dX7_canStart_33 : decode cX7_canStart 33 = .ok (.iload_n 1, 1) := by decide +kernel
theorem dX7_canStart_34 : decode cX7_canStart 34 = .ok (.iload_n 2, 1) := by decide +kernel
theorem dX7_canStart_35 : decode cX7_canStart 35 = .ok (.invokevirtual 66, 3) := by decide +kernel
theorem dX7_canStart_38 : decode cX7_canStart 38 = .ok (.bipush 32, 2) := by decide +kernel
theorem dX7_canStart_40 : decode cX7_canStart 40 = .ok (.if_icmp .eq 7, 3) := by decide +kernel
theorem dX7_canStart_43 : decode cX7_canStart 43 = .ok (.iconst 1, 1) := by decide +kernel
theorem dX7_canStart_44 : decode cX7_canStart 44 = .ok (.goto 4, 3) := by decide +kernel
theorem dX7_canStart_47 : decode cX7_canStart 47 = .ok (.iconst 0, 1) := by decide +kernel
theorem dX7_canStart_48 : decode cX7_canStart 48 = .ok (.ireturn, 1) := by decide +kernel
theorem dX7_canStart_49 : decode cX7_canStart 49 = .ok (.iload_n 2, 1) := by decide +kernel
theorem dX7_canStart_50 : decode cX7_canStart 50 = .ok (.ifCond .ne 7, 3) := by decide +kernel
theorem dX7_canStart_53 : decode cX7_canStart 53 = .ok (.iconst 1, 1) := by decide +kernel
theorem dX7_canStart_54 : decode cX7_canStart 54 = .ok (.goto 4, 3) := by decide +kernel
theorem dX7_canStart_57 : decode cX7_canStart 57 = .ok (.iconst 0, 1) := by decide +kernel
theorem dX7_canStart_58 : decode cX7_canStart 58 = .ok (.ireturn, 1) := by decide +kernel
theorem dX7_canStart_59 : decode cX7_canStart 59 = .ok (.aload_n 0, 1) := by decide +kernel
theorem dX7_canStart_60 : decode cX7_canStart 60 = .ok (.iload_n 1, 1) := by decide +kernel
theorem dX7_canStart_61 : decode cX7_canStart 61 = .ok (.iload_n 2, 1) := by decide +kernel
theorem dX7_canStart_62 : decode cX7_canStart 62 = .ok (.invokevirtual 62, 3) := by decide +kernel
theorem dX7_canStart_65 : decode cX7_canStart 65 = .ok (.ireturn, 1) := by decide +kernel
theorem dX7_canStart_66 : decode cX7_canStart 66 = .ok (.iconst 1, 1) := by decide +kernel
theorem dX7_canStart_67 : decode cX7_canStart 67 = .ok (.ireturn, 1) := by decide +kernel
theorem dX7_isPiece_0 : decode cX7_isPiece 0 = .ok (.iload_n 2, 1) := by decide +kernel
theorem dX7_isPiece_1 : decode cX7_isPiece 1 = .ok (.iload_n 3, 1) := by decide +kernel
theorem dX7_isPiece_2 : decode cX7_isPiece 2 = .ok (.iadd, 1) := by decide +kernel
theorem dX7_isPiece_3 : decode cX7_isPiece 3 = .ok (.aload_n 0, 1) := by decide +kernel
theorem dX7_isPiece_4 : decode cX7_isPiece 4 = .ok (.getfield 22, 3) := by decide +kernel
theorem dX7_isPiece_7 : decode cX7_isPiece 7 = .ok (.iload_n 1, 1) := by decide +kernel
theorem dX7_isPiece_8 : decode cX7_isPiece 8 = .ok (.iaload, 1) := by decide +kernel
theorem dX7_isPiece_9 : decode cX7_isPiece 9 = .ok (.if_icmp .gt 31, 3) := by decide +kernel
theorem dX7_isPiece_12 : decode cX7_isPiece 12 = .ok (.aload_n 0, 1) := by decide +kernel
theorem dX7_isPiece_13 : decode cX7_isPiece 13 = .ok (.iload_n 1, 1) := by decide +kernel
theorem dX7_isPiece_14 : decode cX7_isPiece 14 = .ok (.iload_n 2, 1) := by decide +kernel
theorem dX7_isPiece_15 : decode cX7_isPiece 15 = .ok (.invokevirtual 69, 3) := by decide +kernel
theorem dX7_isPiece_18 : decode cX7_isPiece 18 = .ok (.ifCond .eq 22, 3) := by decide +kernel
theorem dX7_isPiece_21 : decode cX7_isPiece 21 = .ok (.aload_n 0, 1) := by decide +kernel
theorem dX7_isPiece_22 : decode cX7_isPiece 22 = .ok (.iload_n 1, 1) := by decide +kernel
theorem dX7_isPiece_23 : decode cX7_isPiece 23 = .ok (.iload_n 2, 1) := by decide +kernel
theorem dX7_isPiece_24 : decode cX7_isPiece 24 = .ok (.iload_n 3, 1) := by decide +kernel
theorem dX7_isPiece_25 : decode cX7_isPiece 25 = .ok (.iadd, 1) := by decide +kernel
theorem dX7_isPiece_26 : decode cX7_isPiece 26 = .ok (.iconst 1, 1) := by decide +kernel
theorem dX7_isPiece_27 : decode cX7_isPiece 27 = .ok (.isub, 1) := by decide +kernel
theorem dX7_isPiece_28 : decode cX7_isPiece 28 = .ok (.invokevirtual 66, 3) := by decide +kernel
theorem dX7_isPiece_31 : decode cX7_isPiece 31 = .ok (.bipush 32, 2) := by decide +kernel
theorem dX7_isPiece_33 : decode cX7_isPiece 33 = .ok (.if_icmp .eq 7, 3) := by decide +kernel
theorem dX7_isPiece_36 : decode cX7_isPiece 36 = .ok (.iconst 1, 1) := by decide +kernel
theorem dX7_isPiece_37 : decode cX7_isPiece 37 = .ok (.goto 4, 3) := by decide +kernel
theorem dX7_isPiece_40 : decode cX7_isPiece 40 = .ok (.iconst 0, 1) := by decide +kernel
theorem dX7_isPiece_41 : decode cX7_isPiece 41 = .ok (.ireturn, 1) := by decide +kernel
theorem dX7_asks_0 : decode cX7_asks 0 = .ok (.aload_n 0, 1) := by decide +kernel
theorem dX7_asks_1 : decode cX7_asks 1 = .ok (.iload_n 3, 1) := by decide +kernel
theorem dX7_asks_2 : decode cX7_asks 2 = .ok (.putfield 72, 3) := by decide +kernel
theorem dX7_asks_5 : decode cX7_asks 5 = .ok (.iconst 0, 1) := by decide +kernel
theorem dX7_asks_6 : decode cX7_asks 6 = .ok (.istore 4, 2) := by decide +kernel
theorem dX7_asks_8 : decode cX7_asks 8 = .ok (.iload 4, 2) := by decide +kernel
theorem dX7_asks_10 : decode cX7_asks 10 = .ok (.iload_n 3, 1) := by decide +kernel
theorem dX7_asks_11 : decode cX7_asks 11 = .ok (.if_icmp .ge 25, 3) := by decide +kernel
theorem dX7_asks_14 : decode cX7_asks 14 = .ok (.aload_n 0, 1) := by decide +kernel
theorem dX7_asks_15 : decode cX7_asks 15 = .ok (.getfield 25, 3) := by decide +kernel
theorem dX7_asks_18 : decode cX7_asks 18 = .ok (.iload 4, 2) := by decide +kernel
theorem dX7_asks_20 : decode cX7_asks 20 = .ok (.aload_n 0, 1) := by decide +kernel
theorem dX7_asks_21 : decode cX7_asks 21 = .ok (.iload_n 1, 1) := by decide +kernel
theorem dX7_asks_22 : decode cX7_asks 22 = .ok (.iload_n 2, 1) := by decide +kernel
theorem dX7_asks_23 : decode cX7_asks 23 = .ok (.iload 4, 2) := by decide +kernel
theorem dX7_asks_25 : decode cX7_asks 25 = .ok (.iadd, 1) := by decide +kernel
theorem dX7_asks_26 : decode cX7_asks 26 = .ok (.invokevirtual 66, 3) := by decide +kernel
theorem dX7_asks_29 : decode cX7_asks 29 = .ok (.iastore, 1) := by decide +kernel
theorem dX7_asks_30 : decode cX7_asks 30 = .ok (.iinc 4 1, 3) := by decide +kernel
theorem dX7_asks_33 : decode cX7_asks 33 = .ok (.goto (-25), 3) := by decide +kernel
theorem dX7_asks_36 : decode cX7_asks 36 = .ok (.return_, 1) := by decide +kernel
theorem dX7_placeIn_0 : decode cX7_placeIn 0 = .ok (.iconst 0, 1) := by decide +kernel
theorem dX7_placeIn_1 : decode cX7_placeIn 1 = .ok (.istore_n 2, 1) := by decide +kernel
theorem dX7_placeIn_2 : decode cX7_placeIn 2 = .ok (.iload_n 2, 1) := by decide +kernel
theorem dX7_placeIn_3 : decode cX7_placeIn 3 = .ok (.aload_n 0, 1) := by decide +kernel
theorem dX7_placeIn_4 : decode cX7_placeIn 4 = .ok (.getfield 72, 3) := by decide +kernel
theorem dX7_placeIn_7 : decode cX7_placeIn 7 = .ok (.iadd, 1) := by decide +kernel
theorem dX7_placeIn_8 : decode cX7_placeIn 8 = .ok (.aload_n 0, 1) := by decide +kernel
theorem dX7_placeIn_9 : decode cX7_placeIn 9 = .ok (.getfield 22, 3) := by decide +kernel
theorem dX7_placeIn_12 : decode cX7_placeIn 12 = .ok (.iload_n 1, 1) := by decide +kernel
theorem dX7_placeIn_13 : decode cX7_placeIn 13 = .ok (.iaload, 1) := by decide +kernel
theorem dX7_placeIn_14 : decode cX7_placeIn 14 = .ok (.if_icmp .gt 73, 3) := by decide +kernel
theorem dX7_placeIn_17 : decode cX7_placeIn 17 = .ok (.aload_n 0, 1) := by decide +kernel
theorem dX7_placeIn_18 : decode cX7_placeIn 18 = .ok (.iload_n 1, 1) := by decide +kernel
theorem dX7_placeIn_19 : decode cX7_placeIn 19 = .ok (.iload_n 2, 1) := by decide +kernel
theorem dX7_placeIn_20 : decode cX7_placeIn 20 = .ok (.aload_n 0, 1) := by decide +kernel
theorem dX7_placeIn_21 : decode cX7_placeIn 21 = .ok (.getfield 72, 3) := by decide +kernel
theorem dX7_placeIn_24 : decode cX7_placeIn 24 = .ok (.invokevirtual 75, 3) := by decide +kernel
theorem dX7_placeIn_27 : decode cX7_placeIn 27 = .ok (.istore_n 3, 1) := by decide +kernel
theorem dX7_placeIn_28 : decode cX7_placeIn 28 = .ok (.iconst 0, 1) := by decide +kernel
theorem dX7_placeIn_29 : decode cX7_placeIn 29 = .ok (.istore 4, 2) := by decide +kernel
theorem dX7_placeIn_31 : decode cX7_placeIn 31 = .ok (.iload 4, 2) := by decide +kernel
theorem dX7_placeIn_33 : decode cX7_placeIn 33 = .ok (.aload_n 0, 1) := by decide +kernel
theorem dX7_placeIn_34 : decode cX7_placeIn 34 = .ok (.getfield 72, 3) := by decide +kernel
theorem dX7_placeIn_37 : decode cX7_placeIn 37 = .ok (.if_icmp .ge 38, 3) := by decide +kernel
theorem dX7_placeIn_40 : decode cX7_placeIn 40 = .ok (.iload_n 3, 1) := by decide +kernel
theorem dX7_placeIn_41 : decode cX7_placeIn 41 = .ok (.ifCond .eq 34, 3) := by decide +kernel
theorem dX7_placeIn_44 : decode cX7_placeIn 44 = .ok (.aload_n 0, 1) := by decide +kernel
theorem dX7_placeIn_45 : decode cX7_placeIn 45 = .ok (.iload_n 1, 1) := by decide +kernel
theorem dX7_placeIn_46 : decode cX7_placeIn 46 = .ok (.iload_n 2, 1) := by decide +kernel
theorem dX7_placeIn_47 : decode cX7_placeIn 47 = .ok (.iload 4, 2) := by decide +kernel
theorem dX7_placeIn_49 : decode cX7_placeIn 49 = .ok (.iadd, 1) := by decide +kernel
theorem dX7_placeIn_50 : decode cX7_placeIn 50 = .ok (.invokevirtual 66, 3) := by decide +kernel
theorem dX7_placeIn_53 : decode cX7_placeIn 53 = .ok (.aload_n 0, 1) := by decide +kernel
theorem dX7_placeIn_54 : decode cX7_placeIn 54 = .ok (.getfield 25, 3) := by decide +kernel
theorem dX7_placeIn_57 : decode cX7_placeIn 57 = .ok (.iload 4, 2) := by decide +kernel
theorem dX7_placeIn_59 : decode cX7_placeIn 59 = .ok (.iaload, 1) := by decide +kernel
theorem dX7_placeIn_60 : decode cX7_placeIn 60 = .ok (.if_icmp .ne 7, 3) := by decide +kernel
theorem dX7_placeIn_63 : decode cX7_placeIn 63 = .ok (.iconst 1, 1) := by decide +kernel
theorem dX7_placeIn_64 : decode cX7_placeIn 64 = .ok (.goto 4, 3) := by decide +kernel
theorem dX7_placeIn_67 : decode cX7_placeIn 67 = .ok (.iconst 0, 1) := by decide +kernel
theorem dX7_placeIn_68 : decode cX7_placeIn 68 = .ok (.istore_n 3, 1) := by decide +kernel
theorem dX7_placeIn_69 : decode cX7_placeIn 69 = .ok (.iinc 4 1, 3) := by decide +kernel
theorem dX7_placeIn_72 : decode cX7_placeIn 72 = .ok (.goto (-41), 3) := by decide +kernel
theorem dX7_placeIn_75 : decode cX7_placeIn 75 = .ok (.iload_n 3, 1) := by decide +kernel
theorem dX7_placeIn_76 : decode cX7_placeIn 76 = .ok (.ifCond .eq 5, 3) := by decide +kernel
theorem dX7_placeIn_79 : decode cX7_placeIn 79 = .ok (.iload_n 2, 1) := by decide +kernel
theorem dX7_placeIn_80 : decode cX7_placeIn 80 = .ok (.ireturn, 1) := by decide +kernel
theorem dX7_placeIn_81 : decode cX7_placeIn 81 = .ok (.iinc 2 1, 3) := by decide +kernel
theorem dX7_placeIn_84 : decode cX7_placeIn 84 = .ok (.goto (-82), 3) := by decide +kernel
theorem dX7_placeIn_87 : decode cX7_placeIn 87 = .ok (.bipush (-6), 2) := by decide +kernel
theorem dX7_placeIn_89 : decode cX7_placeIn 89 = .ok (.ireturn, 1) := by decide +kernel
theorem dX7_isAheadByName_0 : decode cX7_isAheadByName 0 = .ok (.iconst 0, 1) := by decide +kernel
theorem dX7_isAheadByName_1 : decode cX7_isAheadByName 1 = .ok (.istore_n 3, 1) := by decide +kernel
theorem dX7_isAheadByName_2 : decode cX7_isAheadByName 2 = .ok (.iload_n 3, 1) := by decide +kernel
theorem dX7_isAheadByName_3 : decode cX7_isAheadByName 3 = .ok (.aload_n 0, 1) := by decide +kernel
theorem dX7_isAheadByName_4 : decode cX7_isAheadByName 4 = .ok (.iload_n 1, 1) := by decide +kernel
theorem dX7_isAheadByName_5 : decode cX7_isAheadByName 5 = .ok (.invokevirtual 58, 3) := by decide +kernel
theorem dX7_isAheadByName_8 : decode cX7_isAheadByName 8 = .ok (.if_icmp .ge 33, 3) := by decide +kernel
theorem dX7_isAheadByName_11 : decode cX7_isAheadByName 11 = .ok (.iload_n 3, 1) := by decide +kernel
theorem dX7_isAheadByName_12 : decode cX7_isAheadByName 12 = .ok (.aload_n 0, 1) := by decide +kernel
theorem dX7_isAheadByName_13 : decode cX7_isAheadByName 13 = .ok (.iload_n 2, 1) := by decide +kernel
theorem dX7_isAheadByName_14 : decode cX7_isAheadByName 14 = .ok (.invokevirtual 58, 3) := by decide +kernel
theorem dX7_isAheadByName_17 : decode cX7_isAheadByName 17 = .ok (.if_icmp .ge 24, 3) := by decide +kernel
theorem dX7_isAheadByName_20 : decode cX7_isAheadByName 20 = .ok (.aload_n 0, 1) := by decide +kernel
theorem dX7_isAheadByName_21 : decode cX7_isAheadByName 21 = .ok (.iload_n 1, 1) := by decide +kernel
theorem dX7_isAheadByName_22 : decode cX7_isAheadByName 22 = .ok (.iload_n 3, 1) := by decide +kernel
theorem dX7_isAheadByName_23 : decode cX7_isAheadByName 23 = .ok (.invokevirtual 55, 3) := by decide +kernel
theorem dX7_isAheadByName_26 : decode cX7_isAheadByName 26 = .ok (.aload_n 0, 1) := by decide +kernel
theorem dX7_isAheadByName_27 : decode cX7_isAheadByName 27 = .ok (.iload_n 2, 1) := by decide +kernel
theorem dX7_isAheadByName_28 : decode cX7_isAheadByName 28 = .ok (.iload_n 3, 1) := by decide +kernel
theorem dX7_isAheadByName_29 : decode cX7_isAheadByName 29 = .ok (.invokevirtual 55, 3) := by decide +kernel
theorem dX7_isAheadByName_32 : decode cX7_isAheadByName 32 = .ok (.if_icmp .ne 9, 3) := by decide +kernel
theorem dX7_isAheadByName_35 : decode cX7_isAheadByName 35 = .ok (.iinc 3 1, 3) := by decide +kernel
theorem dX7_isAheadByName_38 : decode cX7_isAheadByName 38 = .ok (.goto (-36), 3) := by decide +kernel
theorem dX7_isAheadByName_41 : decode cX7_isAheadByName 41 = .ok (.iload_n 3, 1) := by decide +kernel
theorem dX7_isAheadByName_42 : decode cX7_isAheadByName 42 = .ok (.aload_n 0, 1) := by decide +kernel
theorem dX7_isAheadByName_43 : decode cX7_isAheadByName 43 = .ok (.iload_n 1, 1) := by decide +kernel
theorem dX7_isAheadByName_44 : decode cX7_isAheadByName 44 = .ok (.invokevirtual 58, 3) := by decide +kernel
theorem dX7_isAheadByName_47 : decode cX7_isAheadByName 47 = .ok (.if_icmp .eq 27, 3) := by decide +kernel
theorem dX7_isAheadByName_50 : decode cX7_isAheadByName 50 = .ok (.iload_n 3, 1) := by decide +kernel
theorem dX7_isAheadByName_51 : decode cX7_isAheadByName 51 = .ok (.aload_n 0, 1) := by decide +kernel
theorem dX7_isAheadByName_52 : decode cX7_isAheadByName 52 = .ok (.iload_n 2, 1) := by decide +kernel
theorem dX7_isAheadByName_53 : decode cX7_isAheadByName 53 = .ok (.invokevirtual 58, 3) := by decide +kernel
theorem dX7_isAheadByName_56 : decode cX7_isAheadByName 56 = .ok (.if_icmp .ge 22, 3) := by decide +kernel
theorem dX7_isAheadByName_59 : decode cX7_isAheadByName 59 = .ok (.aload_n 0, 1) := by decide +kernel
theorem dX7_isAheadByName_60 : decode cX7_isAheadByName 60 = .ok (.iload_n 1, 1) := by decide +kernel
theorem dX7_isAheadByName_61 : decode cX7_isAheadByName 61 = .ok (.iload_n 3, 1) := by decide +kernel
theorem dX7_isAheadByName_62 : decode cX7_isAheadByName 62 = .ok (.invokevirtual 55, 3) := by decide +kernel
theorem dX7_isAheadByName_65 : decode cX7_isAheadByName 65 = .ok (.aload_n 0, 1) := by decide +kernel
theorem dX7_isAheadByName_66 : decode cX7_isAheadByName 66 = .ok (.iload_n 2, 1) := by decide +kernel
theorem dX7_isAheadByName_67 : decode cX7_isAheadByName 67 = .ok (.iload_n 3, 1) := by decide +kernel
theorem dX7_isAheadByName_68 : decode cX7_isAheadByName 68 = .ok (.invokevirtual 55, 3) := by decide +kernel
theorem dX7_isAheadByName_71 : decode cX7_isAheadByName 71 = .ok (.if_icmp .ge 7, 3) := by decide +kernel
theorem dX7_isAheadByName_74 : decode cX7_isAheadByName 74 = .ok (.iconst 1, 1) := by decide +kernel
theorem dX7_isAheadByName_75 : decode cX7_isAheadByName 75 = .ok (.goto 4, 3) := by decide +kernel
theorem dX7_isAheadByName_78 : decode cX7_isAheadByName 78 = .ok (.iconst 0, 1) := by decide +kernel
theorem dX7_isAheadByName_79 : decode cX7_isAheadByName 79 = .ok (.ireturn, 1) := by decide +kernel
theorem dX7_isAheadByPlace_0 : decode cX7_isAheadByPlace 0 = .ok (.aload_n 0, 1) := by decide +kernel
theorem dX7_isAheadByPlace_1 : decode cX7_isAheadByPlace 1 = .ok (.getfield 31, 3) := by decide +kernel
theorem dX7_isAheadByPlace_4 : decode cX7_isAheadByPlace 4 = .ok (.iload_n 1, 1) := by decide +kernel
theorem dX7_isAheadByPlace_5 : decode cX7_isAheadByPlace 5 = .ok (.iaload, 1) := by decide +kernel
theorem dX7_isAheadByPlace_6 : decode cX7_isAheadByPlace 6 = .ok (.aload_n 0, 1) := by decide +kernel
theorem dX7_isAheadByPlace_7 : decode cX7_isAheadByPlace 7 = .ok (.getfield 31, 3) := by decide +kernel
theorem dX7_isAheadByPlace_10 : decode cX7_isAheadByPlace 10 = .ok (.iload_n 2, 1) := by decide +kernel
theorem dX7_isAheadByPlace_11 : decode cX7_isAheadByPlace 11 = .ok (.iaload, 1) := by decide +kernel
theorem dX7_isAheadByPlace_12 : decode cX7_isAheadByPlace 12 = .ok (.if_icmp .eq 24, 3) := by decide +kernel
theorem dX7_isAheadByPlace_15 : decode cX7_isAheadByPlace 15 = .ok (.aload_n 0, 1) := by decide +kernel
theorem dX7_isAheadByPlace_16 : decode cX7_isAheadByPlace 16 = .ok (.getfield 31, 3) := by decide +kernel
theorem dX7_isAheadByPlace_19 : decode cX7_isAheadByPlace 19 = .ok (.iload_n 1, 1) := by decide +kernel
theorem dX7_isAheadByPlace_20 : decode cX7_isAheadByPlace 20 = .ok (.iaload, 1) := by decide +kernel
theorem dX7_isAheadByPlace_21 : decode cX7_isAheadByPlace 21 = .ok (.aload_n 0, 1) := by decide +kernel
theorem dX7_isAheadByPlace_22 : decode cX7_isAheadByPlace 22 = .ok (.getfield 31, 3) := by decide +kernel
theorem dX7_isAheadByPlace_25 : decode cX7_isAheadByPlace 25 = .ok (.iload_n 2, 1) := by decide +kernel
theorem dX7_isAheadByPlace_26 : decode cX7_isAheadByPlace 26 = .ok (.iaload, 1) := by decide +kernel
theorem dX7_isAheadByPlace_27 : decode cX7_isAheadByPlace 27 = .ok (.if_icmp .ge 7, 3) := by decide +kernel
theorem dX7_isAheadByPlace_30 : decode cX7_isAheadByPlace 30 = .ok (.iconst 1, 1) := by decide +kernel
theorem dX7_isAheadByPlace_31 : decode cX7_isAheadByPlace 31 = .ok (.goto 4, 3) := by decide +kernel
theorem dX7_isAheadByPlace_34 : decode cX7_isAheadByPlace 34 = .ok (.iconst 0, 1) := by decide +kernel
theorem dX7_isAheadByPlace_35 : decode cX7_isAheadByPlace 35 = .ok (.ireturn, 1) := by decide +kernel
theorem dX7_isAheadByPlace_36 : decode cX7_isAheadByPlace 36 = .ok (.aload_n 0, 1) := by decide +kernel
theorem dX7_isAheadByPlace_37 : decode cX7_isAheadByPlace 37 = .ok (.iload_n 1, 1) := by decide +kernel
theorem dX7_isAheadByPlace_38 : decode cX7_isAheadByPlace 38 = .ok (.invokevirtual 58, 3) := by decide +kernel
theorem dX7_isAheadByPlace_41 : decode cX7_isAheadByPlace 41 = .ok (.aload_n 0, 1) := by decide +kernel
theorem dX7_isAheadByPlace_42 : decode cX7_isAheadByPlace 42 = .ok (.iload_n 2, 1) := by decide +kernel
theorem dX7_isAheadByPlace_43 : decode cX7_isAheadByPlace 43 = .ok (.invokevirtual 58, 3) := by decide +kernel
theorem dX7_isAheadByPlace_46 : decode cX7_isAheadByPlace 46 = .ok (.if_icmp .eq 24, 3) := by decide +kernel
theorem dX7_isAheadByPlace_49 : decode cX7_isAheadByPlace 49 = .ok (.aload_n 0, 1) := by decide +kernel
theorem dX7_isAheadByPlace_50 : decode cX7_isAheadByPlace 50 = .ok (.iload_n 1, 1) := by decide +kernel
theorem dX7_isAheadByPlace_51 : decode cX7_isAheadByPlace 51 = .ok (.invokevirtual 58, 3) := by decide +kernel
theorem dX7_isAheadByPlace_54 : decode cX7_isAheadByPlace 54 = .ok (.aload_n 0, 1) := by decide +kernel
theorem dX7_isAheadByPlace_55 : decode cX7_isAheadByPlace 55 = .ok (.iload_n 2, 1) := by decide +kernel
theorem dX7_isAheadByPlace_56 : decode cX7_isAheadByPlace 56 = .ok (.invokevirtual 58, 3) := by decide +kernel
theorem dX7_isAheadByPlace_59 : decode cX7_isAheadByPlace 59 = .ok (.if_icmp .ge 7, 3) := by decide +kernel
theorem dX7_isAheadByPlace_62 : decode cX7_isAheadByPlace 62 = .ok (.iconst 1, 1) := by decide +kernel
theorem dX7_isAheadByPlace_63 : decode cX7_isAheadByPlace 63 = .ok (.goto 17, 3) := by decide +kernel
theorem dX7_isAheadByPlace_66 : decode cX7_isAheadByPlace 66 = .ok (.iconst 0, 1) := by decide +kernel
theorem dX7_isAheadByPlace_67 : decode cX7_isAheadByPlace 67 = .ok (.goto 13, 3) := by decide +kernel
theorem dX7_isAheadByPlace_70 : decode cX7_isAheadByPlace 70 = .ok (.iload_n 1, 1) := by decide +kernel
theorem dX7_isAheadByPlace_71 : decode cX7_isAheadByPlace 71 = .ok (.iload_n 2, 1) := by decide +kernel
theorem dX7_isAheadByPlace_72 : decode cX7_isAheadByPlace 72 = .ok (.if_icmp .ge 7, 3) := by decide +kernel
theorem dX7_isAheadByPlace_75 : decode cX7_isAheadByPlace 75 = .ok (.iconst 1, 1) := by decide +kernel
theorem dX7_isAheadByPlace_76 : decode cX7_isAheadByPlace 76 = .ok (.goto 4, 3) := by decide +kernel
theorem dX7_isAheadByPlace_79 : decode cX7_isAheadByPlace 79 = .ok (.iconst 0, 1) := by decide +kernel
theorem dX7_isAheadByPlace_80 : decode cX7_isAheadByPlace 80 = .ok (.ireturn, 1) := by decide +kernel
theorem dX7_isAhead_0 : decode cX7_isAhead 0 = .ok (.aload_n 0, 1) := by decide +kernel
theorem dX7_isAhead_1 : decode cX7_isAhead 1 = .ok (.getfield 7, 3) := by decide +kernel
theorem dX7_isAhead_4 : decode cX7_isAhead 4 = .ok (.iconst 2, 1) := by decide +kernel
theorem dX7_isAhead_5 : decode cX7_isAhead 5 = .ok (.iaload, 1) := by decide +kernel
theorem dX7_isAhead_6 : decode cX7_isAhead 6 = .ok (.iconst 2, 1) := by decide +kernel
theorem dX7_isAhead_7 : decode cX7_isAhead 7 = .ok (.if_icmp .ne 10, 3) := by decide +kernel
theorem dX7_isAhead_10 : decode cX7_isAhead 10 = .ok (.aload_n 0, 1) := by decide +kernel
theorem dX7_isAhead_11 : decode cX7_isAhead 11 = .ok (.iload_n 1, 1) := by decide +kernel
theorem dX7_isAhead_12 : decode cX7_isAhead 12 = .ok (.iload_n 2, 1) := by decide +kernel
theorem dX7_isAhead_13 : decode cX7_isAhead 13 = .ok (.invokevirtual 78, 3) := by decide +kernel
theorem dX7_isAhead_16 : decode cX7_isAhead 16 = .ok (.ireturn, 1) := by decide +kernel
theorem dX7_isAhead_17 : decode cX7_isAhead 17 = .ok (.aload_n 0, 1) := by decide +kernel
theorem dX7_isAhead_18 : decode cX7_isAhead 18 = .ok (.getfield 7, 3) := by decide +kernel
theorem dX7_isAhead_21 : decode cX7_isAhead 21 = .ok (.iconst 2, 1) := by decide +kernel
theorem dX7_isAhead_22 : decode cX7_isAhead 22 = .ok (.iaload, 1) := by decide +kernel
theorem dX7_isAhead_23 : decode cX7_isAhead 23 = .ok (.iconst 1, 1) := by decide +kernel
theorem dX7_isAhead_24 : decode cX7_isAhead 24 = .ok (.if_icmp .ne 41, 3) := by decide +kernel
theorem dX7_isAhead_27 : decode cX7_isAhead 27 = .ok (.aload_n 0, 1) := by decide +kernel
theorem dX7_isAhead_28 : decode cX7_isAhead 28 = .ok (.iload_n 1, 1) := by decide +kernel
theorem dX7_isAhead_29 : decode cX7_isAhead 29 = .ok (.iconst 1, 1) := by decide +kernel
theorem dX7_isAhead_30 : decode cX7_isAhead 30 = .ok (.invokevirtual 51, 3) := by decide +kernel
theorem dX7_isAhead_33 : decode cX7_isAhead 33 = .ok (.aload_n 0, 1) := by decide +kernel
theorem dX7_isAhead_34 : decode cX7_isAhead 34 = .ok (.iload_n 2, 1) := by decide +kernel
theorem dX7_isAhead_35 : decode cX7_isAhead 35 = .ok (.iconst 1, 1) := by decide +kernel
theorem dX7_isAhead_36 : decode cX7_isAhead 36 = .ok (.invokevirtual 51, 3) := by decide +kernel
theorem dX7_isAhead_39 : decode cX7_isAhead 39 = .ok (.if_icmp .eq 26, 3) := by decide +kernel
theorem dX7_isAhead_42 : decode cX7_isAhead 42 = .ok (.aload_n 0, 1) := by decide +kernel
theorem dX7_isAhead_43 : decode cX7_isAhead 43 = .ok (.iload_n 1, 1) := by decide +kernel
theorem dX7_isAhead_44 : decode cX7_isAhead 44 = .ok (.iconst 1, 1) := by decide +kernel
theorem dX7_isAhead_45 : decode cX7_isAhead 45 = .ok (.invokevirtual 51, 3) := by decide +kernel
theorem dX7_isAhead_48 : decode cX7_isAhead 48 = .ok (.aload_n 0, 1) := by decide +kernel
theorem dX7_isAhead_49 : decode cX7_isAhead 49 = .ok (.iload_n 2, 1) := by decide +kernel
theorem dX7_isAhead_50 : decode cX7_isAhead 50 = .ok (.iconst 1, 1) := by decide +kernel
theorem dX7_isAhead_51 : decode cX7_isAhead 51 = .ok (.invokevirtual 51, 3) := by decide +kernel
theorem dX7_isAhead_54 : decode cX7_isAhead 54 = .ok (.if_icmp .le 7, 3) := by decide +kernel
theorem dX7_isAhead_57 : decode cX7_isAhead 57 = .ok (.iconst 1, 1) := by decide +kernel
theorem dX7_isAhead_58 : decode cX7_isAhead 58 = .ok (.goto 13, 3) := by decide +kernel
theorem dX7_isAhead_61 : decode cX7_isAhead 61 = .ok (.iconst 0, 1) := by decide +kernel
theorem dX7_isAhead_62 : decode cX7_isAhead 62 = .ok (.goto 9, 3) := by decide +kernel
theorem dX7_isAhead_65 : decode cX7_isAhead 65 = .ok (.aload_n 0, 1) := by decide +kernel
theorem dX7_isAhead_66 : decode cX7_isAhead 66 = .ok (.iload_n 1, 1) := by decide +kernel
theorem dX7_isAhead_67 : decode cX7_isAhead 67 = .ok (.iload_n 2, 1) := by decide +kernel
theorem dX7_isAhead_68 : decode cX7_isAhead 68 = .ok (.invokevirtual 81, 3) := by decide +kernel
theorem dX7_isAhead_71 : decode cX7_isAhead 71 = .ok (.ireturn, 1) := by decide +kernel
theorem dX7_findPlaces_0 : decode cX7_findPlaces 0 = .ok (.iconst 0, 1) := by decide +kernel
theorem dX7_findPlaces_1 : decode cX7_findPlaces 1 = .ok (.istore_n 1, 1) := by decide +kernel
theorem dX7_findPlaces_2 : decode cX7_findPlaces 2 = .ok (.iload_n 1, 1) := by decide +kernel
theorem dX7_findPlaces_3 : decode cX7_findPlaces 3 = .ok (.aload_n 0, 1) := by decide +kernel
theorem dX7_findPlaces_4 : decode cX7_findPlaces 4 = .ok (.getfield 7, 3) := by decide +kernel
theorem dX7_findPlaces_7 : decode cX7_findPlaces 7 = .ok (.iconst 0, 1) := by decide +kernel
theorem dX7_findPlaces_8 : decode cX7_findPlaces 8 = .ok (.iaload, 1) := by decide +kernel
theorem dX7_findPlaces_9 : decode cX7_findPlaces 9 = .ok (.if_icmp .ge 31, 3) := by decide +kernel
theorem dX7_findPlaces_12 : decode cX7_findPlaces 12 = .ok (.aload_n 0, 1) := by decide +kernel
theorem dX7_findPlaces_13 : decode cX7_findPlaces 13 = .ok (.getfield 31, 3) := by decide +kernel
theorem dX7_findPlaces_16 : decode cX7_findPlaces 16 = .ok (.iload_n 1, 1) := by decide +kernel
theorem dX7_findPlaces_17 : decode cX7_findPlaces 17 = .ok (.aload_n 0, 1) := by decide +kernel
theorem dX7_findPlaces_18 : decode cX7_findPlaces 18 = .ok (.getfield 72, 3) := by decide +kernel
theorem dX7_findPlaces_21 : decode cX7_findPlaces 21 = .ok (.ifCond .ne 7, 3) := by decide +kernel
theorem dX7_findPlaces_24 : decode cX7_findPlaces 24 = .ok (.iconst 0, 1) := by decide +kernel
theorem dX7_findPlaces_25 : decode cX7_findPlaces 25 = .ok (.goto 8, 3) := by decide +kernel
theorem dX7_findPlaces_28 : decode cX7_findPlaces 28 = .ok (.aload_n 0, 1) := by decide +kernel
theorem dX7_findPlaces_29 : decode cX7_findPlaces 29 = .ok (.iload_n 1, 1) := by decide +kernel
theorem dX7_findPlaces_30 : decode cX7_findPlaces 30 = .ok (.invokevirtual 84, 3) := by decide +kernel
theorem dX7_findPlaces_33 : decode cX7_findPlaces 33 = .ok (.iastore, 1) := by decide +kernel
theorem dX7_findPlaces_34 : decode cX7_findPlaces 34 = .ok (.iinc 1 1, 3) := by decide +kernel
theorem dX7_findPlaces_37 : decode cX7_findPlaces 37 = .ok (.goto (-35), 3) := by decide +kernel
theorem dX7_findPlaces_40 : decode cX7_findPlaces 40 = .ok (.return_, 1) := by decide +kernel
theorem dX7_findResults_0 : decode cX7_findResults 0 = .ok (.aload_n 0, 1) := by decide +kernel
theorem dX7_findResults_1 : decode cX7_findResults 1 = .ok (.invokevirtual 87, 3) := by decide +kernel
theorem dX7_findResults_4 : decode cX7_findResults 4 = .ok (.aload_n 0, 1) := by decide +kernel
theorem dX7_findResults_5 : decode cX7_findResults 5 = .ok (.aload_n 0, 1) := by decide +kernel
theorem dX7_findResults_6 : decode cX7_findResults 6 = .ok (.getfield 7, 3) := by decide +kernel
theorem dX7_findResults_9 : decode cX7_findResults 9 = .ok (.iconst 3, 1) := by decide +kernel
theorem dX7_findResults_10 : decode cX7_findResults 10 = .ok (.iaload, 1) := by decide +kernel
theorem dX7_findResults_11 : decode cX7_findResults 11 = .ok (.putfield 72, 3) := by decide +kernel
theorem dX7_findResults_14 : decode cX7_findResults 14 = .ok (.aload_n 0, 1) := by decide +kernel
theorem dX7_findResults_15 : decode cX7_findResults 15 = .ok (.dup, 1) := by decide +kernel
theorem dX7_findResults_16 : decode cX7_findResults 16 = .ok (.getfield 72, 3) := by decide +kernel
theorem dX7_findResults_19 : decode cX7_findResults 19 = .ok (.aload_n 0, 1) := by decide +kernel
theorem dX7_findResults_20 : decode cX7_findResults 20 = .ok (.getfield 72, 3) := by decide +kernel
theorem dX7_findResults_23 : decode cX7_findResults 23 = .ok (.ifCond .le 25, 3) := by decide +kernel
theorem dX7_findResults_26 : decode cX7_findResults 26 = .ok (.aload_n 0, 1) := by decide +kernel
theorem dX7_findResults_27 : decode cX7_findResults 27 = .ok (.getfield 7, 3) := by decide +kernel
theorem dX7_findResults_30 : decode cX7_findResults 30 = .ok (.iconst 4, 1) := by decide +kernel
theorem dX7_findResults_31 : decode cX7_findResults 31 = .ok (.aload_n 0, 1) := by decide +kernel
theorem dX7_findResults_32 : decode cX7_findResults 32 = .ok (.getfield 72, 3) := by decide +kernel
theorem dX7_findResults_35 : decode cX7_findResults 35 = .ok (.iadd, 1) := by decide +kernel
theorem dX7_findResults_36 : decode cX7_findResults 36 = .ok (.iconst 1, 1) := by decide +kernel
theorem dX7_findResults_37 : decode cX7_findResults 37 = .ok (.isub, 1) := by decide +kernel
theorem dX7_findResults_38 : decode cX7_findResults 38 = .ok (.iaload, 1) := by decide +kernel
theorem dX7_findResults_39 : decode cX7_findResults 39 = .ok (.bipush 32, 2) := by decide +kernel
theorem dX7_findResults_41 : decode cX7_findResults 41 = .ok (.if_icmp .ne 7, 3) := by decide +kernel
theorem dX7_findResults_44 : decode cX7_findResults 44 = .ok (.iconst 1, 1) := by decide +kernel
theorem dX7_findResults_45 : decode cX7_findResults 45 = .ok (.goto 4, 3) := by decide +kernel
theorem dX7_findResults_48 : decode cX7_findResults 48 = .ok (.iconst 0, 1) := by decide +kernel
theorem dX7_findResults_49 : decode cX7_findResults 49 = .ok (.isub, 1) := by decide +kernel
theorem dX7_findResults_50 : decode cX7_findResults 50 = .ok (.putfield 72, 3) := by decide +kernel
theorem dX7_findResults_53 : decode cX7_findResults 53 = .ok (.iconst 0, 1) := by decide +kernel
theorem dX7_findResults_54 : decode cX7_findResults 54 = .ok (.istore_n 1, 1) := by decide +kernel
theorem dX7_findResults_55 : decode cX7_findResults 55 = .ok (.iload_n 1, 1) := by decide +kernel
theorem dX7_findResults_56 : decode cX7_findResults 56 = .ok (.aload_n 0, 1) := by decide +kernel
theorem dX7_findResults_57 : decode cX7_findResults 57 = .ok (.getfield 72, 3) := by decide +kernel
theorem dX7_findResults_60 : decode cX7_findResults 60 = .ok (.if_icmp .ge 23, 3) := by decide +kernel
theorem dX7_findResults_63 : decode cX7_findResults 63 = .ok (.aload_n 0, 1) := by decide +kernel
theorem dX7_findResults_64 : decode cX7_findResults 64 = .ok (.getfield 25, 3) := by decide +kernel
theorem dX7_findResults_67 : decode cX7_findResults 67 = .ok (.iload_n 1, 1) := by decide +kernel
theorem dX7_findResults_68 : decode cX7_findResults 68 = .ok (.aload_n 0, 1) := by decide +kernel
theorem dX7_findResults_69 : decode cX7_findResults 69 = .ok (.getfield 7, 3) := by decide +kernel
theorem dX7_findResults_72 : decode cX7_findResults 72 = .ok (.iconst 4, 1) := by decide +kernel
theorem dX7_findResults_73 : decode cX7_findResults 73 = .ok (.iload_n 1, 1) := by decide +kernel
theorem dX7_findResults_74 : decode cX7_findResults 74 = .ok (.iadd, 1) := by decide +kernel
theorem dX7_findResults_75 : decode cX7_findResults 75 = .ok (.iaload, 1) := by decide +kernel
theorem dX7_findResults_76 : decode cX7_findResults 76 = .ok (.iastore, 1) := by decide +kernel
theorem dX7_findResults_77 : decode cX7_findResults 77 = .ok (.iinc 1 1, 3) := by decide +kernel
theorem dX7_findResults_80 : decode cX7_findResults 80 = .ok (.goto (-25), 3) := by decide +kernel
theorem dX7_findResults_83 : decode cX7_findResults 83 = .ok (.aload_n 0, 1) := by decide +kernel
theorem dX7_findResults_84 : decode cX7_findResults 84 = .ok (.invokevirtual 90, 3) := by decide +kernel
theorem dX7_findResults_87 : decode cX7_findResults 87 = .ok (.aload_n 0, 1) := by decide +kernel
theorem dX7_findResults_88 : decode cX7_findResults 88 = .ok (.iconst 0, 1) := by decide +kernel
theorem dX7_findResults_89 : decode cX7_findResults 89 = .ok (.putfield 93, 3) := by decide +kernel
theorem dX7_findResults_92 : decode cX7_findResults 92 = .ok (.iconst 0, 1) := by decide +kernel
theorem dX7_findResults_93 : decode cX7_findResults 93 = .ok (.istore_n 1, 1) := by decide +kernel
theorem dX7_findResults_94 : decode cX7_findResults 94 = .ok (.iload_n 1, 1) := by decide +kernel
theorem dX7_findResults_95 : decode cX7_findResults 95 = .ok (.aload_n 0, 1) := by decide +kernel
theorem dX7_findResults_96 : decode cX7_findResults 96 = .ok (.getfield 7, 3) := by decide +kernel
theorem dX7_findResults_99 : decode cX7_findResults 99 = .ok (.iconst 0, 1) := by decide +kernel
theorem dX7_findResults_100 : decode cX7_findResults 100 = .ok (.iaload, 1) := by decide +kernel
theorem dX7_findResults_101 : decode cX7_findResults 101 = .ok (.if_icmp .ge 82, 3) := by decide +kernel
theorem dX7_findResults_104 : decode cX7_findResults 104 = .ok (.aload_n 0, 1) := by decide +kernel
theorem dX7_findResults_105 : decode cX7_findResults 105 = .ok (.getfield 31, 3) := by decide +kernel
theorem dX7_findResults_108 : decode cX7_findResults 108 = .ok (.iload_n 1, 1) := by decide +kernel
theorem dX7_findResults_109 : decode cX7_findResults 109 = .ok (.iaload, 1) := by decide +kernel
theorem dX7_findResults_110 : decode cX7_findResults 110 = .ok (.bipush (-6), 2) := by decide +kernel
theorem dX7_findResults_112 : decode cX7_findResults 112 = .ok (.if_icmp .eq 65, 3) := by decide +kernel
theorem dX7_findResults_115 : decode cX7_findResults 115 = .ok (.aload_n 0, 1) := by decide +kernel
theorem dX7_findResults_116 : decode cX7_findResults 116 = .ok (.getfield 93, 3) := by decide +kernel
theorem dX7_findResults_119 : decode cX7_findResults 119 = .ok (.istore_n 2, 1) := by decide +kernel
theorem dX7_findResults_120 : decode cX7_findResults 120 = .ok (.iload_n 2, 1) := by decide +kernel
theorem dX7_findResults_121 : decode cX7_findResults 121 = .ok (.ifCond .le 39, 3) := by decide +kernel
theorem dX7_findResults_124 : decode cX7_findResults 124 = .ok (.aload_n 0, 1) := by decide +kernel
theorem dX7_findResults_125 : decode cX7_findResults 125 = .ok (.iload_n 1, 1) := by decide +kernel
theorem dX7_findResults_126 : decode cX7_findResults 126 = .ok (.aload_n 0, 1) := by decide +kernel
theorem dX7_findResults_127 : decode cX7_findResults 127 = .ok (.getfield 28, 3) := by decide +kernel
theorem dX7_findResults_130 : decode cX7_findResults 130 = .ok (.iload_n 2, 1) := by decide +kernel
theorem dX7_findResults_131 : decode cX7_findResults 131 = .ok (.iconst 1, 1) := by decide +kernel
theorem dX7_findResults_132 : decode cX7_findResults 132 = .ok (.isub, 1) := by decide +kernel
theorem dX7_findResults_133 : decode cX7_findResults 133 = .ok (.iaload, 1) := by decide +kernel
theorem dX7_findResults_134 : decode cX7_findResults 134 = .ok (.invokevirtual 96, 3) := by decide +kernel
theorem dX7_findResults_137 : decode cX7_findResults 137 = .ok (.ifCond .eq 23, 3) := by decide +kernel
theorem dX7_findResults_140 : decode cX7_findResults 140 = .ok (.aload_n 0, 1) := by decide +kernel
theorem dX7_findResults_141 : decode cX7_findResults 141 = .ok (.getfield 28, 3) := by decide +kernel
theorem dX7_findResults_144 : decode cX7_findResults 144 = .ok (.iload_n 2, 1) := by decide +kernel
theorem dX7_findResults_145 : decode cX7_findResults 145 = .ok (.aload_n 0, 1) := by decide +kernel
theorem dX7_findResults_146 : decode cX7_findResults 146 = .ok (.getfield 28, 3) := by decide +kernel
theorem dX7_findResults_149 : decode cX7_findResults 149 = .ok (.iload_n 2, 1) := by decide +kernel
theorem dX7_findResults_150 : decode cX7_findResults 150 = .ok (.iconst 1, 1) := by decide +kernel
theorem dX7_findResults_151 : decode cX7_findResults 151 = .ok (.isub, 1) := by decide +kernel
theorem dX7_findResults_152 : decode cX7_findResults 152 = .ok (.iaload, 1) := by decide +kernel
theorem dX7_findResults_153 : decode cX7_findResults 153 = .ok (.iastore, 1) := by decide +kernel
theorem dX7_findResults_154 : decode cX7_findResults 154 = .ok (.iinc 2 (-1), 3) := by decide +kernel
theorem dX7_findResults_157 : decode cX7_findResults 157 = .ok (.goto (-37), 3) := by decide +kernel
theorem dX7_findResults_160 : decode cX7_findResults 160 = .ok (.aload_n 0, 1) := by decide +kernel
theorem dX7_findResults_161 : decode cX7_findResults 161 = .ok (.getfield 28, 3) := by decide +kernel
theorem dX7_findResults_164 : decode cX7_findResults 164 = .ok (.iload_n 2, 1) := by decide +kernel
theorem dX7_findResults_165 : decode cX7_findResults 165 = .ok (.iload_n 1, 1) := by decide +kernel
theorem dX7_findResults_166 : decode cX7_findResults 166 = .ok (.iastore, 1) := by decide +kernel
theorem dX7_findResults_167 : decode cX7_findResults 167 = .ok (.aload_n 0, 1) := by decide +kernel
theorem dX7_findResults_168 : decode cX7_findResults 168 = .ok (.dup, 1) := by decide +kernel
theorem dX7_findResults_169 : decode cX7_findResults 169 = .ok (.getfield 93, 3) := by decide +kernel
theorem dX7_findResults_172 : decode cX7_findResults 172 = .ok (.iconst 1, 1) := by decide +kernel
theorem dX7_findResults_173 : decode cX7_findResults 173 = .ok (.iadd, 1) := by decide +kernel
theorem dX7_findResults_174 : decode cX7_findResults 174 = .ok (.putfield 93, 3) := by decide +kernel
theorem dX7_findResults_177 : decode cX7_findResults 177 = .ok (.iinc 1 1, 3) := by decide +kernel
theorem dX7_findResults_180 : decode cX7_findResults 180 = .ok (.goto (-86), 3) := by decide +kernel
theorem dX7_findResults_183 : decode cX7_findResults 183 = .ok (.return_, 1) := by decide +kernel
theorem dX7_isAlone_0 : decode cX7_isAlone 0 = .ok (.iconst 1, 1) := by decide +kernel
theorem dX7_isAlone_1 : decode cX7_isAlone 1 = .ok (.istore_n 2, 1) := by decide +kernel
theorem dX7_isAlone_2 : decode cX7_isAlone 2 = .ok (.iconst 0, 1) := by decide +kernel
theorem dX7_isAlone_3 : decode cX7_isAlone 3 = .ok (.istore_n 3, 1) := by decide +kernel
theorem dX7_isAlone_4 : decode cX7_isAlone 4 = .ok (.iload_n 3, 1) := by decide +kernel
theorem dX7_isAlone_5 : decode cX7_isAlone 5 = .ok (.aload_n 0, 1) := by decide +kernel
theorem dX7_isAlone_6 : decode cX7_isAlone 6 = .ok (.getfield 7, 3) := by decide +kernel
theorem dX7_isAlone_9 : decode cX7_isAlone 9 = .ok (.iconst 0, 1) := by decide +kernel
theorem dX7_isAlone_10 : decode cX7_isAlone 10 = .ok (.iaload, 1) := by decide +kernel
theorem dX7_isAlone_11 : decode cX7_isAlone 11 = .ok (.if_icmp .ge 34, 3) := by decide +kernel
theorem dX7_isAlone_14 : decode cX7_isAlone 14 = .ok (.iload_n 2, 1) := by decide +kernel
theorem dX7_isAlone_15 : decode cX7_isAlone 15 = .ok (.ifCond .eq 30, 3) := by decide +kernel
theorem dX7_isAlone_18 : decode cX7_isAlone 18 = .ok (.iload_n 3, 1) := by decide +kernel
theorem dX7_isAlone_19 : decode cX7_isAlone 19 = .ok (.iload_n 1, 1) := by decide +kernel
theorem dX7_isAlone_20 : decode cX7_isAlone 20 = .ok (.if_icmp .eq 13, 3) := by decide +kernel
theorem dX7_isAlone_23 : decode cX7_isAlone 23 = .ok (.aload_n 0, 1) := by decide +kernel
theorem dX7_isAlone_24 : decode cX7_isAlone 24 = .ok (.iload_n 3, 1) := by decide +kernel
theorem dX7_isAlone_25 : decode cX7_isAlone 25 = .ok (.invokevirtual 84, 3) := by decide +kernel
theorem dX7_isAlone_28 : decode cX7_isAlone 28 = .ok (.bipush (-6), 2) := by decide +kernel
theorem dX7_isAlone_30 : decode cX7_isAlone 30 = .ok (.if_icmp .ne 7, 3) := by decide +kernel
theorem dX7_isAlone_33 : decode cX7_isAlone 33 = .ok (.iconst 1, 1) := by decide +kernel
theorem dX7_isAlone_34 : decode cX7_isAlone 34 = .ok (.goto 4, 3) := by decide +kernel
theorem dX7_isAlone_37 : decode cX7_isAlone 37 = .ok (.iconst 0, 1) := by decide +kernel
theorem dX7_isAlone_38 : decode cX7_isAlone 38 = .ok (.istore_n 2, 1) := by decide +kernel
theorem dX7_isAlone_39 : decode cX7_isAlone 39 = .ok (.iinc 3 1, 3) := by decide +kernel
theorem dX7_isAlone_42 : decode cX7_isAlone 42 = .ok (.goto (-38), 3) := by decide +kernel
theorem dX7_isAlone_45 : decode cX7_isAlone 45 = .ok (.iload_n 2, 1) := by decide +kernel
theorem dX7_isAlone_46 : decode cX7_isAlone 46 = .ok (.ireturn, 1) := by decide +kernel
theorem dX7_isFirst_0 : decode cX7_isFirst 0 = .ok (.aload_n 0, 1) := by decide +kernel
theorem dX7_isFirst_1 : decode cX7_isFirst 1 = .ok (.invokevirtual 90, 3) := by decide +kernel
theorem dX7_isFirst_4 : decode cX7_isFirst 4 = .ok (.iconst 1, 1) := by decide +kernel
theorem dX7_isFirst_5 : decode cX7_isFirst 5 = .ok (.istore_n 2, 1) := by decide +kernel
theorem dX7_isFirst_6 : decode cX7_isFirst 6 = .ok (.iconst 0, 1) := by decide +kernel
theorem dX7_isFirst_7 : decode cX7_isFirst 7 = .ok (.istore_n 3, 1) := by decide +kernel
theorem dX7_isFirst_8 : decode cX7_isFirst 8 = .ok (.iload_n 3, 1) := by decide +kernel
theorem dX7_isFirst_9 : decode cX7_isFirst 9 = .ok (.aload_n 0, 1) := by decide +kernel
theorem dX7_isFirst_10 : decode cX7_isFirst 10 = .ok (.getfield 7, 3) := by decide +kernel
theorem dX7_isFirst_13 : decode cX7_isFirst 13 = .ok (.iconst 0, 1) := by decide +kernel
theorem dX7_isFirst_14 : decode cX7_isFirst 14 = .ok (.iaload, 1) := by decide +kernel
theorem dX7_isFirst_15 : decode cX7_isFirst 15 = .ok (.if_icmp .ge 44, 3) := by decide +kernel
theorem dX7_isFirst_18 : decode cX7_isFirst 18 = .ok (.iload_n 2, 1) := by decide +kernel
theorem dX7_isFirst_19 : decode cX7_isFirst 19 = .ok (.ifCond .eq 32, 3) := by decide +kernel
theorem dX7_isFirst_22 : decode cX7_isFirst 22 = .ok (.iload_n 3, 1) := by decide +kernel
theorem dX7_isFirst_23 : decode cX7_isFirst 23 = .ok (.iload_n 1, 1) := by decide +kernel
theorem dX7_isFirst_24 : decode cX7_isFirst 24 = .ok (.if_icmp .eq 23, 3) := by decide +kernel
theorem dX7_isFirst_27 : decode cX7_isFirst 27 = .ok (.aload_n 0, 1) := by decide +kernel
theorem dX7_isFirst_28 : decode cX7_isFirst 28 = .ok (.getfield 31, 3) := by decide +kernel
theorem dX7_isFirst_31 : decode cX7_isFirst 31 = .ok (.iload_n 3, 1) := by decide +kernel
theorem dX7_isFirst_32 : decode cX7_isFirst 32 = .ok (.iaload, 1) := by decide +kernel
theorem dX7_isFirst_33 : decode cX7_isFirst 33 = .ok (.bipush (-6), 2) := by decide +kernel
theorem dX7_isFirst_35 : decode cX7_isFirst 35 = .ok (.if_icmp .eq 12, 3) := by decide +kernel
theorem dX7_isFirst_38 : decode cX7_isFirst 38 = .ok (.aload_n 0, 1) := by decide +kernel
theorem dX7_isFirst_39 : decode cX7_isFirst 39 = .ok (.iload_n 1, 1) := by decide +kernel
theorem dX7_isFirst_40 : decode cX7_isFirst 40 = .ok (.iload_n 3, 1) := by decide +kernel
theorem dX7_isFirst_41 : decode cX7_isFirst 41 = .ok (.invokevirtual 96, 3) := by decide +kernel
theorem dX7_isFirst_44 : decode cX7_isFirst 44 = .ok (.ifCond .eq 7, 3) := by decide +kernel
theorem dX7_isFirst_47 : decode cX7_isFirst 47 = .ok (.iconst 1, 1) := by decide +kernel
theorem dX7_isFirst_48 : decode cX7_isFirst 48 = .ok (.goto 4, 3) := by decide +kernel
theorem dX7_isFirst_51 : decode cX7_isFirst 51 = .ok (.iconst 0, 1) := by decide +kernel
theorem dX7_isFirst_52 : decode cX7_isFirst 52 = .ok (.istore_n 2, 1) := by decide +kernel
theorem dX7_isFirst_53 : decode cX7_isFirst 53 = .ok (.iinc 3 1, 3) := by decide +kernel
theorem dX7_isFirst_56 : decode cX7_isFirst 56 = .ok (.goto (-48), 3) := by decide +kernel
theorem dX7_isFirst_59 : decode cX7_isFirst 59 = .ok (.iload_n 2, 1) := by decide +kernel
theorem dX7_isFirst_60 : decode cX7_isFirst 60 = .ok (.ireturn, 1) := by decide +kernel
theorem dX7_findPiece_0 : decode cX7_findPiece 0 = .ok (.iconst 1, 1) := by decide +kernel
theorem dX7_findPiece_1 : decode cX7_findPiece 1 = .ok (.istore_n 3, 1) := by decide +kernel
theorem dX7_findPiece_2 : decode cX7_findPiece 2 = .ok (.iload_n 3, 1) := by decide +kernel
theorem dX7_findPiece_3 : decode cX7_findPiece 3 = .ok (.aload_n 0, 1) := by decide +kernel
theorem dX7_findPiece_4 : decode cX7_findPiece 4 = .ok (.getfield 22, 3) := by decide +kernel
theorem dX7_findPiece_7 : decode cX7_findPiece 7 = .ok (.iload_n 1, 1) := by decide +kernel
theorem dX7_findPiece_8 : decode cX7_findPiece 8 = .ok (.iaload, 1) := by decide +kernel
theorem dX7_findPiece_9 : decode cX7_findPiece 9 = .ok (.if_icmp .gt 85, 3) := by decide +kernel
theorem dX7_findPiece_12 : decode cX7_findPiece 12 = .ok (.iconst 0, 1) := by decide +kernel
theorem dX7_findPiece_13 : decode cX7_findPiece 13 = .ok (.istore 4, 2) := by decide +kernel
theorem dX7_findPiece_15 : decode cX7_findPiece 15 = .ok (.iload 4, 2) := by decide +kernel
theorem dX7_findPiece_17 : decode cX7_findPiece 17 = .ok (.iload_n 3, 1) := by decide +kernel
theorem dX7_findPiece_18 : decode cX7_findPiece 18 = .ok (.iadd, 1) := by decide +kernel
theorem dX7_findPiece_19 : decode cX7_findPiece 19 = .ok (.aload_n 0, 1) := by decide +kernel
theorem dX7_findPiece_20 : decode cX7_findPiece 20 = .ok (.getfield 22, 3) := by decide +kernel
theorem dX7_findPiece_23 : decode cX7_findPiece 23 = .ok (.iload_n 1, 1) := by decide +kernel
theorem dX7_findPiece_24 : decode cX7_findPiece 24 = .ok (.iaload, 1) := by decide +kernel
theorem dX7_findPiece_25 : decode cX7_findPiece 25 = .ok (.if_icmp .gt 63, 3) := by decide +kernel
theorem dX7_findPiece_28 : decode cX7_findPiece 28 = .ok (.aload_n 0, 1) := by decide +kernel
theorem dX7_findPiece_29 : decode cX7_findPiece 29 = .ok (.iload_n 1, 1) := by decide +kernel
theorem dX7_findPiece_30 : decode cX7_findPiece 30 = .ok (.iload 4, 2) := by decide +kernel
theorem dX7_findPiece_32 : decode cX7_findPiece 32 = .ok (.iload_n 3, 1) := by decide +kernel
theorem dX7_findPiece_33 : decode cX7_findPiece 33 = .ok (.invokevirtual 75, 3) := by decide +kernel
theorem dX7_findPiece_36 : decode cX7_findPiece 36 = .ok (.ifCond .eq 46, 3) := by decide +kernel
theorem dX7_findPiece_39 : decode cX7_findPiece 39 = .ok (.aload_n 0, 1) := by decide +kernel
theorem dX7_findPiece_40 : decode cX7_findPiece 40 = .ok (.iload_n 1, 1) := by decide +kernel
theorem dX7_findPiece_41 : decode cX7_findPiece 41 = .ok (.iload 4, 2) := by decide +kernel
theorem dX7_findPiece_43 : decode cX7_findPiece 43 = .ok (.iload_n 3, 1) := by decide +kernel
theorem dX7_findPiece_44 : decode cX7_findPiece 44 = .ok (.invokevirtual 99, 3) := by decide +kernel
theorem dX7_findPiece_47 : decode cX7_findPiece 47 = .ok (.iload_n 2, 1) := by decide +kernel
theorem dX7_findPiece_48 : decode cX7_findPiece 48 = .ok (.ifCond .eq 14, 3) := by decide +kernel
theorem dX7_findPiece_51 : decode cX7_findPiece 51 = .ok (.aload_n 0, 1) := by decide +kernel
theorem dX7_findPiece_52 : decode cX7_findPiece 52 = .ok (.iload_n 1, 1) := by decide +kernel
theorem dX7_findPiece_53 : decode cX7_findPiece 53 = .ok (.invokevirtual 103, 3) := by decide +kernel
theorem dX7_findPiece_56 : decode cX7_findPiece 56 = .ok (.ifCond .eq 26, 3) := by decide +kernel
theorem dX7_findPiece_59 : decode cX7_findPiece 59 = .ok (.goto 11, 3) := by decide +kernel
theorem dX7_findPiece_62 : decode cX7_findPiece 62 = .ok (.aload_n 0, 1) := by decide +kernel
theorem dX7_findPiece_63 : decode cX7_findPiece 63 = .ok (.iload_n 1, 1) := by decide +kernel
theorem dX7_findPiece_64 : decode cX7_findPiece 64 = .ok (.invokevirtual 107, 3) := by decide +kernel
theorem dX7_findPiece_67 : decode cX7_findPiece 67 = .ok (.ifCond .eq 15, 3) := by decide +kernel
theorem dX7_findPiece_70 : decode cX7_findPiece 70 = .ok (.aload_n 0, 1) := by decide +kernel
theorem dX7_findPiece_71 : decode cX7_findPiece 71 = .ok (.iload 4, 2) := by decide +kernel
theorem dX7_findPiece_73 : decode cX7_findPiece 73 = .ok (.putfield 110, 3) := by decide +kernel
theorem dX7_findPiece_76 : decode cX7_findPiece 76 = .ok (.aload_n 0, 1) := by decide +kernel
theorem dX7_findPiece_77 : decode cX7_findPiece 77 = .ok (.iload_n 3, 1) := by decide +kernel
theorem dX7_findPiece_78 : decode cX7_findPiece 78 = .ok (.putfield 113, 3) := by decide +kernel
theorem dX7_findPiece_81 : decode cX7_findPiece 81 = .ok (.return_, 1) := by decide +kernel
theorem dX7_findPiece_82 : decode cX7_findPiece 82 = .ok (.iinc 4 1, 3) := by decide +kernel
theorem dX7_findPiece_85 : decode cX7_findPiece 85 = .ok (.goto (-70), 3) := by decide +kernel
theorem dX7_findPiece_88 : decode cX7_findPiece 88 = .ok (.iinc 3 1, 3) := by decide +kernel
theorem dX7_findPiece_91 : decode cX7_findPiece 91 = .ok (.goto (-89), 3) := by decide +kernel
theorem dX7_findPiece_94 : decode cX7_findPiece 94 = .ok (.aload_n 0, 1) := by decide +kernel
theorem dX7_findPiece_95 : decode cX7_findPiece 95 = .ok (.bipush (-6), 2) := by decide +kernel
theorem dX7_findPiece_97 : decode cX7_findPiece 97 = .ok (.putfield 110, 3) := by decide +kernel
theorem dX7_findPiece_100 : decode cX7_findPiece 100 = .ok (.aload_n 0, 1) := by decide +kernel
theorem dX7_findPiece_101 : decode cX7_findPiece 101 = .ok (.bipush (-6), 2) := by decide +kernel
theorem dX7_findPiece_103 : decode cX7_findPiece 103 = .ok (.putfield 113, 3) := by decide +kernel
theorem dX7_findPiece_106 : decode cX7_findPiece 106 = .ok (.return_, 1) := by decide +kernel
theorem dX7_findKeys_0 : decode cX7_findKeys 0 = .ok (.aload_n 0, 1) := by decide +kernel
theorem dX7_findKeys_1 : decode cX7_findKeys 1 = .ok (.invokevirtual 87, 3) := by decide +kernel
theorem dX7_findKeys_4 : decode cX7_findKeys 4 = .ok (.iconst 0, 1) := by decide +kernel
theorem dX7_findKeys_5 : decode cX7_findKeys 5 = .ok (.istore_n 1, 1) := by decide +kernel
theorem dX7_findKeys_6 : decode cX7_findKeys 6 = .ok (.iload_n 1, 1) := by decide +kernel
theorem dX7_findKeys_7 : decode cX7_findKeys 7 = .ok (.aload_n 0, 1) := by decide +kernel
theorem dX7_findKeys_8 : decode cX7_findKeys 8 = .ok (.getfield 7, 3) := by decide +kernel
theorem dX7_findKeys_11 : decode cX7_findKeys 11 = .ok (.iconst 0, 1) := by decide +kernel
theorem dX7_findKeys_12 : decode cX7_findKeys 12 = .ok (.iaload, 1) := by decide +kernel
theorem dX7_findKeys_13 : decode cX7_findKeys 13 = .ok (.if_icmp .ge 35, 3) := by decide +kernel
theorem dX7_findKeys_16 : decode cX7_findKeys 16 = .ok (.aload_n 0, 1) := by decide +kernel
theorem dX7_findKeys_17 : decode cX7_findKeys 17 = .ok (.iload_n 1, 1) := by decide +kernel
theorem dX7_findKeys_18 : decode cX7_findKeys 18 = .ok (.iconst 1, 1) := by decide +kernel
theorem dX7_findKeys_19 : decode cX7_findKeys 19 = .ok (.invokevirtual 116, 3) := by decide +kernel
theorem dX7_findKeys_22 : decode cX7_findKeys 22 = .ok (.aload_n 0, 1) := by decide +kernel
theorem dX7_findKeys_23 : decode cX7_findKeys 23 = .ok (.getfield 34, 3) := by decide +kernel
theorem dX7_findKeys_26 : decode cX7_findKeys 26 = .ok (.iload_n 1, 1) := by decide +kernel
theorem dX7_findKeys_27 : decode cX7_findKeys 27 = .ok (.aload_n 0, 1) := by decide +kernel
theorem dX7_findKeys_28 : decode cX7_findKeys 28 = .ok (.getfield 110, 3) := by decide +kernel
theorem dX7_findKeys_31 : decode cX7_findKeys 31 = .ok (.iastore, 1) := by decide +kernel
theorem dX7_findKeys_32 : decode cX7_findKeys 32 = .ok (.aload_n 0, 1) := by decide +kernel
theorem dX7_findKeys_33 : decode cX7_findKeys 33 = .ok (.getfield 37, 3) := by decide +kernel
theorem dX7_findKeys_36 : decode cX7_findKeys 36 = .ok (.iload_n 1, 1) := by decide +kernel
theorem dX7_findKeys_37 : decode cX7_findKeys 37 = .ok (.aload_n 0, 1) := by decide +kernel
theorem dX7_findKeys_38 : decode cX7_findKeys 38 = .ok (.getfield 113, 3) := by decide +kernel
theorem dX7_findKeys_41 : decode cX7_findKeys 41 = .ok (.iastore, 1) := by decide +kernel
theorem dX7_findKeys_42 : decode cX7_findKeys 42 = .ok (.iinc 1 1, 3) := by decide +kernel
theorem dX7_findKeys_45 : decode cX7_findKeys 45 = .ok (.goto (-39), 3) := by decide +kernel
theorem dX7_findKeys_48 : decode cX7_findKeys 48 = .ok (.return_, 1) := by decide +kernel
theorem dX7_unknownNow_0 : decode cX7_unknownNow 0 = .ok (.iconst 0, 1) := by decide +kernel
theorem dX7_unknownNow_1 : decode cX7_unknownNow 1 = .ok (.istore_n 1, 1) := by decide +kernel
theorem dX7_unknownNow_2 : decode cX7_unknownNow 2 = .ok (.iconst 0, 1) := by decide +kernel
theorem dX7_unknownNow_3 : decode cX7_unknownNow 3 = .ok (.istore_n 2, 1) := by decide +kernel
theorem dX7_unknownNow_4 : decode cX7_unknownNow 4 = .ok (.iload_n 2, 1) := by decide +kernel
theorem dX7_unknownNow_5 : decode cX7_unknownNow 5 = .ok (.aload_n 0, 1) := by decide +kernel
theorem dX7_unknownNow_6 : decode cX7_unknownNow 6 = .ok (.getfield 7, 3) := by decide +kernel
theorem dX7_unknownNow_9 : decode cX7_unknownNow 9 = .ok (.iconst 0, 1) := by decide +kernel
theorem dX7_unknownNow_10 : decode cX7_unknownNow 10 = .ok (.iaload, 1) := by decide +kernel
theorem dX7_unknownNow_11 : decode cX7_unknownNow 11 = .ok (.if_icmp .ge 28, 3) := by decide +kernel
theorem dX7_unknownNow_14 : decode cX7_unknownNow 14 = .ok (.iload_n 1, 1) := by decide +kernel
theorem dX7_unknownNow_15 : decode cX7_unknownNow 15 = .ok (.aload_n 0, 1) := by decide +kernel
theorem dX7_unknownNow_16 : decode cX7_unknownNow 16 = .ok (.getfield 37, 3) := by decide +kernel
theorem dX7_unknownNow_19 : decode cX7_unknownNow 19 = .ok (.iload_n 2, 1) := by decide +kernel
theorem dX7_unknownNow_20 : decode cX7_unknownNow 20 = .ok (.iaload, 1) := by decide +kernel
theorem dX7_unknownNow_21 : decode cX7_unknownNow 21 = .ok (.bipush (-6), 2) := by decide +kernel
theorem dX7_unknownNow_23 : decode cX7_unknownNow 23 = .ok (.if_icmp .ne 7, 3) := by decide +kernel
theorem dX7_unknownNow_26 : decode cX7_unknownNow 26 = .ok (.iconst 1, 1) := by decide +kernel
theorem dX7_unknownNow_27 : decode cX7_unknownNow 27 = .ok (.goto 4, 3) := by decide +kernel
theorem dX7_unknownNow_30 : decode cX7_unknownNow 30 = .ok (.iconst 0, 1) := by decide +kernel
theorem dX7_unknownNow_31 : decode cX7_unknownNow 31 = .ok (.iadd, 1) := by decide +kernel
theorem dX7_unknownNow_32 : decode cX7_unknownNow 32 = .ok (.istore_n 1, 1) := by decide +kernel
theorem dX7_unknownNow_33 : decode cX7_unknownNow 33 = .ok (.iinc 2 1, 3) := by decide +kernel
theorem dX7_unknownNow_36 : decode cX7_unknownNow 36 = .ok (.goto (-32), 3) := by decide +kernel
theorem dX7_unknownNow_39 : decode cX7_unknownNow 39 = .ok (.iload_n 1, 1) := by decide +kernel
theorem dX7_unknownNow_40 : decode cX7_unknownNow 40 = .ok (.ireturn, 1) := by decide +kernel
theorem dX7_hardestNow_0 : decode cX7_hardestNow 0 = .ok (.bipush (-6), 2) := by decide +kernel
theorem dX7_hardestNow_2 : decode cX7_hardestNow 2 = .ok (.istore_n 1, 1) := by decide +kernel
theorem dX7_hardestNow_3 : decode cX7_hardestNow 3 = .ok (.iconst 0, 1) := by decide +kernel
theorem dX7_hardestNow_4 : decode cX7_hardestNow 4 = .ok (.istore_n 2, 1) := by decide +kernel
theorem dX7_hardestNow_5 : decode cX7_hardestNow 5 = .ok (.iload_n 2, 1) := by decide +kernel
theorem dX7_hardestNow_6 : decode cX7_hardestNow 6 = .ok (.aload_n 0, 1) := by decide +kernel
theorem dX7_hardestNow_7 : decode cX7_hardestNow 7 = .ok (.getfield 7, 3) := by decide +kernel
theorem dX7_hardestNow_10 : decode cX7_hardestNow 10 = .ok (.iconst 0, 1) := by decide +kernel
theorem dX7_hardestNow_11 : decode cX7_hardestNow 11 = .ok (.iaload, 1) := by decide +kernel
theorem dX7_hardestNow_12 : decode cX7_hardestNow 12 = .ok (.if_icmp .ge 47, 3) := by decide +kernel
theorem dX7_hardestNow_15 : decode cX7_hardestNow 15 = .ok (.aload_n 0, 1) := by decide +kernel
theorem dX7_hardestNow_16 : decode cX7_hardestNow 16 = .ok (.getfield 37, 3) := by decide +kernel
theorem dX7_hardestNow_19 : decode cX7_hardestNow 19 = .ok (.iload_n 2, 1) := by decide +kernel
theorem dX7_hardestNow_20 : decode cX7_hardestNow 20 = .ok (.iaload, 1) := by decide +kernel
theorem dX7_hardestNow_21 : decode cX7_hardestNow 21 = .ok (.bipush (-6), 2) := by decide +kernel
theorem dX7_hardestNow_23 : decode cX7_hardestNow 23 = .ok (.if_icmp .eq 28, 3) := by decide +kernel
theorem dX7_hardestNow_26 : decode cX7_hardestNow 26 = .ok (.iload_n 1, 1) := by decide +kernel
theorem dX7_hardestNow_27 : decode cX7_hardestNow 27 = .ok (.bipush (-6), 2) := by decide +kernel
theorem dX7_hardestNow_29 : decode cX7_hardestNow 29 = .ok (.if_icmp .eq 18, 3) := by decide +kernel
theorem dX7_hardestNow_32 : decode cX7_hardestNow 32 = .ok (.aload_n 0, 1) := by decide +kernel
theorem dX7_hardestNow_33 : decode cX7_hardestNow 33 = .ok (.getfield 37, 3) := by decide +kernel
theorem dX7_hardestNow_36 : decode cX7_hardestNow 36 = .ok (.iload_n 2, 1) := by decide +kernel
theorem dX7_hardestNow_37 : decode cX7_hardestNow 37 = .ok (.iaload, 1) := by decide +kernel
theorem dX7_hardestNow_38 : decode cX7_hardestNow 38 = .ok (.aload_n 0, 1) := by decide +kernel
theorem dX7_hardestNow_39 : decode cX7_hardestNow 39 = .ok (.getfield 37, 3) := by decide +kernel
theorem dX7_hardestNow_42 : decode cX7_hardestNow 42 = .ok (.iload_n 1, 1) := by decide +kernel
theorem dX7_hardestNow_43 : decode cX7_hardestNow 43 = .ok (.iaload, 1) := by decide +kernel
theorem dX7_hardestNow_44 : decode cX7_hardestNow 44 = .ok (.if_icmp .le 7, 3) := by decide +kernel
theorem dX7_hardestNow_47 : decode cX7_hardestNow 47 = .ok (.iload_n 2, 1) := by decide +kernel
theorem dX7_hardestNow_48 : decode cX7_hardestNow 48 = .ok (.goto 4, 3) := by decide +kernel
theorem dX7_hardestNow_51 : decode cX7_hardestNow 51 = .ok (.iload_n 1, 1) := by decide +kernel
theorem dX7_hardestNow_52 : decode cX7_hardestNow 52 = .ok (.istore_n 1, 1) := by decide +kernel
theorem dX7_hardestNow_53 : decode cX7_hardestNow 53 = .ok (.iinc 2 1, 3) := by decide +kernel
theorem dX7_hardestNow_56 : decode cX7_hardestNow 56 = .ok (.goto (-51), 3) := by decide +kernel
theorem dX7_hardestNow_59 : decode cX7_hardestNow 59 = .ok (.iload_n 1, 1) := by decide +kernel
theorem dX7_hardestNow_60 : decode cX7_hardestNow 60 = .ok (.ireturn, 1) := by decide +kernel
theorem dX7_type_0 : decode cX7_type 0 = .ok (.iload_n 1, 1) := by decide +kernel
theorem dX7_type_1 : decode cX7_type 1 = .ok (.bipush 32, 2) := by decide +kernel
theorem dX7_type_3 : decode cX7_type 3 = .ok (.bipush 126, 2) := by decide +kernel
theorem dX7_type_5 : decode cX7_type 5 = .ok (.invokestatic 47, 3) := by decide +kernel
theorem dX7_type_8 : decode cX7_type 8 = .ok (.ifCond .ne 6, 3) := by decide +kernel
theorem dX7_type_11 : decode cX7_type 11 = .ok (.bipush (-2), 2) := by decide +kernel
theorem dX7_type_13 : decode cX7_type 13 = .ok (.ireturn, 1) := by decide +kernel
theorem dX7_type_14 : decode cX7_type 14 = .ok (.aload_n 0, 1) := by decide +kernel
theorem dX7_type_15 : decode cX7_type 15 = .ok (.getfield 120, 3) := by decide +kernel
theorem dX7_type_18 : decode cX7_type 18 = .ok (.bipush 80, 2) := by decide +kernel
theorem dX7_type_20 : decode cX7_type 20 = .ok (.if_icmp .ne 6, 3) := by decide +kernel
theorem dX7_type_23 : decode cX7_type 23 = .ok (.bipush (-4), 2) := by decide +kernel
theorem dX7_type_25 : decode cX7_type 25 = .ok (.ireturn, 1) := by decide +kernel
theorem dX7_type_26 : decode cX7_type 26 = .ok (.aload_n 0, 1) := by decide +kernel
theorem dX7_type_27 : decode cX7_type 27 = .ok (.getfield 16, 3) := by decide +kernel
theorem dX7_type_30 : decode cX7_type 30 = .ok (.aload_n 0, 1) := by decide +kernel
theorem dX7_type_31 : decode cX7_type 31 = .ok (.getfield 120, 3) := by decide +kernel
theorem dX7_type_34 : decode cX7_type 34 = .ok (.iload_n 1, 1) := by decide +kernel
theorem dX7_type_35 : decode cX7_type 35 = .ok (.iastore, 1) := by decide +kernel
theorem dX7_type_36 : decode cX7_type 36 = .ok (.aload_n 0, 1) := by decide +kernel
theorem dX7_type_37 : decode cX7_type 37 = .ok (.dup, 1) := by decide +kernel
theorem dX7_type_38 : decode cX7_type 38 = .ok (.getfield 120, 3) := by decide +kernel
theorem dX7_type_41 : decode cX7_type 41 = .ok (.iconst 1, 1) := by decide +kernel
theorem dX7_type_42 : decode cX7_type 42 = .ok (.iadd, 1) := by decide +kernel
theorem dX7_type_43 : decode cX7_type 43 = .ok (.putfield 120, 3) := by decide +kernel
theorem dX7_type_46 : decode cX7_type 46 = .ok (.aload_n 0, 1) := by decide +kernel
theorem dX7_type_47 : decode cX7_type 47 = .ok (.getfield 120, 3) := by decide +kernel
theorem dX7_type_50 : decode cX7_type 50 = .ok (.ireturn, 1) := by decide +kernel
theorem dX7_clearText_0 : decode cX7_clearText 0 = .ok (.aload_n 0, 1) := by decide +kernel
theorem dX7_clearText_1 : decode cX7_clearText 1 = .ok (.getfield 120, 3) := by decide +kernel
theorem dX7_clearText_4 : decode cX7_clearText 4 = .ok (.istore_n 1, 1) := by decide +kernel
theorem dX7_clearText_5 : decode cX7_clearText 5 = .ok (.aload_n 0, 1) := by decide +kernel
theorem dX7_clearText_6 : decode cX7_clearText 6 = .ok (.iconst 0, 1) := by decide +kernel
theorem dX7_clearText_7 : decode cX7_clearText 7 = .ok (.putfield 120, 3) := by decide +kernel
theorem dX7_clearText_10 : decode cX7_clearText 10 = .ok (.iload_n 1, 1) := by decide +kernel
theorem dX7_clearText_11 : decode cX7_clearText 11 = .ok (.ireturn, 1) := by decide +kernel
theorem dX7_typedAt_0 : decode cX7_typedAt 0 = .ok (.iload_n 1, 1) := by decide +kernel
theorem dX7_typedAt_1 : decode cX7_typedAt 1 = .ok (.aload_n 0, 1) := by decide +kernel
theorem dX7_typedAt_2 : decode cX7_typedAt 2 = .ok (.getfield 120, 3) := by decide +kernel
theorem dX7_typedAt_5 : decode cX7_typedAt 5 = .ok (.if_icmp .ge 12, 3) := by decide +kernel
theorem dX7_typedAt_8 : decode cX7_typedAt 8 = .ok (.aload_n 0, 1) := by decide +kernel
theorem dX7_typedAt_9 : decode cX7_typedAt 9 = .ok (.getfield 16, 3) := by decide +kernel
theorem dX7_typedAt_12 : decode cX7_typedAt 12 = .ok (.iload_n 1, 1) := by decide +kernel
theorem dX7_typedAt_13 : decode cX7_typedAt 13 = .ok (.iaload, 1) := by decide +kernel
theorem dX7_typedAt_14 : decode cX7_typedAt 14 = .ok (.goto 4, 3) := by decide +kernel
theorem dX7_typedAt_17 : decode cX7_typedAt 17 = .ok (.iconst (-1), 1) := by decide +kernel
theorem dX7_typedAt_18 : decode cX7_typedAt 18 = .ok (.ireturn, 1) := by decide +kernel
theorem dX7_isNext_0 : decode cX7_isNext 0 = .ok (.aload_n 0, 1) := by decide +kernel
theorem dX7_isNext_1 : decode cX7_isNext 1 = .ok (.aload_n 0, 1) := by decide +kernel
theorem dX7_isNext_2 : decode cX7_isNext 2 = .ok (.getfield 123, 3) := by decide +kernel
theorem dX7_isNext_5 : decode cX7_isNext 5 = .ok (.invokevirtual 126, 3) := by decide +kernel
theorem dX7_isNext_8 : decode cX7_isNext 8 = .ok (.iload_n 1, 1) := by decide +kernel
theorem dX7_isNext_9 : decode cX7_isNext 9 = .ok (.if_icmp .ne 7, 3) := by decide +kernel
theorem dX7_isNext_12 : decode cX7_isNext 12 = .ok (.iconst 1, 1) := by decide +kernel
theorem dX7_isNext_13 : decode cX7_isNext 13 = .ok (.goto 4, 3) := by decide +kernel
theorem dX7_isNext_16 : decode cX7_isNext 16 = .ok (.iconst 0, 1) := by decide +kernel
theorem dX7_isNext_17 : decode cX7_isNext 17 = .ok (.istore_n 2, 1) := by decide +kernel
theorem dX7_isNext_18 : decode cX7_isNext 18 = .ok (.aload_n 0, 1) := by decide +kernel
theorem dX7_isNext_19 : decode cX7_isNext 19 = .ok (.dup, 1) := by decide +kernel
theorem dX7_isNext_20 : decode cX7_isNext 20 = .ok (.getfield 123, 3) := by decide +kernel
theorem dX7_isNext_23 : decode cX7_isNext 23 = .ok (.iload_n 2, 1) := by decide +kernel
theorem dX7_isNext_24 : decode cX7_isNext 24 = .ok (.ifCond .eq 7, 3) := by decide +kernel
theorem dX7_isNext_27 : decode cX7_isNext 27 = .ok (.iconst 1, 1) := by decide +kernel
theorem dX7_isNext_28 : decode cX7_isNext 28 = .ok (.goto 4, 3) := by decide +kernel
theorem dX7_isNext_31 : decode cX7_isNext 31 = .ok (.iconst 0, 1) := by decide +kernel
theorem dX7_isNext_32 : decode cX7_isNext 32 = .ok (.iadd, 1) := by decide +kernel
theorem dX7_isNext_33 : decode cX7_isNext 33 = .ok (.putfield 123, 3) := by decide +kernel
theorem dX7_isNext_36 : decode cX7_isNext 36 = .ok (.iload_n 2, 1) := by decide +kernel
theorem dX7_isNext_37 : decode cX7_isNext 37 = .ok (.ireturn, 1) := by decide +kernel
theorem dX7_readsWord_0 : decode cX7_readsWord 0 = .ok (.lload_n 1, 1) := by decide +kernel
theorem dX7_readsWord_1 : decode cX7_readsWord 1 = .ok (.lstore_n 3, 1) := by decide +kernel
theorem dX7_readsWord_2 : decode cX7_readsWord 2 = .ok (.iconst 1, 1) := by decide +kernel
theorem dX7_readsWord_3 : decode cX7_readsWord 3 = .ok (.istore 5, 2) := by decide +kernel
theorem dX7_readsWord_5 : decode cX7_readsWord 5 = .ok (.lload_n 3, 1) := by decide +kernel
theorem dX7_readsWord_6 : decode cX7_readsWord 6 = .ok (.lconst 0, 1) := by decide +kernel
theorem dX7_readsWord_7 : decode cX7_readsWord 7 = .ok (.lcmp, 1) := by decide +kernel
theorem dX7_readsWord_8 : decode cX7_readsWord 8 = .ok (.ifCond .le 28, 3) := by decide +kernel
theorem dX7_readsWord_11 : decode cX7_readsWord 11 = .ok (.iload 5, 2) := by decide +kernel
theorem dX7_readsWord_13 : decode cX7_readsWord 13 = .ok (.ifCond .eq 23, 3) := by decide +kernel
theorem dX7_readsWord_16 : decode cX7_readsWord 16 = .ok (.aload_n 0, 1) := by decide +kernel
theorem dX7_readsWord_17 : decode cX7_readsWord 17 = .ok (.lload_n 3, 1) := by decide +kernel
theorem dX7_readsWord_18 : decode cX7_readsWord 18 = .ok (.ldc2_w 129, 3) := by decide +kernel
theorem dX7_readsWord_21 : decode cX7_readsWord 21 = .ok (.land, 1) := by decide +kernel
theorem dX7_readsWord_22 : decode cX7_readsWord 22 = .ok (.l2i, 1) := by decide +kernel
theorem dX7_readsWord_23 : decode cX7_readsWord 23 = .ok (.invokevirtual 131, 3) := by decide +kernel
theorem dX7_readsWord_26 : decode cX7_readsWord 26 = .ok (.istore 5, 2) := by decide +kernel
theorem dX7_readsWord_28 : decode cX7_readsWord 28 = .ok (.lload_n 3, 1) := by decide +kernel
theorem dX7_readsWord_29 : decode cX7_readsWord 29 = .ok (.bipush 8, 2) := by decide +kernel
theorem dX7_readsWord_31 : decode cX7_readsWord 31 = .ok (.lshr, 1) := by decide +kernel
theorem dX7_readsWord_32 : decode cX7_readsWord 32 = .ok (.lstore_n 3, 1) := by decide +kernel
theorem dX7_readsWord_33 : decode cX7_readsWord 33 = .ok (.goto (-28), 3) := by decide +kernel
theorem dX7_readsWord_36 : decode cX7_readsWord 36 = .ok (.iload 5, 2) := by decide +kernel
theorem dX7_readsWord_38 : decode cX7_readsWord 38 = .ok (.ireturn, 1) := by decide +kernel
theorem dX7_readsTitle_0 : decode cX7_readsTitle 0 = .ok (.aload_n 0, 1) := by decide +kernel
theorem dX7_readsTitle_1 : decode cX7_readsTitle 1 = .ok (.aload_n 0, 1) := by decide +kernel
theorem dX7_readsTitle_2 : decode cX7_readsTitle 2 = .ok (.getfield 123, 3) := by decide +kernel
theorem dX7_readsTitle_5 : decode cX7_readsTitle 5 = .ok (.putfield 134, 3) := by decide +kernel
theorem dX7_readsTitle_8 : decode cX7_readsTitle 8 = .ok (.iconst 1, 1) := by decide +kernel
theorem dX7_readsTitle_9 : decode cX7_readsTitle 9 = .ok (.istore_n 1, 1) := by decide +kernel
theorem dX7_readsTitle_10 : decode cX7_readsTitle 10 = .ok (.iload_n 1, 1) := by decide +kernel
theorem dX7_readsTitle_11 : decode cX7_readsTitle 11 = .ok (.ifCond .eq 106, 3) := by decide +kernel
theorem dX7_readsTitle_14 : decode cX7_readsTitle 14 = .ok (.aload_n 0, 1) := by decide +kernel
theorem dX7_readsTitle_15 : decode cX7_readsTitle 15 = .ok (.aload_n 0, 1) := by decide +kernel
theorem dX7_readsTitle_16 : decode cX7_readsTitle 16 = .ok (.getfield 123, 3) := by decide +kernel
theorem dX7_readsTitle_19 : decode cX7_readsTitle 19 = .ok (.invokevirtual 126, 3) := by decide +kernel
theorem dX7_readsTitle_22 : decode cX7_readsTitle 22 = .ok (.istore_n 2, 1) := by decide +kernel
theorem dX7_readsTitle_23 : decode cX7_readsTitle 23 = .ok (.aload_n 0, 1) := by decide +kernel
theorem dX7_readsTitle_24 : decode cX7_readsTitle 24 = .ok (.getfield 123, 3) := by decide +kernel
theorem dX7_readsTitle_27 : decode cX7_readsTitle 27 = .ok (.aload_n 0, 1) := by decide +kernel
theorem dX7_readsTitle_28 : decode cX7_readsTitle 28 = .ok (.getfield 134, 3) := by decide +kernel
theorem dX7_readsTitle_31 : decode cX7_readsTitle 31 = .ok (.isub, 1) := by decide +kernel
theorem dX7_readsTitle_32 : decode cX7_readsTitle 32 = .ok (.istore_n 3, 1) := by decide +kernel
theorem dX7_readsTitle_33 : decode cX7_readsTitle 33 = .ok (.iload_n 3, 1) := by decide +kernel
theorem dX7_readsTitle_34 : decode cX7_readsTitle 34 = .ok (.ifCond .le 23, 3) := by decide +kernel
theorem dX7_readsTitle_37 : decode cX7_readsTitle 37 = .ok (.aload_n 0, 1) := by decide +kernel
theorem dX7_readsTitle_38 : decode cX7_readsTitle 38 = .ok (.aload_n 0, 1) := by decide +kernel
theorem dX7_readsTitle_39 : decode cX7_readsTitle 39 = .ok (.getfield 123, 3) := by decide +kernel
theorem dX7_readsTitle_42 : decode cX7_readsTitle 42 = .ok (.iconst 1, 1) := by decide +kernel
theorem dX7_readsTitle_43 : decode cX7_readsTitle 43 = .ok (.isub, 1) := by decide +kernel
theorem dX7_readsTitle_44 : decode cX7_readsTitle 44 = .ok (.invokevirtual 126, 3) := by decide +kernel
theorem dX7_readsTitle_47 : decode cX7_readsTitle 47 = .ok (.invokestatic 137, 3) := by decide +kernel
theorem dX7_readsTitle_50 : decode cX7_readsTitle 50 = .ok (.ifCond .eq 7, 3) := by decide +kernel
theorem dX7_readsTitle_53 : decode cX7_readsTitle 53 = .ok (.iconst 1, 1) := by decide +kernel
theorem dX7_readsTitle_54 : decode cX7_readsTitle 54 = .ok (.goto 4, 3) := by decide +kernel
theorem dX7_readsTitle_57 : decode cX7_readsTitle 57 = .ok (.iconst 0, 1) := by decide +kernel
theorem dX7_readsTitle_58 : decode cX7_readsTitle 58 = .ok (.istore 4, 2) := by decide +kernel
theorem dX7_readsTitle_60 : decode cX7_readsTitle 60 = .ok (.iload_n 2, 1) := by decide +kernel
theorem dX7_readsTitle_61 : decode cX7_readsTitle 61 = .ok (.invokestatic 137, 3) := by decide +kernel
theorem dX7_readsTitle_64 : decode cX7_readsTitle 64 = .ok (.ifCond .eq 9, 3) := by decide +kernel
theorem dX7_readsTitle_67 : decode cX7_readsTitle 67 = .ok (.iload_n 3, 1) := by decide +kernel
theorem dX7_readsTitle_68 : decode cX7_readsTitle 68 = .ok (.bipush 24, 2) := by decide +kernel
theorem dX7_readsTitle_70 : decode cX7_readsTitle 70 = .ok (.if_icmp .lt 20, 3) := by decide +kernel
theorem dX7_readsTitle_73 : decode cX7_readsTitle 73 = .ok (.iload_n 2, 1) := by decide +kernel
theorem dX7_readsTitle_74 : decode cX7_readsTitle 74 = .ok (.bipush 32, 2) := by decide +kernel
theorem dX7_readsTitle_76 : decode cX7_readsTitle 76 = .ok (.if_icmp .ne 18, 3) := by decide +kernel
theorem dX7_readsTitle_79 : decode cX7_readsTitle 79 = .ok (.iload 4, 2) := by decide +kernel
theorem dX7_readsTitle_81 : decode cX7_readsTitle 81 = .ok (.ifCond .eq 13, 3) := by decide +kernel
theorem dX7_readsTitle_84 : decode cX7_readsTitle 84 = .ok (.iload_n 3, 1) := by decide +kernel
theorem dX7_readsTitle_85 : decode cX7_readsTitle 85 = .ok (.bipush 23, 2) := by decide +kernel
theorem dX7_readsTitle_87 : decode cX7_readsTitle 87 = .ok (.if_icmp .ge 7, 3) := by decide +kernel
theorem dX7_readsTitle_90 : decode cX7_readsTitle 90 = .ok (.iconst 1, 1) := by decide +kernel
theorem dX7_readsTitle_91 : decode cX7_readsTitle 91 = .ok (.goto 4, 3) := by decide +kernel
theorem dX7_readsTitle_94 : decode cX7_readsTitle 94 = .ok (.iconst 0, 1) := by decide +kernel
theorem dX7_readsTitle_95 : decode cX7_readsTitle 95 = .ok (.istore_n 1, 1) := by decide +kernel
theorem dX7_readsTitle_96 : decode cX7_readsTitle 96 = .ok (.aload_n 0, 1) := by decide +kernel
theorem dX7_readsTitle_97 : decode cX7_readsTitle 97 = .ok (.dup, 1) := by decide +kernel
theorem dX7_readsTitle_98 : decode cX7_readsTitle 98 = .ok (.getfield 123, 3) := by decide +kernel
theorem dX7_readsTitle_101 : decode cX7_readsTitle 101 = .ok (.iload_n 1, 1) := by decide +kernel
theorem dX7_readsTitle_102 : decode cX7_readsTitle 102 = .ok (.ifCond .eq 7, 3) := by decide +kernel
theorem dX7_readsTitle_105 : decode cX7_readsTitle 105 = .ok (.iconst 1, 1) := by decide +kernel
theorem dX7_readsTitle_106 : decode cX7_readsTitle 106 = .ok (.goto 4, 3) := by decide +kernel
theorem dX7_readsTitle_109 : decode cX7_readsTitle 109 = .ok (.iconst 0, 1) := by decide +kernel
theorem dX7_readsTitle_110 : decode cX7_readsTitle 110 = .ok (.iadd, 1) := by decide +kernel
theorem dX7_readsTitle_111 : decode cX7_readsTitle 111 = .ok (.putfield 123, 3) := by decide +kernel
theorem dX7_readsTitle_114 : decode cX7_readsTitle 114 = .ok (.goto (-104), 3) := by decide +kernel
theorem dX7_readsTitle_117 : decode cX7_readsTitle 117 = .ok (.aload_n 0, 1) := by decide +kernel
theorem dX7_readsTitle_118 : decode cX7_readsTitle 118 = .ok (.aload_n 0, 1) := by decide +kernel
theorem dX7_readsTitle_119 : decode cX7_readsTitle 119 = .ok (.getfield 123, 3) := by decide +kernel
theorem dX7_readsTitle_122 : decode cX7_readsTitle 122 = .ok (.putfield 140, 3) := by decide +kernel
theorem dX7_readsTitle_125 : decode cX7_readsTitle 125 = .ok (.aload_n 0, 1) := by decide +kernel
theorem dX7_readsTitle_126 : decode cX7_readsTitle 126 = .ok (.getfield 123, 3) := by decide +kernel
theorem dX7_readsTitle_129 : decode cX7_readsTitle 129 = .ok (.aload_n 0, 1) := by decide +kernel
theorem dX7_readsTitle_130 : decode cX7_readsTitle 130 = .ok (.getfield 134, 3) := by decide +kernel
theorem dX7_readsTitle_133 : decode cX7_readsTitle 133 = .ok (.if_icmp .le 23, 3) := by decide +kernel
theorem dX7_readsTitle_136 : decode cX7_readsTitle 136 = .ok (.aload_n 0, 1) := by decide +kernel
theorem dX7_readsTitle_137 : decode cX7_readsTitle 137 = .ok (.aload_n 0, 1) := by decide +kernel
theorem dX7_readsTitle_138 : decode cX7_readsTitle 138 = .ok (.getfield 123, 3) := by decide +kernel
theorem dX7_readsTitle_141 : decode cX7_readsTitle 141 = .ok (.iconst 1, 1) := by decide +kernel
theorem dX7_readsTitle_142 : decode cX7_readsTitle 142 = .ok (.isub, 1) := by decide +kernel
theorem dX7_readsTitle_143 : decode cX7_readsTitle 143 = .ok (.invokevirtual 126, 3) := by decide +kernel
theorem dX7_readsTitle_146 : decode cX7_readsTitle 146 = .ok (.invokestatic 137, 3) := by decide +kernel
theorem dX7_readsTitle_149 : decode cX7_readsTitle 149 = .ok (.ifCond .eq 7, 3) := by decide +kernel
theorem dX7_readsTitle_152 : decode cX7_readsTitle 152 = .ok (.iconst 1, 1) := by decide +kernel
theorem dX7_readsTitle_153 : decode cX7_readsTitle 153 = .ok (.goto 4, 3) := by decide +kernel
theorem dX7_readsTitle_156 : decode cX7_readsTitle 156 = .ok (.iconst 0, 1) := by decide +kernel
theorem dX7_readsTitle_157 : decode cX7_readsTitle 157 = .ok (.ireturn, 1) := by decide +kernel
theorem dX7_readsNumber_0 : decode cX7_readsNumber 0 = .ok (.aload_n 0, 1) := by decide +kernel
theorem dX7_readsNumber_1 : decode cX7_readsNumber 1 = .ok (.iconst 0, 1) := by decide +kernel
theorem dX7_readsNumber_2 : decode cX7_readsNumber 2 = .ok (.putfield 143, 3) := by decide +kernel
theorem dX7_readsNumber_5 : decode cX7_readsNumber 5 = .ok (.iconst 0, 1) := by decide +kernel
theorem dX7_readsNumber_6 : decode cX7_readsNumber 6 = .ok (.istore_n 1, 1) := by decide +kernel
theorem dX7_readsNumber_7 : decode cX7_readsNumber 7 = .ok (.iload_n 1, 1) := by decide +kernel
theorem dX7_readsNumber_8 : decode cX7_readsNumber 8 = .ok (.iconst 2, 1) := by decide +kernel
theorem dX7_readsNumber_9 : decode cX7_readsNumber 9 = .ok (.if_icmp .ge 60, 3) := by decide +kernel
theorem dX7_readsNumber_12 : decode cX7_readsNumber 12 = .ok (.aload_n 0, 1) := by decide +kernel
theorem dX7_readsNumber_13 : decode cX7_readsNumber 13 = .ok (.aload_n 0, 1) := by decide +kernel
theorem dX7_readsNumber_14 : decode cX7_readsNumber 14 = .ok (.getfield 123, 3) := by decide +kernel
theorem dX7_readsNumber_17 : decode cX7_readsNumber 17 = .ok (.invokevirtual 126, 3) := by decide +kernel
theorem dX7_readsNumber_20 : decode cX7_readsNumber 20 = .ok (.bipush 48, 2) := by decide +kernel
theorem dX7_readsNumber_22 : decode cX7_readsNumber 22 = .ok (.bipush 57, 2) := by decide +kernel
theorem dX7_readsNumber_24 : decode cX7_readsNumber 24 = .ok (.invokestatic 47, 3) := by decide +kernel
theorem dX7_readsNumber_27 : decode cX7_readsNumber 27 = .ok (.ifCond .eq 42, 3) := by decide +kernel
theorem dX7_readsNumber_30 : decode cX7_readsNumber 30 = .ok (.aload_n 0, 1) := by decide +kernel
theorem dX7_readsNumber_31 : decode cX7_readsNumber 31 = .ok (.bipush 10, 2) := by decide +kernel
theorem dX7_readsNumber_33 : decode cX7_readsNumber 33 = .ok (.aload_n 0, 1) := by decide +kernel
theorem dX7_readsNumber_34 : decode cX7_readsNumber 34 = .ok (.getfield 143, 3) := by decide +kernel
theorem dX7_readsNumber_37 : decode cX7_readsNumber 37 = .ok (.imul, 1) := by decide +kernel
theorem dX7_readsNumber_38 : decode cX7_readsNumber 38 = .ok (.aload_n 0, 1) := by decide +kernel
theorem dX7_readsNumber_39 : decode cX7_readsNumber 39 = .ok (.aload_n 0, 1) := by decide +kernel
theorem dX7_readsNumber_40 : decode cX7_readsNumber 40 = .ok (.getfield 123, 3) := by decide +kernel
theorem dX7_readsNumber_43 : decode cX7_readsNumber 43 = .ok (.invokevirtual 126, 3) := by decide +kernel
theorem dX7_readsNumber_46 : decode cX7_readsNumber 46 = .ok (.iadd, 1) := by decide +kernel
theorem dX7_readsNumber_47 : decode cX7_readsNumber 47 = .ok (.bipush 48, 2) := by decide +kernel
theorem dX7_readsNumber_49 : decode cX7_readsNumber 49 = .ok (.isub, 1) := by decide +kernel
theorem dX7_readsNumber_50 : decode cX7_readsNumber 50 = .ok (.putfield 143, 3) := by decide +kernel
theorem dX7_readsNumber_53 : decode cX7_readsNumber 53 = .ok (.iinc 1 1, 3) := by decide +kernel
theorem dX7_readsNumber_56 : decode cX7_readsNumber 56 = .ok (.aload_n 0, 1) := by decide +kernel
theorem dX7_readsNumber_57 : decode cX7_readsNumber 57 = .ok (.dup, 1) := by decide +kernel
theorem dX7_readsNumber_58 : decode cX7_readsNumber 58 = .ok (.getfield 123, 3) := by decide +kernel
theorem dX7_readsNumber_61 : decode cX7_readsNumber 61 = .ok (.iconst 1, 1) := by decide +kernel
theorem dX7_readsNumber_62 : decode cX7_readsNumber 62 = .ok (.iadd, 1) := by decide +kernel
theorem dX7_readsNumber_63 : decode cX7_readsNumber 63 = .ok (.putfield 123, 3) := by decide +kernel
theorem dX7_readsNumber_66 : decode cX7_readsNumber 66 = .ok (.goto (-59), 3) := by decide +kernel
theorem dX7_readsNumber_69 : decode cX7_readsNumber 69 = .ok (.iload_n 1, 1) := by decide +kernel
theorem dX7_readsNumber_70 : decode cX7_readsNumber 70 = .ok (.ifCond .le 7, 3) := by decide +kernel
theorem dX7_readsNumber_73 : decode cX7_readsNumber 73 = .ok (.iconst 1, 1) := by decide +kernel
theorem dX7_readsNumber_74 : decode cX7_readsNumber 74 = .ok (.goto 4, 3) := by decide +kernel
theorem dX7_readsNumber_77 : decode cX7_readsNumber 77 = .ok (.iconst 0, 1) := by decide +kernel
theorem dX7_readsNumber_78 : decode cX7_readsNumber 78 = .ok (.ireturn, 1) := by decide +kernel
theorem dX7_readsMode_0 : decode cX7_readsMode 0 = .ok (.aload_n 0, 1) := by decide +kernel
theorem dX7_readsMode_1 : decode cX7_readsMode 1 = .ok (.aload_n 0, 1) := by decide +kernel
theorem dX7_readsMode_2 : decode cX7_readsMode 2 = .ok (.getfield 123, 3) := by decide +kernel
theorem dX7_readsMode_5 : decode cX7_readsMode 5 = .ok (.invokevirtual 126, 3) := by decide +kernel
theorem dX7_readsMode_8 : decode cX7_readsMode 8 = .ok (.istore_n 1, 1) := by decide +kernel
theorem dX7_readsMode_9 : decode cX7_readsMode 9 = .ok (.aload_n 0, 1) := by decide +kernel
theorem dX7_readsMode_10 : decode cX7_readsMode 10 = .ok (.iload_n 1, 1) := by decide +kernel
theorem dX7_readsMode_11 : decode cX7_readsMode 11 = .ok (.bipush 112, 2) := by decide +kernel
theorem dX7_readsMode_13 : decode cX7_readsMode 13 = .ok (.if_icmp .ne 7, 3) := by decide +kernel
theorem dX7_readsMode_16 : decode cX7_readsMode 16 = .ok (.iconst 0, 1) := by decide +kernel
theorem dX7_readsMode_17 : decode cX7_readsMode 17 = .ok (.goto 24, 3) := by decide +kernel
theorem dX7_readsMode_20 : decode cX7_readsMode 20 = .ok (.iload_n 1, 1) := by decide +kernel
theorem dX7_readsMode_21 : decode cX7_readsMode 21 = .ok (.bipush 115, 2) := by decide +kernel
theorem dX7_readsMode_23 : decode cX7_readsMode 23 = .ok (.if_icmp .ne 7, 3) := by decide +kernel
theorem dX7_readsMode_26 : decode cX7_readsMode 26 = .ok (.iconst 1, 1) := by decide +kernel
theorem dX7_readsMode_27 : decode cX7_readsMode 27 = .ok (.goto 14, 3) := by decide +kernel
theorem dX7_readsMode_30 : decode cX7_readsMode 30 = .ok (.iload_n 1, 1) := by decide +kernel
theorem dX7_readsMode_31 : decode cX7_readsMode 31 = .ok (.bipush 119, 2) := by decide +kernel
theorem dX7_readsMode_33 : decode cX7_readsMode 33 = .ok (.if_icmp .ne 7, 3) := by decide +kernel
theorem dX7_readsMode_36 : decode cX7_readsMode 36 = .ok (.iconst 2, 1) := by decide +kernel
theorem dX7_readsMode_37 : decode cX7_readsMode 37 = .ok (.goto 4, 3) := by decide +kernel
theorem dX7_readsMode_40 : decode cX7_readsMode 40 = .ok (.iconst 3, 1) := by decide +kernel
theorem dX7_readsMode_41 : decode cX7_readsMode 41 = .ok (.putfield 143, 3) := by decide +kernel
theorem dX7_readsMode_44 : decode cX7_readsMode 44 = .ok (.aload_n 0, 1) := by decide +kernel
theorem dX7_readsMode_45 : decode cX7_readsMode 45 = .ok (.iload_n 1, 1) := by decide +kernel
theorem dX7_readsMode_46 : decode cX7_readsMode 46 = .ok (.bipush 112, 2) := by decide +kernel
theorem dX7_readsMode_48 : decode cX7_readsMode 48 = .ok (.if_icmp .ne 9, 3) := by decide +kernel
theorem dX7_readsMode_51 : decode cX7_readsMode 51 = .ok (.ldc2_w 146, 3) := by decide +kernel
theorem dX7_readsMode_54 : decode cX7_readsMode 54 = .ok (.goto 30, 3) := by decide +kernel
theorem dX7_readsMode_57 : decode cX7_readsMode 57 = .ok (.iload_n 1, 1) := by decide +kernel
theorem dX7_readsMode_58 : decode cX7_readsMode 58 = .ok (.bipush 115, 2) := by decide +kernel
theorem dX7_readsMode_60 : decode cX7_readsMode 60 = .ok (.if_icmp .ne 9, 3) := by decide +kernel
theorem dX7_readsMode_63 : decode cX7_readsMode 63 = .ok (.ldc2_w 148, 3) := by decide +kernel
theorem dX7_readsMode_66 : decode cX7_readsMode 66 = .ok (.goto 18, 3) := by decide +kernel
theorem dX7_readsMode_69 : decode cX7_readsMode 69 = .ok (.iload_n 1, 1) := by decide +kernel
theorem dX7_readsMode_70 : decode cX7_readsMode 70 = .ok (.bipush 119, 2) := by decide +kernel
theorem dX7_readsMode_72 : decode cX7_readsMode 72 = .ok (.if_icmp .ne 9, 3) := by decide +kernel
theorem dX7_readsMode_75 : decode cX7_readsMode 75 = .ok (.ldc2_w 150, 3) := by decide +kernel
theorem dX7_readsMode_78 : decode cX7_readsMode 78 = .ok (.goto 6, 3) := by decide +kernel
theorem dX7_readsMode_81 : decode cX7_readsMode 81 = .ok (.ldc2_w 152, 3) := by decide +kernel
theorem dX7_readsMode_84 : decode cX7_readsMode 84 = .ok (.invokevirtual 154, 3) := by decide +kernel
theorem dX7_readsMode_87 : decode cX7_readsMode 87 = .ok (.ireturn, 1) := by decide +kernel
theorem dX7_readsOrder_0 : decode cX7_readsOrder 0 = .ok (.aload_n 0, 1) := by decide +kernel
theorem dX7_readsOrder_1 : decode cX7_readsOrder 1 = .ok (.aload_n 0, 1) := by decide +kernel
theorem dX7_readsOrder_2 : decode cX7_readsOrder 2 = .ok (.getfield 123, 3) := by decide +kernel
theorem dX7_readsOrder_5 : decode cX7_readsOrder 5 = .ok (.invokevirtual 126, 3) := by decide +kernel
theorem dX7_readsOrder_8 : decode cX7_readsOrder 8 = .ok (.istore_n 1, 1) := by decide +kernel
theorem dX7_readsOrder_9 : decode cX7_readsOrder 9 = .ok (.aload_n 0, 1) := by decide +kernel
theorem dX7_readsOrder_10 : decode cX7_readsOrder 10 = .ok (.iload_n 1, 1) := by decide +kernel
theorem dX7_readsOrder_11 : decode cX7_readsOrder 11 = .ok (.bipush 112, 2) := by decide +kernel
theorem dX7_readsOrder_13 : decode cX7_readsOrder 13 = .ok (.if_icmp .ne 7, 3) := by decide +kernel
theorem dX7_readsOrder_16 : decode cX7_readsOrder 16 = .ok (.iconst 0, 1) := by decide +kernel
theorem dX7_readsOrder_17 : decode cX7_readsOrder 17 = .ok (.goto 14, 3) := by decide +kernel
theorem dX7_readsOrder_20 : decode cX7_readsOrder 20 = .ok (.iload_n 1, 1) := by decide +kernel
theorem dX7_readsOrder_21 : decode cX7_readsOrder 21 = .ok (.bipush 111, 2) := by decide +kernel
theorem dX7_readsOrder_23 : decode cX7_readsOrder 23 = .ok (.if_icmp .ne 7, 3) := by decide +kernel
theorem dX7_readsOrder_26 : decode cX7_readsOrder 26 = .ok (.iconst 1, 1) := by decide +kernel
theorem dX7_readsOrder_27 : decode cX7_readsOrder 27 = .ok (.goto 4, 3) := by decide +kernel
theorem dX7_readsOrder_30 : decode cX7_readsOrder 30 = .ok (.iconst 2, 1) := by decide +kernel
theorem dX7_readsOrder_31 : decode cX7_readsOrder 31 = .ok (.putfield 143, 3) := by decide +kernel
theorem dX7_readsOrder_34 : decode cX7_readsOrder 34 = .ok (.aload_n 0, 1) := by decide +kernel
theorem dX7_readsOrder_35 : decode cX7_readsOrder 35 = .ok (.iload_n 1, 1) := by decide +kernel
theorem dX7_readsOrder_36 : decode cX7_readsOrder 36 = .ok (.bipush 112, 2) := by decide +kernel
theorem dX7_readsOrder_38 : decode cX7_readsOrder 38 = .ok (.if_icmp .ne 9, 3) := by decide +kernel
theorem dX7_readsOrder_41 : decode cX7_readsOrder 41 = .ok (.ldc2_w 158, 3) := by decide +kernel
theorem dX7_readsOrder_44 : decode cX7_readsOrder 44 = .ok (.goto 18, 3) := by decide +kernel
theorem dX7_readsOrder_47 : decode cX7_readsOrder 47 = .ok (.iload_n 1, 1) := by decide +kernel
theorem dX7_readsOrder_48 : decode cX7_readsOrder 48 = .ok (.bipush 111, 2) := by decide +kernel
theorem dX7_readsOrder_50 : decode cX7_readsOrder 50 = .ok (.if_icmp .ne 9, 3) := by decide +kernel
theorem dX7_readsOrder_53 : decode cX7_readsOrder 53 = .ok (.ldc2_w 160, 3) := by decide +kernel
theorem dX7_readsOrder_56 : decode cX7_readsOrder 56 = .ok (.goto 6, 3) := by decide +kernel
theorem dX7_readsOrder_59 : decode cX7_readsOrder 59 = .ok (.ldc2_w 162, 3) := by decide +kernel
theorem dX7_readsOrder_62 : decode cX7_readsOrder 62 = .ok (.invokevirtual 154, 3) := by decide +kernel
theorem dX7_readsOrder_65 : decode cX7_readsOrder 65 = .ok (.ireturn, 1) := by decide +kernel
theorem dX7_readsAddOrAsk_0 : decode cX7_readsAddOrAsk 0 = .ok (.aload_n 0, 1) := by decide +kernel
theorem dX7_readsAddOrAsk_1 : decode cX7_readsAddOrAsk 1 = .ok (.dup, 1) := by decide +kernel
theorem dX7_readsAddOrAsk_2 : decode cX7_readsAddOrAsk 2 = .ok (.getfield 123, 3) := by decide +kernel
theorem dX7_readsAddOrAsk_5 : decode cX7_readsAddOrAsk 5 = .ok (.iconst 1, 1) := by decide +kernel
theorem dX7_readsAddOrAsk_6 : decode cX7_readsAddOrAsk 6 = .ok (.iadd, 1) := by decide +kernel
theorem dX7_readsAddOrAsk_7 : decode cX7_readsAddOrAsk 7 = .ok (.putfield 123, 3) := by decide +kernel
theorem dX7_readsAddOrAsk_10 : decode cX7_readsAddOrAsk 10 = .ok (.aload_n 0, 1) := by decide +kernel
theorem dX7_readsAddOrAsk_11 : decode cX7_readsAddOrAsk 11 = .ok (.aload_n 0, 1) := by decide +kernel
theorem dX7_readsAddOrAsk_12 : decode cX7_readsAddOrAsk 12 = .ok (.aload_n 0, 1) := by decide +kernel
theorem dX7_readsAddOrAsk_13 : decode cX7_readsAddOrAsk 13 = .ok (.getfield 123, 3) := by decide +kernel
theorem dX7_readsAddOrAsk_16 : decode cX7_readsAddOrAsk 16 = .ok (.invokevirtual 126, 3) := by decide +kernel
theorem dX7_readsAddOrAsk_19 : decode cX7_readsAddOrAsk 19 = .ok (.bipush 115, 2) := by decide +kernel
theorem dX7_readsAddOrAsk_21 : decode cX7_readsAddOrAsk 21 = .ok (.if_icmp .ne 8, 3) := by decide +kernel
theorem dX7_readsAddOrAsk_24 : decode cX7_readsAddOrAsk 24 = .ok (.bipush 115, 2) := by decide +kernel
theorem dX7_readsAddOrAsk_26 : decode cX7_readsAddOrAsk 26 = .ok (.goto 5, 3) := by decide +kernel
theorem dX7_readsAddOrAsk_29 : decode cX7_readsAddOrAsk 29 = .ok (.bipush 97, 2) := by decide +kernel
theorem dX7_readsAddOrAsk_31 : decode cX7_readsAddOrAsk 31 = .ok (.putfield 164, 3) := by decide +kernel
theorem dX7_readsAddOrAsk_34 : decode cX7_readsAddOrAsk 34 = .ok (.aload_n 0, 1) := by decide +kernel
theorem dX7_readsAddOrAsk_35 : decode cX7_readsAddOrAsk 35 = .ok (.aload_n 0, 1) := by decide +kernel
theorem dX7_readsAddOrAsk_36 : decode cX7_readsAddOrAsk 36 = .ok (.getfield 164, 3) := by decide +kernel
theorem dX7_readsAddOrAsk_39 : decode cX7_readsAddOrAsk 39 = .ok (.bipush 115, 2) := by decide +kernel
theorem dX7_readsAddOrAsk_41 : decode cX7_readsAddOrAsk 41 = .ok (.if_icmp .ne 9, 3) := by decide +kernel
theorem dX7_readsAddOrAsk_44 : decode cX7_readsAddOrAsk 44 = .ok (.ldc2_w 167, 3) := by decide +kernel
theorem dX7_readsAddOrAsk_47 : decode cX7_readsAddOrAsk 47 = .ok (.goto 6, 3) := by decide +kernel
theorem dX7_readsAddOrAsk_50 : decode cX7_readsAddOrAsk 50 = .ok (.ldc2_w 169, 3) := by decide +kernel
theorem dX7_readsAddOrAsk_53 : decode cX7_readsAddOrAsk 53 = .ok (.invokevirtual 154, 3) := by decide +kernel
theorem dX7_readsAddOrAsk_56 : decode cX7_readsAddOrAsk 56 = .ok (.ifCond .eq 14, 3) := by decide +kernel
theorem dX7_readsAddOrAsk_59 : decode cX7_readsAddOrAsk 59 = .ok (.aload_n 0, 1) := by decide +kernel
theorem dX7_readsAddOrAsk_60 : decode cX7_readsAddOrAsk 60 = .ok (.invokevirtual 171, 3) := by decide +kernel
theorem dX7_readsAddOrAsk_63 : decode cX7_readsAddOrAsk 63 = .ok (.ifCond .eq 7, 3) := by decide +kernel
theorem dX7_readsAddOrAsk_66 : decode cX7_readsAddOrAsk 66 = .ok (.iconst 1, 1) := by decide +kernel
theorem dX7_readsAddOrAsk_67 : decode cX7_readsAddOrAsk 67 = .ok (.goto 4, 3) := by decide +kernel
theorem dX7_readsAddOrAsk_70 : decode cX7_readsAddOrAsk 70 = .ok (.iconst 0, 1) := by decide +kernel
theorem dX7_readsAddOrAsk_71 : decode cX7_readsAddOrAsk 71 = .ok (.ireturn, 1) := by decide +kernel
theorem dX7_readsCommand_0 : decode cX7_readsCommand 0 = .ok (.aload_n 0, 1) := by decide +kernel
theorem dX7_readsCommand_1 : decode cX7_readsCommand 1 = .ok (.aload_n 0, 1) := by decide +kernel
theorem dX7_readsCommand_2 : decode cX7_readsCommand 2 = .ok (.aload_n 0, 1) := by decide +kernel
theorem dX7_readsCommand_3 : decode cX7_readsCommand 3 = .ok (.getfield 123, 3) := by decide +kernel
theorem dX7_readsCommand_6 : decode cX7_readsCommand 6 = .ok (.invokevirtual 126, 3) := by decide +kernel
theorem dX7_readsCommand_9 : decode cX7_readsCommand 9 = .ok (.putfield 164, 3) := by decide +kernel
theorem dX7_readsCommand_12 : decode cX7_readsCommand 12 = .ok (.aload_n 0, 1) := by decide +kernel
theorem dX7_readsCommand_13 : decode cX7_readsCommand 13 = .ok (.getfield 164, 3) := by decide +kernel
theorem dX7_readsCommand_16 : decode cX7_readsCommand 16 = .ok (.tableswitch 185 97 112 #[80, 185, 177, 85, 185, 185, 185, 185, 185, 185, 185, 185, 108, 185, 131, 154], 80) := by decide +kernel
theorem dX7_readsCommand_96 : decode cX7_readsCommand 96 = .ok (.aload_n 0, 1) := by decide +kernel
theorem dX7_readsCommand_97 : decode cX7_readsCommand 97 = .ok (.invokevirtual 175, 3) := by decide +kernel
theorem dX7_readsCommand_100 : decode cX7_readsCommand 100 = .ok (.ireturn, 1) := by decide +kernel
theorem dX7_readsCommand_101 : decode cX7_readsCommand 101 = .ok (.aload_n 0, 1) := by decide +kernel
theorem dX7_readsCommand_102 : decode cX7_readsCommand 102 = .ok (.ldc2_w 178, 3) := by decide +kernel
theorem dX7_readsCommand_105 : decode cX7_readsCommand 105 = .ok (.invokevirtual 154, 3) := by decide +kernel
theorem dX7_readsCommand_108 : decode cX7_readsCommand 108 = .ok (.ifCond .eq 14, 3) := by decide +kernel
theorem dX7_readsCommand_111 : decode cX7_readsCommand 111 = .ok (.aload_n 0, 1) := by decide +kernel
theorem dX7_readsCommand_112 : decode cX7_readsCommand 112 = .ok (.invokevirtual 180, 3) := by decide +kernel
theorem dX7_readsCommand_115 : decode cX7_readsCommand 115 = .ok (.ifCond .eq 7, 3) := by decide +kernel
theorem dX7_readsCommand_118 : decode cX7_readsCommand 118 = .ok (.iconst 1, 1) := by decide +kernel
theorem dX7_readsCommand_119 : decode cX7_readsCommand 119 = .ok (.goto 4, 3) := by decide +kernel
theorem dX7_readsCommand_122 : decode cX7_readsCommand 122 = .ok (.iconst 0, 1) := by decide +kernel
theorem dX7_readsCommand_123 : decode cX7_readsCommand 123 = .ok (.ireturn, 1) := by decide +kernel
theorem dX7_readsCommand_124 : decode cX7_readsCommand 124 = .ok (.aload_n 0, 1) := by decide +kernel
theorem dX7_readsCommand_125 : decode cX7_readsCommand 125 = .ok (.ldc2_w 183, 3) := by decide +kernel
theorem dX7_readsCommand_128 : decode cX7_readsCommand 128 = .ok (.invokevirtual 154, 3) := by decide +kernel
theorem dX7_readsCommand_131 : decode cX7_readsCommand 131 = .ok (.ifCond .eq 14, 3) := by decide +kernel
theorem dX7_readsCommand_134 : decode cX7_readsCommand 134 = .ok (.aload_n 0, 1) := by decide +kernel
theorem dX7_readsCommand_135 : decode cX7_readsCommand 135 = .ok (.invokevirtual 185, 3) := by decide +kernel
theorem dX7_readsCommand_138 : decode cX7_readsCommand 138 = .ok (.ifCond .eq 7, 3) := by decide +kernel
theorem dX7_readsCommand_141 : decode cX7_readsCommand 141 = .ok (.iconst 1, 1) := by decide +kernel
theorem dX7_readsCommand_142 : decode cX7_readsCommand 142 = .ok (.goto 4, 3) := by decide +kernel
theorem dX7_readsCommand_145 : decode cX7_readsCommand 145 = .ok (.iconst 0, 1) := by decide +kernel
theorem dX7_readsCommand_146 : decode cX7_readsCommand 146 = .ok (.ireturn, 1) := by decide +kernel
theorem dX7_readsCommand_147 : decode cX7_readsCommand 147 = .ok (.aload_n 0, 1) := by decide +kernel
theorem dX7_readsCommand_148 : decode cX7_readsCommand 148 = .ok (.ldc2_w 188, 3) := by decide +kernel
theorem dX7_readsCommand_151 : decode cX7_readsCommand 151 = .ok (.invokevirtual 154, 3) := by decide +kernel
theorem dX7_readsCommand_154 : decode cX7_readsCommand 154 = .ok (.ifCond .eq 14, 3) := by decide +kernel
theorem dX7_readsCommand_157 : decode cX7_readsCommand 157 = .ok (.aload_n 0, 1) := by decide +kernel
theorem dX7_readsCommand_158 : decode cX7_readsCommand 158 = .ok (.invokevirtual 190, 3) := by decide +kernel
theorem dX7_readsCommand_161 : decode cX7_readsCommand 161 = .ok (.ifCond .eq 7, 3) := by decide +kernel
theorem dX7_readsCommand_164 : decode cX7_readsCommand 164 = .ok (.iconst 1, 1) := by decide +kernel
theorem dX7_readsCommand_165 : decode cX7_readsCommand 165 = .ok (.goto 4, 3) := by decide +kernel
theorem dX7_readsCommand_168 : decode cX7_readsCommand 168 = .ok (.iconst 0, 1) := by decide +kernel
theorem dX7_readsCommand_169 : decode cX7_readsCommand 169 = .ok (.ireturn, 1) := by decide +kernel
theorem dX7_readsCommand_170 : decode cX7_readsCommand 170 = .ok (.aload_n 0, 1) := by decide +kernel
theorem dX7_readsCommand_171 : decode cX7_readsCommand 171 = .ok (.ldc2_w 193, 3) := by decide +kernel
theorem dX7_readsCommand_174 : decode cX7_readsCommand 174 = .ok (.invokevirtual 154, 3) := by decide +kernel
theorem dX7_readsCommand_177 : decode cX7_readsCommand 177 = .ok (.ifCond .eq 14, 3) := by decide +kernel
theorem dX7_readsCommand_180 : decode cX7_readsCommand 180 = .ok (.aload_n 0, 1) := by decide +kernel
theorem dX7_readsCommand_181 : decode cX7_readsCommand 181 = .ok (.invokevirtual 180, 3) := by decide +kernel
theorem dX7_readsCommand_184 : decode cX7_readsCommand 184 = .ok (.ifCond .eq 7, 3) := by decide +kernel
theorem dX7_readsCommand_187 : decode cX7_readsCommand 187 = .ok (.iconst 1, 1) := by decide +kernel
theorem dX7_readsCommand_188 : decode cX7_readsCommand 188 = .ok (.goto 4, 3) := by decide +kernel
theorem dX7_readsCommand_191 : decode cX7_readsCommand 191 = .ok (.iconst 0, 1) := by decide +kernel
theorem dX7_readsCommand_192 : decode cX7_readsCommand 192 = .ok (.ireturn, 1) := by decide +kernel
theorem dX7_readsCommand_193 : decode cX7_readsCommand 193 = .ok (.aload_n 0, 1) := by decide +kernel
theorem dX7_readsCommand_194 : decode cX7_readsCommand 194 = .ok (.ldc2_w 195, 3) := by decide +kernel
theorem dX7_readsCommand_197 : decode cX7_readsCommand 197 = .ok (.invokevirtual 154, 3) := by decide +kernel
theorem dX7_readsCommand_200 : decode cX7_readsCommand 200 = .ok (.ireturn, 1) := by decide +kernel
theorem dX7_readsCommand_201 : decode cX7_readsCommand 201 = .ok (.iconst 0, 1) := by decide +kernel
theorem dX7_readsCommand_202 : decode cX7_readsCommand 202 = .ok (.ireturn, 1) := by decide +kernel
theorem dX7_findError_0 : decode cX7_findError 0 = .ok (.aload_n 0, 1) := by decide +kernel
theorem dX7_findError_1 : decode cX7_findError 1 = .ok (.iconst 0, 1) := by decide +kernel
theorem dX7_findError_2 : decode cX7_findError 2 = .ok (.putfield 123, 3) := by decide +kernel
theorem dX7_findError_5 : decode cX7_findError 5 = .ok (.aload_n 0, 1) := by decide +kernel
theorem dX7_findError_6 : decode cX7_findError 6 = .ok (.invokevirtual 197, 3) := by decide +kernel
theorem dX7_findError_9 : decode cX7_findError 9 = .ok (.ifCond .ne 8, 3) := by decide +kernel
theorem dX7_findError_12 : decode cX7_findError 12 = .ok (.aload_n 0, 1) := by decide +kernel
theorem dX7_findError_13 : decode cX7_findError 13 = .ok (.getfield 123, 3) := by decide +kernel
theorem dX7_findError_16 : decode cX7_findError 16 = .ok (.ireturn, 1) := by decide +kernel
theorem dX7_findError_17 : decode cX7_findError 17 = .ok (.aload_n 0, 1) := by decide +kernel
theorem dX7_findError_18 : decode cX7_findError 18 = .ok (.getfield 123, 3) := by decide +kernel
theorem dX7_findError_21 : decode cX7_findError 21 = .ok (.aload_n 0, 1) := by decide +kernel
theorem dX7_findError_22 : decode cX7_findError 22 = .ok (.getfield 120, 3) := by decide +kernel
theorem dX7_findError_25 : decode cX7_findError 25 = .ok (.if_icmp .ne 6, 3) := by decide +kernel
theorem dX7_findError_28 : decode cX7_findError 28 = .ok (.bipush (-6), 2) := by decide +kernel
theorem dX7_findError_30 : decode cX7_findError 30 = .ok (.ireturn, 1) := by decide +kernel
theorem dX7_findError_31 : decode cX7_findError 31 = .ok (.aload_n 0, 1) := by decide +kernel
theorem dX7_findError_32 : decode cX7_findError 32 = .ok (.bipush 59, 2) := by decide +kernel
theorem dX7_findError_34 : decode cX7_findError 34 = .ok (.invokevirtual 131, 3) := by decide +kernel
theorem dX7_findError_37 : decode cX7_findError 37 = .ok (.ifCond .ne (-32), 3) := by decide +kernel
theorem dX7_findError_40 : decode cX7_findError 40 = .ok (.aload_n 0, 1) := by decide +kernel
theorem dX7_findError_41 : decode cX7_findError 41 = .ok (.getfield 123, 3) := by decide +kernel
theorem dX7_findError_44 : decode cX7_findError 44 = .ok (.ireturn, 1) := by decide +kernel
theorem dX7_syntaxError_0 : decode cX7_syntaxError 0 = .ok (.aload_n 0, 1) := by decide +kernel
theorem dX7_syntaxError_1 : decode cX7_syntaxError 1 = .ok (.invokevirtual 200, 3) := by decide +kernel
theorem dX7_syntaxError_4 : decode cX7_syntaxError 4 = .ok (.ireturn, 1) := by decide +kernel
theorem dX7_isThere_0 : decode cX7_isThere 0 = .ok (.iconst 0, 1) := by decide +kernel
theorem dX7_isThere_1 : decode cX7_isThere 1 = .ok (.istore_n 3, 1) := by decide +kernel
theorem dX7_isThere_2 : decode cX7_isThere 2 = .ok (.iconst 0, 1) := by decide +kernel
theorem dX7_isThere_3 : decode cX7_isThere 3 = .ok (.istore 4, 2) := by decide +kernel
theorem dX7_isThere_5 : decode cX7_isThere 5 = .ok (.iload 4, 2) := by decide +kernel
theorem dX7_isThere_7 : decode cX7_isThere 7 = .ok (.aload_n 0, 1) := by decide +kernel
theorem dX7_isThere_8 : decode cX7_isThere 8 = .ok (.getfield 7, 3) := by decide +kernel
theorem dX7_isThere_11 : decode cX7_isThere 11 = .ok (.iconst 0, 1) := by decide +kernel
theorem dX7_isThere_12 : decode cX7_isThere 12 = .ok (.iaload, 1) := by decide +kernel
theorem dX7_isThere_13 : decode cX7_isThere 13 = .ok (.if_icmp .ge 95, 3) := by decide +kernel
theorem dX7_isThere_16 : decode cX7_isThere 16 = .ok (.aload_n 0, 1) := by decide +kernel
theorem dX7_isThere_17 : decode cX7_isThere 17 = .ok (.iload 4, 2) := by decide +kernel
theorem dX7_isThere_19 : decode cX7_isThere 19 = .ok (.invokevirtual 58, 3) := by decide +kernel
theorem dX7_isThere_22 : decode cX7_isThere 22 = .ok (.iload_n 2, 1) := by decide +kernel
theorem dX7_isThere_23 : decode cX7_isThere 23 = .ok (.iload_n 1, 1) := by decide +kernel
theorem dX7_isThere_24 : decode cX7_isThere 24 = .ok (.isub, 1) := by decide +kernel
theorem dX7_isThere_25 : decode cX7_isThere 25 = .ok (.if_icmp .ne 7, 3) := by decide +kernel
theorem dX7_isThere_28 : decode cX7_isThere 28 = .ok (.iconst 1, 1) := by decide +kernel
theorem dX7_isThere_29 : decode cX7_isThere 29 = .ok (.goto 4, 3) := by decide +kernel
theorem dX7_isThere_32 : decode cX7_isThere 32 = .ok (.iconst 0, 1) := by decide +kernel
theorem dX7_isThere_33 : decode cX7_isThere 33 = .ok (.istore 5, 2) := by decide +kernel
theorem dX7_isThere_35 : decode cX7_isThere 35 = .ok (.iconst 0, 1) := by decide +kernel
theorem dX7_isThere_36 : decode cX7_isThere 36 = .ok (.istore 6, 2) := by decide +kernel
theorem dX7_isThere_38 : decode cX7_isThere 38 = .ok (.iload 6, 2) := by decide +kernel
theorem dX7_isThere_40 : decode cX7_isThere 40 = .ok (.aload_n 0, 1) := by decide +kernel
theorem dX7_isThere_41 : decode cX7_isThere 41 = .ok (.iload 4, 2) := by decide +kernel
theorem dX7_isThere_43 : decode cX7_isThere 43 = .ok (.invokevirtual 58, 3) := by decide +kernel
theorem dX7_isThere_46 : decode cX7_isThere 46 = .ok (.if_icmp .ge 41, 3) := by decide +kernel
theorem dX7_isThere_49 : decode cX7_isThere 49 = .ok (.iload 5, 2) := by decide +kernel
theorem dX7_isThere_51 : decode cX7_isThere 51 = .ok (.ifCond .eq 36, 3) := by decide +kernel
theorem dX7_isThere_54 : decode cX7_isThere 54 = .ok (.aload_n 0, 1) := by decide +kernel
theorem dX7_isThere_55 : decode cX7_isThere 55 = .ok (.iload 4, 2) := by decide +kernel
theorem dX7_isThere_57 : decode cX7_isThere 57 = .ok (.iload 6, 2) := by decide +kernel
theorem dX7_isThere_59 : decode cX7_isThere 59 = .ok (.invokevirtual 55, 3) := by decide +kernel
theorem dX7_isThere_62 : decode cX7_isThere 62 = .ok (.aload_n 0, 1) := by decide +kernel
theorem dX7_isThere_63 : decode cX7_isThere 63 = .ok (.getfield 16, 3) := by decide +kernel
theorem dX7_isThere_66 : decode cX7_isThere 66 = .ok (.iload_n 1, 1) := by decide +kernel
theorem dX7_isThere_67 : decode cX7_isThere 67 = .ok (.iload 6, 2) := by decide +kernel
theorem dX7_isThere_69 : decode cX7_isThere 69 = .ok (.iadd, 1) := by decide +kernel
theorem dX7_isThere_70 : decode cX7_isThere 70 = .ok (.iaload, 1) := by decide +kernel
theorem dX7_isThere_71 : decode cX7_isThere 71 = .ok (.if_icmp .ne 7, 3) := by decide +kernel
theorem dX7_isThere_74 : decode cX7_isThere 74 = .ok (.iconst 1, 1) := by decide +kernel
theorem dX7_isThere_75 : decode cX7_isThere 75 = .ok (.goto 4, 3) := by decide +kernel
theorem dX7_isThere_78 : decode cX7_isThere 78 = .ok (.iconst 0, 1) := by decide +kernel
theorem dX7_isThere_79 : decode cX7_isThere 79 = .ok (.istore 5, 2) := by decide +kernel
theorem dX7_isThere_81 : decode cX7_isThere 81 = .ok (.iinc 6 1, 3) := by decide +kernel
theorem dX7_isThere_84 : decode cX7_isThere 84 = .ok (.goto (-46), 3) := by decide +kernel
theorem dX7_isThere_87 : decode cX7_isThere 87 = .ok (.iload_n 3, 1) := by decide +kernel
theorem dX7_isThere_88 : decode cX7_isThere 88 = .ok (.ifCond .ne 8, 3) := by decide +kernel
theorem dX7_isThere_91 : decode cX7_isThere 91 = .ok (.iload 5, 2) := by decide +kernel
theorem dX7_isThere_93 : decode cX7_isThere 93 = .ok (.ifCond .eq 7, 3) := by decide +kernel
theorem dX7_isThere_96 : decode cX7_isThere 96 = .ok (.iconst 1, 1) := by decide +kernel
theorem dX7_isThere_97 : decode cX7_isThere 97 = .ok (.goto 4, 3) := by decide +kernel
theorem dX7_isThere_100 : decode cX7_isThere 100 = .ok (.iconst 0, 1) := by decide +kernel
theorem dX7_isThere_101 : decode cX7_isThere 101 = .ok (.istore_n 3, 1) := by decide +kernel
theorem dX7_isThere_102 : decode cX7_isThere 102 = .ok (.iinc 4 1, 3) := by decide +kernel
theorem dX7_isThere_105 : decode cX7_isThere 105 = .ok (.goto (-100), 3) := by decide +kernel
theorem dX7_isThere_108 : decode cX7_isThere 108 = .ok (.iload_n 3, 1) := by decide +kernel
theorem dX7_isThere_109 : decode cX7_isThere 109 = .ok (.ireturn, 1) := by decide +kernel
theorem dX7_whyNotAdded_0 : decode cX7_whyNotAdded 0 = .ok (.aload_n 0, 1) := by decide +kernel
theorem dX7_whyNotAdded_1 : decode cX7_whyNotAdded 1 = .ok (.iload_n 1, 1) := by decide +kernel
theorem dX7_whyNotAdded_2 : decode cX7_whyNotAdded 2 = .ok (.iload_n 2, 1) := by decide +kernel
theorem dX7_whyNotAdded_3 : decode cX7_whyNotAdded 3 = .ok (.invokevirtual 204, 3) := by decide +kernel
theorem dX7_whyNotAdded_6 : decode cX7_whyNotAdded 6 = .ok (.ifCond .eq 8, 3) := by decide +kernel
theorem dX7_whyNotAdded_9 : decode cX7_whyNotAdded 9 = .ok (.bipush (-3), 2) := by decide +kernel
theorem dX7_whyNotAdded_11 : decode cX7_whyNotAdded 11 = .ok (.goto 20, 3) := by decide +kernel
theorem dX7_whyNotAdded_14 : decode cX7_whyNotAdded 14 = .ok (.aload_n 0, 1) := by decide +kernel
theorem dX7_whyNotAdded_15 : decode cX7_whyNotAdded 15 = .ok (.getfield 7, 3) := by decide +kernel
theorem dX7_whyNotAdded_18 : decode cX7_whyNotAdded 18 = .ok (.iconst 0, 1) := by decide +kernel
theorem dX7_whyNotAdded_19 : decode cX7_whyNotAdded 19 = .ok (.iaload, 1) := by decide +kernel
theorem dX7_whyNotAdded_20 : decode cX7_whyNotAdded 20 = .ok (.bipush 16, 2) := by decide +kernel
theorem dX7_whyNotAdded_22 : decode cX7_whyNotAdded 22 = .ok (.if_icmp .ne 8, 3) := by decide +kernel
theorem dX7_whyNotAdded_25 : decode cX7_whyNotAdded 25 = .ok (.bipush (-4), 2) := by decide +kernel
theorem dX7_whyNotAdded_27 : decode cX7_whyNotAdded 27 = .ok (.goto 4, 3) := by decide +kernel
theorem dX7_whyNotAdded_30 : decode cX7_whyNotAdded 30 = .ok (.iconst 0, 1) := by decide +kernel
theorem dX7_whyNotAdded_31 : decode cX7_whyNotAdded 31 = .ok (.ireturn, 1) := by decide +kernel
theorem dX7_adds_0 : decode cX7_adds 0 = .ok (.aload_n 0, 1) := by decide +kernel
theorem dX7_adds_1 : decode cX7_adds 1 = .ok (.getfield 7, 3) := by decide +kernel
theorem dX7_adds_4 : decode cX7_adds 4 = .ok (.iconst 0, 1) := by decide +kernel
theorem dX7_adds_5 : decode cX7_adds 5 = .ok (.iaload, 1) := by decide +kernel
theorem dX7_adds_6 : decode cX7_adds 6 = .ok (.istore_n 3, 1) := by decide +kernel
theorem dX7_adds_7 : decode cX7_adds 7 = .ok (.bipush 28, 2) := by decide +kernel
theorem dX7_adds_9 : decode cX7_adds 9 = .ok (.bipush 26, 2) := by decide +kernel
theorem dX7_adds_11 : decode cX7_adds 11 = .ok (.iload_n 3, 1) := by decide +kernel
theorem dX7_adds_12 : decode cX7_adds 12 = .ok (.imul, 1) := by decide +kernel
theorem dX7_adds_13 : decode cX7_adds 13 = .ok (.iadd, 1) := by decide +kernel
theorem dX7_adds_14 : decode cX7_adds 14 = .ok (.istore 4, 2) := by decide +kernel
theorem dX7_adds_16 : decode cX7_adds 16 = .ok (.aload_n 0, 1) := by decide +kernel
theorem dX7_adds_17 : decode cX7_adds 17 = .ok (.getfield 7, 3) := by decide +kernel
theorem dX7_adds_20 : decode cX7_adds 20 = .ok (.iload 4, 2) := by decide +kernel
theorem dX7_adds_22 : decode cX7_adds 22 = .ok (.iconst 0, 1) := by decide +kernel
theorem dX7_adds_23 : decode cX7_adds 23 = .ok (.iadd, 1) := by decide +kernel
theorem dX7_adds_24 : decode cX7_adds 24 = .ok (.iload_n 2, 1) := by decide +kernel
theorem dX7_adds_25 : decode cX7_adds 25 = .ok (.iload_n 1, 1) := by decide +kernel
theorem dX7_adds_26 : decode cX7_adds 26 = .ok (.isub, 1) := by decide +kernel
theorem dX7_adds_27 : decode cX7_adds 27 = .ok (.iastore, 1) := by decide +kernel
theorem dX7_adds_28 : decode cX7_adds 28 = .ok (.aload_n 0, 1) := by decide +kernel
theorem dX7_adds_29 : decode cX7_adds 29 = .ok (.getfield 7, 3) := by decide +kernel
theorem dX7_adds_32 : decode cX7_adds 32 = .ok (.iload 4, 2) := by decide +kernel
theorem dX7_adds_34 : decode cX7_adds 34 = .ok (.iconst 1, 1) := by decide +kernel
theorem dX7_adds_35 : decode cX7_adds 35 = .ok (.iadd, 1) := by decide +kernel
theorem dX7_adds_36 : decode cX7_adds 36 = .ok (.iconst 0, 1) := by decide +kernel
theorem dX7_adds_37 : decode cX7_adds 37 = .ok (.iastore, 1) := by decide +kernel
theorem dX7_adds_38 : decode cX7_adds 38 = .ok (.iconst 0, 1) := by decide +kernel
theorem dX7_adds_39 : decode cX7_adds 39 = .ok (.istore 5, 2) := by decide +kernel
theorem dX7_adds_41 : decode cX7_adds 41 = .ok (.iload 5, 2) := by decide +kernel
theorem dX7_adds_43 : decode cX7_adds 43 = .ok (.bipush 24, 2) := by decide +kernel
theorem dX7_adds_45 : decode cX7_adds 45 = .ok (.if_icmp .ge 42, 3) := by decide +kernel
theorem dX7_adds_48 : decode cX7_adds 48 = .ok (.aload_n 0, 1) := by decide +kernel
theorem dX7_adds_49 : decode cX7_adds 49 = .ok (.getfield 7, 3) := by decide +kernel
theorem dX7_adds_52 : decode cX7_adds 52 = .ok (.iload 4, 2) := by decide +kernel
theorem dX7_adds_54 : decode cX7_adds 54 = .ok (.iconst 2, 1) := by decide +kernel
theorem dX7_adds_55 : decode cX7_adds 55 = .ok (.iadd, 1) := by decide +kernel
theorem dX7_adds_56 : decode cX7_adds 56 = .ok (.iload 5, 2) := by decide +kernel
theorem dX7_adds_58 : decode cX7_adds 58 = .ok (.iadd, 1) := by decide +kernel
theorem dX7_adds_59 : decode cX7_adds 59 = .ok (.iload_n 1, 1) := by decide +kernel
theorem dX7_adds_60 : decode cX7_adds 60 = .ok (.iload 5, 2) := by decide +kernel
theorem dX7_adds_62 : decode cX7_adds 62 = .ok (.iadd, 1) := by decide +kernel
theorem dX7_adds_63 : decode cX7_adds 63 = .ok (.iload_n 2, 1) := by decide +kernel
theorem dX7_adds_64 : decode cX7_adds 64 = .ok (.if_icmp .ge 15, 3) := by decide +kernel
theorem dX7_adds_67 : decode cX7_adds 67 = .ok (.aload_n 0, 1) := by decide +kernel
theorem dX7_adds_68 : decode cX7_adds 68 = .ok (.getfield 16, 3) := by decide +kernel
theorem dX7_adds_71 : decode cX7_adds 71 = .ok (.iload_n 1, 1) := by decide +kernel
theorem dX7_adds_72 : decode cX7_adds 72 = .ok (.iload 5, 2) := by decide +kernel
theorem dX7_adds_74 : decode cX7_adds 74 = .ok (.iadd, 1) := by decide +kernel
theorem dX7_adds_75 : decode cX7_adds 75 = .ok (.iaload, 1) := by decide +kernel
theorem dX7_adds_76 : decode cX7_adds 76 = .ok (.goto 4, 3) := by decide +kernel
theorem dX7_adds_79 : decode cX7_adds 79 = .ok (.iconst 0, 1) := by decide +kernel
theorem dX7_adds_80 : decode cX7_adds 80 = .ok (.iastore, 1) := by decide +kernel
theorem dX7_adds_81 : decode cX7_adds 81 = .ok (.iinc 5 1, 3) := by decide +kernel
theorem dX7_adds_84 : decode cX7_adds 84 = .ok (.goto (-43), 3) := by decide +kernel
theorem dX7_adds_87 : decode cX7_adds 87 = .ok (.aload_n 0, 1) := by decide +kernel
theorem dX7_adds_88 : decode cX7_adds 88 = .ok (.getfield 7, 3) := by decide +kernel
theorem dX7_adds_91 : decode cX7_adds 91 = .ok (.iconst 0, 1) := by decide +kernel
theorem dX7_adds_92 : decode cX7_adds 92 = .ok (.dup2, 1) := by decide +kernel
theorem dX7_adds_93 : decode cX7_adds 93 = .ok (.iaload, 1) := by decide +kernel
theorem dX7_adds_94 : decode cX7_adds 94 = .ok (.iconst 1, 1) := by decide +kernel
theorem dX7_adds_95 : decode cX7_adds 95 = .ok (.iadd, 1) := by decide +kernel
theorem dX7_adds_96 : decode cX7_adds 96 = .ok (.iastore, 1) := by decide +kernel
theorem dX7_adds_97 : decode cX7_adds 97 = .ok (.iload_n 3, 1) := by decide +kernel
theorem dX7_adds_98 : decode cX7_adds 98 = .ok (.ireturn, 1) := by decide +kernel
theorem dX7_drops_0 : decode cX7_drops 0 = .ok (.aload_n 0, 1) := by decide +kernel
theorem dX7_drops_1 : decode cX7_drops 1 = .ok (.getfield 7, 3) := by decide +kernel
theorem dX7_drops_4 : decode cX7_drops 4 = .ok (.iconst 0, 1) := by decide +kernel
theorem dX7_drops_5 : decode cX7_drops 5 = .ok (.dup2, 1) := by decide +kernel
theorem dX7_drops_6 : decode cX7_drops 6 = .ok (.iaload, 1) := by decide +kernel
theorem dX7_drops_7 : decode cX7_drops 7 = .ok (.iconst 1, 1) := by decide +kernel
theorem dX7_drops_8 : decode cX7_drops 8 = .ok (.isub, 1) := by decide +kernel
theorem dX7_drops_9 : decode cX7_drops 9 = .ok (.iastore, 1) := by decide +kernel
theorem dX7_drops_10 : decode cX7_drops 10 = .ok (.bipush 28, 2) := by decide +kernel
theorem dX7_drops_12 : decode cX7_drops 12 = .ok (.bipush 26, 2) := by decide +kernel
theorem dX7_drops_14 : decode cX7_drops 14 = .ok (.iload_n 1, 1) := by decide +kernel
theorem dX7_drops_15 : decode cX7_drops 15 = .ok (.imul, 1) := by decide +kernel
theorem dX7_drops_16 : decode cX7_drops 16 = .ok (.iadd, 1) := by decide +kernel
theorem dX7_drops_17 : decode cX7_drops 17 = .ok (.istore_n 2, 1) := by decide +kernel
theorem dX7_drops_18 : decode cX7_drops 18 = .ok (.iload_n 2, 1) := by decide +kernel
theorem dX7_drops_19 : decode cX7_drops 19 = .ok (.bipush 28, 2) := by decide +kernel
theorem dX7_drops_21 : decode cX7_drops 21 = .ok (.bipush 26, 2) := by decide +kernel
theorem dX7_drops_23 : decode cX7_drops 23 = .ok (.aload_n 0, 1) := by decide +kernel
theorem dX7_drops_24 : decode cX7_drops 24 = .ok (.getfield 7, 3) := by decide +kernel
theorem dX7_drops_27 : decode cX7_drops 27 = .ok (.iconst 0, 1) := by decide +kernel
theorem dX7_drops_28 : decode cX7_drops 28 = .ok (.iaload, 1) := by decide +kernel
theorem dX7_drops_29 : decode cX7_drops 29 = .ok (.imul, 1) := by decide +kernel
theorem dX7_drops_30 : decode cX7_drops 30 = .ok (.iadd, 1) := by decide +kernel
theorem dX7_drops_31 : decode cX7_drops 31 = .ok (.if_icmp .ge 24, 3) := by decide +kernel
theorem dX7_drops_34 : decode cX7_drops 34 = .ok (.aload_n 0, 1) := by decide +kernel
theorem dX7_drops_35 : decode cX7_drops 35 = .ok (.getfield 7, 3) := by decide +kernel
theorem dX7_drops_38 : decode cX7_drops 38 = .ok (.iload_n 2, 1) := by decide +kernel
theorem dX7_drops_39 : decode cX7_drops 39 = .ok (.aload_n 0, 1) := by decide +kernel
theorem dX7_drops_40 : decode cX7_drops 40 = .ok (.getfield 7, 3) := by decide +kernel
theorem dX7_drops_43 : decode cX7_drops 43 = .ok (.iload_n 2, 1) := by decide +kernel
theorem dX7_drops_44 : decode cX7_drops 44 = .ok (.bipush 26, 2) := by decide +kernel
theorem dX7_drops_46 : decode cX7_drops 46 = .ok (.iadd, 1) := by decide +kernel
theorem dX7_drops_47 : decode cX7_drops 47 = .ok (.iaload, 1) := by decide +kernel
theorem dX7_drops_48 : decode cX7_drops 48 = .ok (.iastore, 1) := by decide +kernel
theorem dX7_drops_49 : decode cX7_drops 49 = .ok (.iinc 2 1, 3) := by decide +kernel
theorem dX7_drops_52 : decode cX7_drops 52 = .ok (.goto (-34), 3) := by decide +kernel
theorem dX7_drops_55 : decode cX7_drops 55 = .ok (.bipush 28, 2) := by decide +kernel
theorem dX7_drops_57 : decode cX7_drops 57 = .ok (.bipush 26, 2) := by decide +kernel
theorem dX7_drops_59 : decode cX7_drops 59 = .ok (.aload_n 0, 1) := by decide +kernel
theorem dX7_drops_60 : decode cX7_drops 60 = .ok (.getfield 7, 3) := by decide +kernel
theorem dX7_drops_63 : decode cX7_drops 63 = .ok (.iconst 0, 1) := by decide +kernel
theorem dX7_drops_64 : decode cX7_drops 64 = .ok (.iaload, 1) := by decide +kernel
theorem dX7_drops_65 : decode cX7_drops 65 = .ok (.imul, 1) := by decide +kernel
theorem dX7_drops_66 : decode cX7_drops 66 = .ok (.iadd, 1) := by decide +kernel
theorem dX7_drops_67 : decode cX7_drops 67 = .ok (.istore_n 2, 1) := by decide +kernel
theorem dX7_drops_68 : decode cX7_drops 68 = .ok (.iload_n 2, 1) := by decide +kernel
theorem dX7_drops_69 : decode cX7_drops 69 = .ok (.sipush 444, 3) := by decide +kernel
theorem dX7_drops_72 : decode cX7_drops 72 = .ok (.if_icmp .ge 16, 3) := by decide +kernel
theorem dX7_drops_75 : decode cX7_drops 75 = .ok (.aload_n 0, 1) := by decide +kernel
theorem dX7_drops_76 : decode cX7_drops 76 = .ok (.getfield 7, 3) := by decide +kernel
theorem dX7_drops_79 : decode cX7_drops 79 = .ok (.iload_n 2, 1) := by decide +kernel
theorem dX7_drops_80 : decode cX7_drops 80 = .ok (.iconst 0, 1) := by decide +kernel
theorem dX7_drops_81 : decode cX7_drops 81 = .ok (.iastore, 1) := by decide +kernel
theorem dX7_drops_82 : decode cX7_drops 82 = .ok (.iinc 2 1, 3) := by decide +kernel
theorem dX7_drops_85 : decode cX7_drops 85 = .ok (.goto (-17), 3) := by decide +kernel
theorem dX7_drops_88 : decode cX7_drops 88 = .ok (.aload_n 0, 1) := by decide +kernel
theorem dX7_drops_89 : decode cX7_drops 89 = .ok (.getfield 7, 3) := by decide +kernel
theorem dX7_drops_92 : decode cX7_drops 92 = .ok (.iconst 0, 1) := by decide +kernel
theorem dX7_drops_93 : decode cX7_drops 93 = .ok (.iaload, 1) := by decide +kernel
theorem dX7_drops_94 : decode cX7_drops 94 = .ok (.ireturn, 1) := by decide +kernel
theorem dX7_clearsQuery_0 : decode cX7_clearsQuery 0 = .ok (.iconst 0, 1) := by decide +kernel
theorem dX7_clearsQuery_1 : decode cX7_clearsQuery 1 = .ok (.istore_n 1, 1) := by decide +kernel
theorem dX7_clearsQuery_2 : decode cX7_clearsQuery 2 = .ok (.iload_n 1, 1) := by decide +kernel
theorem dX7_clearsQuery_3 : decode cX7_clearsQuery 3 = .ok (.bipush 24, 2) := by decide +kernel
theorem dX7_clearsQuery_5 : decode cX7_clearsQuery 5 = .ok (.if_icmp .gt 18, 3) := by decide +kernel
theorem dX7_clearsQuery_8 : decode cX7_clearsQuery 8 = .ok (.aload_n 0, 1) := by decide +kernel
theorem dX7_clearsQuery_9 : decode cX7_clearsQuery 9 = .ok (.getfield 7, 3) := by decide +kernel
theorem dX7_clearsQuery_12 : decode cX7_clearsQuery 12 = .ok (.iconst 3, 1) := by decide +kernel
theorem dX7_clearsQuery_13 : decode cX7_clearsQuery 13 = .ok (.iload_n 1, 1) := by decide +kernel
theorem dX7_clearsQuery_14 : decode cX7_clearsQuery 14 = .ok (.iadd, 1) := by decide +kernel
theorem dX7_clearsQuery_15 : decode cX7_clearsQuery 15 = .ok (.iconst 0, 1) := by decide +kernel
theorem dX7_clearsQuery_16 : decode cX7_clearsQuery 16 = .ok (.iastore, 1) := by decide +kernel
theorem dX7_clearsQuery_17 : decode cX7_clearsQuery 17 = .ok (.iinc 1 1, 3) := by decide +kernel
theorem dX7_clearsQuery_20 : decode cX7_clearsQuery 20 = .ok (.goto (-18), 3) := by decide +kernel
theorem dX7_clearsQuery_23 : decode cX7_clearsQuery 23 = .ok (.return_, 1) := by decide +kernel
theorem dX7_picks_0 : decode cX7_picks 0 = .ok (.aload_n 0, 1) := by decide +kernel
theorem dX7_picks_1 : decode cX7_picks 1 = .ok (.getfield 28, 3) := by decide +kernel
theorem dX7_picks_4 : decode cX7_picks 4 = .ok (.iload_n 1, 1) := by decide +kernel
theorem dX7_picks_5 : decode cX7_picks 5 = .ok (.iaload, 1) := by decide +kernel
theorem dX7_picks_6 : decode cX7_picks 6 = .ok (.istore_n 2, 1) := by decide +kernel
theorem dX7_picks_7 : decode cX7_picks 7 = .ok (.aload_n 0, 1) := by decide +kernel
theorem dX7_picks_8 : decode cX7_picks 8 = .ok (.getfield 7, 3) := by decide +kernel
theorem dX7_picks_11 : decode cX7_picks 11 = .ok (.bipush 28, 2) := by decide +kernel
theorem dX7_picks_13 : decode cX7_picks 13 = .ok (.bipush 26, 2) := by decide +kernel
theorem dX7_picks_15 : decode cX7_picks 15 = .ok (.iload_n 2, 1) := by decide +kernel
theorem dX7_picks_16 : decode cX7_picks 16 = .ok (.imul, 1) := by decide +kernel
theorem dX7_picks_17 : decode cX7_picks 17 = .ok (.iadd, 1) := by decide +kernel
theorem dX7_picks_18 : decode cX7_picks 18 = .ok (.iconst 1, 1) := by decide +kernel
theorem dX7_picks_19 : decode cX7_picks 19 = .ok (.iadd, 1) := by decide +kernel
theorem dX7_picks_20 : decode cX7_picks 20 = .ok (.dup2, 1) := by decide +kernel
theorem dX7_picks_21 : decode cX7_picks 21 = .ok (.iaload, 1) := by decide +kernel
theorem dX7_picks_22 : decode cX7_picks 22 = .ok (.iconst 1, 1) := by decide +kernel
theorem dX7_picks_23 : decode cX7_picks 23 = .ok (.iadd, 1) := by decide +kernel
theorem dX7_picks_24 : decode cX7_picks 24 = .ok (.iastore, 1) := by decide +kernel
theorem dX7_picks_25 : decode cX7_picks 25 = .ok (.aload_n 0, 1) := by decide +kernel
theorem dX7_picks_26 : decode cX7_picks 26 = .ok (.invokevirtual 207, 3) := by decide +kernel
theorem dX7_picks_29 : decode cX7_picks 29 = .ok (.iload_n 2, 1) := by decide +kernel
theorem dX7_picks_30 : decode cX7_picks 30 = .ok (.ireturn, 1) := by decide +kernel
theorem dX7_isRank_0 : decode cX7_isRank 0 = .ok (.aload_n 0, 1) := by decide +kernel
theorem dX7_isRank_1 : decode cX7_isRank 1 = .ok (.invokevirtual 210, 3) := by decide +kernel
theorem dX7_isRank_4 : decode cX7_isRank 4 = .ok (.iload_n 1, 1) := by decide +kernel
theorem dX7_isRank_5 : decode cX7_isRank 5 = .ok (.iconst 0, 1) := by decide +kernel
theorem dX7_isRank_6 : decode cX7_isRank 6 = .ok (.aload_n 0, 1) := by decide +kernel
theorem dX7_isRank_7 : decode cX7_isRank 7 = .ok (.getfield 93, 3) := by decide +kernel
theorem dX7_isRank_10 : decode cX7_isRank 10 = .ok (.iconst 1, 1) := by decide +kernel
theorem dX7_isRank_11 : decode cX7_isRank 11 = .ok (.isub, 1) := by decide +kernel
theorem dX7_isRank_12 : decode cX7_isRank 12 = .ok (.invokestatic 47, 3) := by decide +kernel
theorem dX7_isRank_15 : decode cX7_isRank 15 = .ok (.ireturn, 1) := by decide +kernel
theorem dX7_mayDo_0 : decode cX7_mayDo 0 = .ok (.aload_n 0, 1) := by decide +kernel
theorem dX7_mayDo_1 : decode cX7_mayDo 1 = .ok (.getfield 164, 3) := by decide +kernel
theorem dX7_mayDo_4 : decode cX7_mayDo 4 = .ok (.lookupswitch 75 #[(97, 36), (100, 57), (112, 66)], 36) := by decide +kernel
theorem dX7_mayDo_40 : decode cX7_mayDo 40 = .ok (.aload_n 0, 1) := by decide +kernel
theorem dX7_mayDo_41 : decode cX7_mayDo 41 = .ok (.aload_n 0, 1) := by decide +kernel
theorem dX7_mayDo_42 : decode cX7_mayDo 42 = .ok (.getfield 134, 3) := by decide +kernel
theorem dX7_mayDo_45 : decode cX7_mayDo 45 = .ok (.aload_n 0, 1) := by decide +kernel
theorem dX7_mayDo_46 : decode cX7_mayDo 46 = .ok (.getfield 140, 3) := by decide +kernel
theorem dX7_mayDo_49 : decode cX7_mayDo 49 = .ok (.invokevirtual 213, 3) := by decide +kernel
theorem dX7_mayDo_52 : decode cX7_mayDo 52 = .ok (.ifCond .ne 7, 3) := by decide +kernel
theorem dX7_mayDo_55 : decode cX7_mayDo 55 = .ok (.iconst 1, 1) := by decide +kernel
theorem dX7_mayDo_56 : decode cX7_mayDo 56 = .ok (.goto 4, 3) := by decide +kernel
theorem dX7_mayDo_59 : decode cX7_mayDo 59 = .ok (.iconst 0, 1) := by decide +kernel
theorem dX7_mayDo_60 : decode cX7_mayDo 60 = .ok (.ireturn, 1) := by decide +kernel
theorem dX7_mayDo_61 : decode cX7_mayDo 61 = .ok (.aload_n 0, 1) := by decide +kernel
theorem dX7_mayDo_62 : decode cX7_mayDo 62 = .ok (.aload_n 0, 1) := by decide +kernel
theorem dX7_mayDo_63 : decode cX7_mayDo 63 = .ok (.getfield 143, 3) := by decide +kernel
theorem dX7_mayDo_66 : decode cX7_mayDo 66 = .ok (.invokevirtual 216, 3) := by decide +kernel
theorem dX7_mayDo_69 : decode cX7_mayDo 69 = .ok (.ireturn, 1) := by decide +kernel
theorem dX7_mayDo_70 : decode cX7_mayDo 70 = .ok (.aload_n 0, 1) := by decide +kernel
theorem dX7_mayDo_71 : decode cX7_mayDo 71 = .ok (.aload_n 0, 1) := by decide +kernel
theorem dX7_mayDo_72 : decode cX7_mayDo 72 = .ok (.getfield 143, 3) := by decide +kernel
theorem dX7_mayDo_75 : decode cX7_mayDo 75 = .ok (.invokevirtual 219, 3) := by decide +kernel
theorem dX7_mayDo_78 : decode cX7_mayDo 78 = .ok (.ireturn, 1) := by decide +kernel
theorem dX7_mayDo_79 : decode cX7_mayDo 79 = .ok (.iconst 1, 1) := by decide +kernel
theorem dX7_mayDo_80 : decode cX7_mayDo 80 = .ok (.ireturn, 1) := by decide +kernel
theorem dX7_does_0 : decode cX7_does 0 = .ok (.aload_n 0, 1) := by decide +kernel
theorem dX7_does_1 : decode cX7_does 1 = .ok (.getfield 164, 3) := by decide +kernel
theorem dX7_does_4 : decode cX7_does 4 = .ok (.tableswitch 218 97 115 #[92, 218, 218, 108, 218, 218, 218, 218, 218, 218, 218, 218, 120, 218, 133, 146, 218, 218, 158], 92) := by decide +kernel
theorem dX7_does_96 : decode cX7_does 96 = .ok (.aload_n 0, 1) := by decide +kernel
theorem dX7_does_97 : decode cX7_does 97 = .ok (.aload_n 0, 1) := by decide +kernel
theorem dX7_does_98 : decode cX7_does 98 = .ok (.getfield 134, 3) := by decide +kernel
theorem dX7_does_101 : decode cX7_does 101 = .ok (.aload_n 0, 1) := by decide +kernel
theorem dX7_does_102 : decode cX7_does 102 = .ok (.getfield 140, 3) := by decide +kernel
theorem dX7_does_105 : decode cX7_does 105 = .ok (.invokevirtual 222, 3) := by decide +kernel
theorem dX7_does_108 : decode cX7_does 108 = .ok (.pop, 1) := by decide +kernel
theorem dX7_does_109 : decode cX7_does 109 = .ok (.goto 117, 3) := by decide +kernel
theorem dX7_does_112 : decode cX7_does 112 = .ok (.aload_n 0, 1) := by decide +kernel
theorem dX7_does_113 : decode cX7_does 113 = .ok (.aload_n 0, 1) := by decide +kernel
theorem dX7_does_114 : decode cX7_does 114 = .ok (.getfield 143, 3) := by decide +kernel
theorem dX7_does_117 : decode cX7_does 117 = .ok (.invokevirtual 225, 3) := by decide +kernel
theorem dX7_does_120 : decode cX7_does 120 = .ok (.pop, 1) := by decide +kernel
theorem dX7_does_121 : decode cX7_does 121 = .ok (.goto 105, 3) := by decide +kernel
theorem dX7_does_124 : decode cX7_does 124 = .ok (.aload_n 0, 1) := by decide +kernel
theorem dX7_does_125 : decode cX7_does 125 = .ok (.getfield 7, 3) := by decide +kernel
theorem dX7_does_128 : decode cX7_does 128 = .ok (.iconst 1, 1) := by decide +kernel
theorem dX7_does_129 : decode cX7_does 129 = .ok (.aload_n 0, 1) := by decide +kernel
theorem dX7_does_130 : decode cX7_does 130 = .ok (.getfield 143, 3) := by decide +kernel
theorem dX7_does_133 : decode cX7_does 133 = .ok (.iastore, 1) := by decide +kernel
theorem dX7_does_134 : decode cX7_does 134 = .ok (.goto 92, 3) := by decide +kernel
theorem dX7_does_137 : decode cX7_does 137 = .ok (.aload_n 0, 1) := by decide +kernel
theorem dX7_does_138 : decode cX7_does 138 = .ok (.getfield 7, 3) := by decide +kernel
theorem dX7_does_141 : decode cX7_does 141 = .ok (.iconst 2, 1) := by decide +kernel
theorem dX7_does_142 : decode cX7_does 142 = .ok (.aload_n 0, 1) := by decide +kernel
theorem dX7_does_143 : decode cX7_does 143 = .ok (.getfield 143, 3) := by decide +kernel
theorem dX7_does_146 : decode cX7_does 146 = .ok (.iastore, 1) := by decide +kernel
theorem dX7_does_147 : decode cX7_does 147 = .ok (.goto 79, 3) := by decide +kernel
theorem dX7_does_150 : decode cX7_does 150 = .ok (.aload_n 0, 1) := by decide +kernel
theorem dX7_does_151 : decode cX7_does 151 = .ok (.aload_n 0, 1) := by decide +kernel
theorem dX7_does_152 : decode cX7_does 152 = .ok (.getfield 143, 3) := by decide +kernel
theorem dX7_does_155 : decode cX7_does 155 = .ok (.invokevirtual 228, 3) := by decide +kernel
theorem dX7_does_158 : decode cX7_does 158 = .ok (.pop, 1) := by decide +kernel
theorem dX7_does_159 : decode cX7_does 159 = .ok (.goto 67, 3) := by decide +kernel
theorem dX7_does_162 : decode cX7_does 162 = .ok (.aload_n 0, 1) := by decide +kernel
theorem dX7_does_163 : decode cX7_does 163 = .ok (.invokevirtual 207, 3) := by decide +kernel
theorem dX7_does_166 : decode cX7_does 166 = .ok (.aload_n 0, 1) := by decide +kernel
theorem dX7_does_167 : decode cX7_does 167 = .ok (.getfield 134, 3) := by decide +kernel
theorem dX7_does_170 : decode cX7_does 170 = .ok (.istore_n 1, 1) := by decide +kernel
theorem dX7_does_171 : decode cX7_does 171 = .ok (.iload_n 1, 1) := by decide +kernel
theorem dX7_does_172 : decode cX7_does 172 = .ok (.aload_n 0, 1) := by decide +kernel
theorem dX7_does_173 : decode cX7_does 173 = .ok (.getfield 140, 3) := by decide +kernel
theorem dX7_does_176 : decode cX7_does 176 = .ok (.if_icmp .ge 28, 3) := by decide +kernel
theorem dX7_does_179 : decode cX7_does 179 = .ok (.aload_n 0, 1) := by decide +kernel
theorem dX7_does_180 : decode cX7_does 180 = .ok (.getfield 7, 3) := by decide +kernel
theorem dX7_does_183 : decode cX7_does 183 = .ok (.iconst 4, 1) := by decide +kernel
theorem dX7_does_184 : decode cX7_does 184 = .ok (.iload_n 1, 1) := by decide +kernel
theorem dX7_does_185 : decode cX7_does 185 = .ok (.iadd, 1) := by decide +kernel
theorem dX7_does_186 : decode cX7_does 186 = .ok (.aload_n 0, 1) := by decide +kernel
theorem dX7_does_187 : decode cX7_does 187 = .ok (.getfield 134, 3) := by decide +kernel
theorem dX7_does_190 : decode cX7_does 190 = .ok (.isub, 1) := by decide +kernel
theorem dX7_does_191 : decode cX7_does 191 = .ok (.aload_n 0, 1) := by decide +kernel
theorem dX7_does_192 : decode cX7_does 192 = .ok (.getfield 16, 3) := by decide +kernel
theorem dX7_does_195 : decode cX7_does 195 = .ok (.iload_n 1, 1) := by decide +kernel
theorem dX7_does_196 : decode cX7_does 196 = .ok (.iaload, 1) := by decide +kernel
theorem dX7_does_197 : decode cX7_does 197 = .ok (.iastore, 1) := by decide +kernel
theorem dX7_does_198 : decode cX7_does 198 = .ok (.iinc 1 1, 3) := by decide +kernel
theorem dX7_does_201 : decode cX7_does 201 = .ok (.goto (-30), 3) := by decide +kernel
theorem dX7_does_204 : decode cX7_does 204 = .ok (.aload_n 0, 1) := by decide +kernel
theorem dX7_does_205 : decode cX7_does 205 = .ok (.getfield 7, 3) := by decide +kernel
theorem dX7_does_208 : decode cX7_does 208 = .ok (.iconst 3, 1) := by decide +kernel
theorem dX7_does_209 : decode cX7_does 209 = .ok (.aload_n 0, 1) := by decide +kernel
theorem dX7_does_210 : decode cX7_does 210 = .ok (.getfield 140, 3) := by decide +kernel
theorem dX7_does_213 : decode cX7_does 213 = .ok (.aload_n 0, 1) := by decide +kernel
theorem dX7_does_214 : decode cX7_does 214 = .ok (.getfield 134, 3) := by decide +kernel
theorem dX7_does_217 : decode cX7_does 217 = .ok (.isub, 1) := by decide +kernel
theorem dX7_does_218 : decode cX7_does 218 = .ok (.iastore, 1) := by decide +kernel
theorem dX7_does_219 : decode cX7_does 219 = .ok (.goto 7, 3) := by decide +kernel
theorem dX7_does_222 : decode cX7_does 222 = .ok (.aload_n 0, 1) := by decide +kernel
theorem dX7_does_223 : decode cX7_does 223 = .ok (.invokevirtual 207, 3) := by decide +kernel
theorem dX7_does_226 : decode cX7_does 226 = .ok (.return_, 1) := by decide +kernel
theorem dX7_carryOut_0 : decode cX7_carryOut 0 = .ok (.aload_n 0, 1) := by decide +kernel
theorem dX7_carryOut_1 : decode cX7_carryOut 1 = .ok (.invokevirtual 200, 3) := by decide +kernel
theorem dX7_carryOut_4 : decode cX7_carryOut 4 = .ok (.bipush (-6), 2) := by decide +kernel
theorem dX7_carryOut_6 : decode cX7_carryOut 6 = .ok (.if_icmp .eq 6, 3) := by decide +kernel
theorem dX7_carryOut_9 : decode cX7_carryOut 9 = .ok (.bipush (-5), 2) := by decide +kernel
theorem dX7_carryOut_11 : decode cX7_carryOut 11 = .ok (.ireturn, 1) := by decide +kernel
theorem dX7_carryOut_12 : decode cX7_carryOut 12 = .ok (.aload_n 0, 1) := by decide +kernel
theorem dX7_carryOut_13 : decode cX7_carryOut 13 = .ok (.invokevirtual 231, 3) := by decide +kernel
theorem dX7_carryOut_16 : decode cX7_carryOut 16 = .ok (.iconst 0, 1) := by decide +kernel
theorem dX7_carryOut_17 : decode cX7_carryOut 17 = .ok (.istore_n 1, 1) := by decide +kernel
theorem dX7_carryOut_18 : decode cX7_carryOut 18 = .ok (.aload_n 0, 1) := by decide +kernel
theorem dX7_carryOut_19 : decode cX7_carryOut 19 = .ok (.iconst 0, 1) := by decide +kernel
theorem dX7_carryOut_20 : decode cX7_carryOut 20 = .ok (.putfield 123, 3) := by decide +kernel
theorem dX7_carryOut_23 : decode cX7_carryOut 23 = .ok (.iconst 1, 1) := by decide +kernel
theorem dX7_carryOut_24 : decode cX7_carryOut 24 = .ok (.istore_n 2, 1) := by decide +kernel
theorem dX7_carryOut_25 : decode cX7_carryOut 25 = .ok (.iload_n 2, 1) := by decide +kernel
theorem dX7_carryOut_26 : decode cX7_carryOut 26 = .ok (.ifCond .eq 45, 3) := by decide +kernel
theorem dX7_carryOut_29 : decode cX7_carryOut 29 = .ok (.aload_n 0, 1) := by decide +kernel
theorem dX7_carryOut_30 : decode cX7_carryOut 30 = .ok (.getfield 123, 3) := by decide +kernel
theorem dX7_carryOut_33 : decode cX7_carryOut 33 = .ok (.aload_n 0, 1) := by decide +kernel
theorem dX7_carryOut_34 : decode cX7_carryOut 34 = .ok (.getfield 120, 3) := by decide +kernel
theorem dX7_carryOut_37 : decode cX7_carryOut 37 = .ok (.if_icmp .ge 34, 3) := by decide +kernel
theorem dX7_carryOut_40 : decode cX7_carryOut 40 = .ok (.aload_n 0, 1) := by decide +kernel
theorem dX7_carryOut_41 : decode cX7_carryOut 41 = .ok (.invokevirtual 197, 3) := by decide +kernel
theorem dX7_carryOut_44 : decode cX7_carryOut 44 = .ok (.pop, 1) := by decide +kernel
theorem dX7_carryOut_45 : decode cX7_carryOut 45 = .ok (.aload_n 0, 1) := by decide +kernel
theorem dX7_carryOut_46 : decode cX7_carryOut 46 = .ok (.bipush 59, 2) := by decide +kernel
theorem dX7_carryOut_48 : decode cX7_carryOut 48 = .ok (.invokevirtual 131, 3) := by decide +kernel
theorem dX7_carryOut_51 : decode cX7_carryOut 51 = .ok (.pop, 1) := by decide +kernel
theorem dX7_carryOut_52 : decode cX7_carryOut 52 = .ok (.aload_n 0, 1) := by decide +kernel
theorem dX7_carryOut_53 : decode cX7_carryOut 53 = .ok (.invokevirtual 234, 3) := by decide +kernel
theorem dX7_carryOut_56 : decode cX7_carryOut 56 = .ok (.istore_n 2, 1) := by decide +kernel
theorem dX7_carryOut_57 : decode cX7_carryOut 57 = .ok (.iload_n 2, 1) := by decide +kernel
theorem dX7_carryOut_58 : decode cX7_carryOut 58 = .ok (.ifCond .eq (-33), 3) := by decide +kernel
theorem dX7_carryOut_61 : decode cX7_carryOut 61 = .ok (.aload_n 0, 1) := by decide +kernel
theorem dX7_carryOut_62 : decode cX7_carryOut 62 = .ok (.invokevirtual 237, 3) := by decide +kernel
theorem dX7_carryOut_65 : decode cX7_carryOut 65 = .ok (.iinc 1 1, 3) := by decide +kernel
theorem dX7_carryOut_68 : decode cX7_carryOut 68 = .ok (.goto (-43), 3) := by decide +kernel
theorem dX7_carryOut_71 : decode cX7_carryOut 71 = .ok (.aload_n 0, 1) := by decide +kernel
theorem dX7_carryOut_72 : decode cX7_carryOut 72 = .ok (.iconst 0, 1) := by decide +kernel
theorem dX7_carryOut_73 : decode cX7_carryOut 73 = .ok (.putfield 120, 3) := by decide +kernel
theorem dX7_carryOut_76 : decode cX7_carryOut 76 = .ok (.iload_n 1, 1) := by decide +kernel
theorem dX7_carryOut_77 : decode cX7_carryOut 77 = .ok (.ireturn, 1) := by decide +kernel
theorem dX7_whyNotTyped_0 : decode cX7_whyNotTyped 0 = .ok (.aload_n 0, 1) := by decide +kernel
theorem dX7_whyNotTyped_1 : decode cX7_whyNotTyped 1 = .ok (.iconst 0, 1) := by decide +kernel
theorem dX7_whyNotTyped_2 : decode cX7_whyNotTyped 2 = .ok (.putfield 123, 3) := by decide +kernel
theorem dX7_whyNotTyped_5 : decode cX7_whyNotTyped 5 = .ok (.aload_n 0, 1) := by decide +kernel
theorem dX7_whyNotTyped_6 : decode cX7_whyNotTyped 6 = .ok (.invokevirtual 171, 3) := by decide +kernel
theorem dX7_whyNotTyped_9 : decode cX7_whyNotTyped 9 = .ok (.ifCond .eq 14, 3) := by decide +kernel
theorem dX7_whyNotTyped_12 : decode cX7_whyNotTyped 12 = .ok (.aload_n 0, 1) := by decide +kernel
theorem dX7_whyNotTyped_13 : decode cX7_whyNotTyped 13 = .ok (.getfield 123, 3) := by decide +kernel
theorem dX7_whyNotTyped_16 : decode cX7_whyNotTyped 16 = .ok (.aload_n 0, 1) := by decide +kernel
theorem dX7_whyNotTyped_17 : decode cX7_whyNotTyped 17 = .ok (.getfield 120, 3) := by decide +kernel
theorem dX7_whyNotTyped_20 : decode cX7_whyNotTyped 20 = .ok (.if_icmp .ge 6, 3) := by decide +kernel
theorem dX7_whyNotTyped_23 : decode cX7_whyNotTyped 23 = .ok (.bipush (-5), 2) := by decide +kernel
theorem dX7_whyNotTyped_25 : decode cX7_whyNotTyped 25 = .ok (.ireturn, 1) := by decide +kernel
theorem dX7_whyNotTyped_26 : decode cX7_whyNotTyped 26 = .ok (.aload_n 0, 1) := by decide +kernel
theorem dX7_whyNotTyped_27 : decode cX7_whyNotTyped 27 = .ok (.iconst 0, 1) := by decide +kernel
theorem dX7_whyNotTyped_28 : decode cX7_whyNotTyped 28 = .ok (.aload_n 0, 1) := by decide +kernel
theorem dX7_whyNotTyped_29 : decode cX7_whyNotTyped 29 = .ok (.getfield 120, 3) := by decide +kernel
theorem dX7_whyNotTyped_32 : decode cX7_whyNotTyped 32 = .ok (.invokevirtual 213, 3) := by decide +kernel
theorem dX7_whyNotTyped_35 : decode cX7_whyNotTyped 35 = .ok (.ireturn, 1) := by decide +kernel
theorem dX7_add_0 : decode cX7_add 0 = .ok (.aload_n 0, 1) := by decide +kernel
theorem dX7_add_1 : decode cX7_add 1 = .ok (.invokevirtual 240, 3) := by decide +kernel
theorem dX7_add_4 : decode cX7_add 4 = .ok (.istore_n 1, 1) := by decide +kernel
theorem dX7_add_5 : decode cX7_add 5 = .ok (.iload_n 1, 1) := by decide +kernel
theorem dX7_add_6 : decode cX7_add 6 = .ok (.ifCond .ge 5, 3) := by decide +kernel
theorem dX7_add_9 : decode cX7_add 9 = .ok (.iload_n 1, 1) := by decide +kernel
theorem dX7_add_10 : decode cX7_add 10 = .ok (.ireturn, 1) := by decide +kernel
theorem dX7_add_11 : decode cX7_add 11 = .ok (.aload_n 0, 1) := by decide +kernel
theorem dX7_add_12 : decode cX7_add 12 = .ok (.invokevirtual 231, 3) := by decide +kernel
theorem dX7_add_15 : decode cX7_add 15 = .ok (.aload_n 0, 1) := by decide +kernel
theorem dX7_add_16 : decode cX7_add 16 = .ok (.iconst 0, 1) := by decide +kernel
theorem dX7_add_17 : decode cX7_add 17 = .ok (.aload_n 0, 1) := by decide +kernel
theorem dX7_add_18 : decode cX7_add 18 = .ok (.getfield 120, 3) := by decide +kernel
theorem dX7_add_21 : decode cX7_add 21 = .ok (.invokevirtual 222, 3) := by decide +kernel
theorem dX7_add_24 : decode cX7_add 24 = .ok (.istore_n 2, 1) := by decide +kernel
theorem dX7_add_25 : decode cX7_add 25 = .ok (.aload_n 0, 1) := by decide +kernel
theorem dX7_add_26 : decode cX7_add 26 = .ok (.iconst 0, 1) := by decide +kernel
theorem dX7_add_27 : decode cX7_add 27 = .ok (.putfield 120, 3) := by decide +kernel
theorem dX7_add_30 : decode cX7_add 30 = .ok (.iload_n 2, 1) := by decide +kernel
theorem dX7_add_31 : decode cX7_add 31 = .ok (.ireturn, 1) := by decide +kernel
theorem dX7_drop_0 : decode cX7_drop 0 = .ok (.aload_n 0, 1) := by decide +kernel
theorem dX7_drop_1 : decode cX7_drop 1 = .ok (.iload_n 1, 1) := by decide +kernel
theorem dX7_drop_2 : decode cX7_drop 2 = .ok (.invokevirtual 216, 3) := by decide +kernel
theorem dX7_drop_5 : decode cX7_drop 5 = .ok (.ifCond .ne 5, 3) := by decide +kernel
theorem dX7_drop_8 : decode cX7_drop 8 = .ok (.iconst (-1), 1) := by decide +kernel
theorem dX7_drop_9 : decode cX7_drop 9 = .ok (.ireturn, 1) := by decide +kernel
theorem dX7_drop_10 : decode cX7_drop 10 = .ok (.aload_n 0, 1) := by decide +kernel
theorem dX7_drop_11 : decode cX7_drop 11 = .ok (.invokevirtual 231, 3) := by decide +kernel
theorem dX7_drop_14 : decode cX7_drop 14 = .ok (.aload_n 0, 1) := by decide +kernel
theorem dX7_drop_15 : decode cX7_drop 15 = .ok (.iload_n 1, 1) := by decide +kernel
theorem dX7_drop_16 : decode cX7_drop 16 = .ok (.invokevirtual 225, 3) := by decide +kernel
theorem dX7_drop_19 : decode cX7_drop 19 = .ok (.ireturn, 1) := by decide +kernel
theorem dX7_titles_0 : decode cX7_titles 0 = .ok (.aload_n 0, 1) := by decide +kernel
theorem dX7_titles_1 : decode cX7_titles 1 = .ok (.getfield 7, 3) := by decide +kernel
theorem dX7_titles_4 : decode cX7_titles 4 = .ok (.iconst 0, 1) := by decide +kernel
theorem dX7_titles_5 : decode cX7_titles 5 = .ok (.iaload, 1) := by decide +kernel
theorem dX7_titles_6 : decode cX7_titles 6 = .ok (.ireturn, 1) := by decide +kernel
theorem dX7_character_0 : decode cX7_character 0 = .ok (.aload_n 0, 1) := by decide +kernel
theorem dX7_character_1 : decode cX7_character 1 = .ok (.iload_n 1, 1) := by decide +kernel
theorem dX7_character_2 : decode cX7_character 2 = .ok (.invokevirtual 216, 3) := by decide +kernel
theorem dX7_character_5 : decode cX7_character 5 = .ok (.ifCond .eq 27, 3) := by decide +kernel
theorem dX7_character_8 : decode cX7_character 8 = .ok (.iload_n 2, 1) := by decide +kernel
theorem dX7_character_9 : decode cX7_character 9 = .ok (.iconst 0, 1) := by decide +kernel
theorem dX7_character_10 : decode cX7_character 10 = .ok (.aload_n 0, 1) := by decide +kernel
theorem dX7_character_11 : decode cX7_character 11 = .ok (.iload_n 1, 1) := by decide +kernel
theorem dX7_character_12 : decode cX7_character 12 = .ok (.invokevirtual 58, 3) := by decide +kernel
theorem dX7_character_15 : decode cX7_character 15 = .ok (.iconst 1, 1) := by decide +kernel
theorem dX7_character_16 : decode cX7_character 16 = .ok (.isub, 1) := by decide +kernel
theorem dX7_character_17 : decode cX7_character 17 = .ok (.invokestatic 47, 3) := by decide +kernel
theorem dX7_character_20 : decode cX7_character 20 = .ok (.ifCond .eq 12, 3) := by decide +kernel
theorem dX7_character_23 : decode cX7_character 23 = .ok (.aload_n 0, 1) := by decide +kernel
theorem dX7_character_24 : decode cX7_character 24 = .ok (.iload_n 1, 1) := by decide +kernel
theorem dX7_character_25 : decode cX7_character 25 = .ok (.iload_n 2, 1) := by decide +kernel
theorem dX7_character_26 : decode cX7_character 26 = .ok (.invokevirtual 55, 3) := by decide +kernel
theorem dX7_character_29 : decode cX7_character 29 = .ok (.goto 4, 3) := by decide +kernel
theorem dX7_character_32 : decode cX7_character 32 = .ok (.iconst (-1), 1) := by decide +kernel
theorem dX7_character_33 : decode cX7_character 33 = .ok (.ireturn, 1) := by decide +kernel
theorem dX7_words_0 : decode cX7_words 0 = .ok (.iconst 0, 1) := by decide +kernel
theorem dX7_words_1 : decode cX7_words 1 = .ok (.istore_n 2, 1) := by decide +kernel
theorem dX7_words_2 : decode cX7_words 2 = .ok (.iconst 0, 1) := by decide +kernel
theorem dX7_words_3 : decode cX7_words 3 = .ok (.istore_n 3, 1) := by decide +kernel
theorem dX7_words_4 : decode cX7_words 4 = .ok (.iload_n 3, 1) := by decide +kernel
theorem dX7_words_5 : decode cX7_words 5 = .ok (.aload_n 0, 1) := by decide +kernel
theorem dX7_words_6 : decode cX7_words 6 = .ok (.iload_n 1, 1) := by decide +kernel
theorem dX7_words_7 : decode cX7_words 7 = .ok (.invokevirtual 58, 3) := by decide +kernel
theorem dX7_words_10 : decode cX7_words 10 = .ok (.if_icmp .ge 26, 3) := by decide +kernel
theorem dX7_words_13 : decode cX7_words 13 = .ok (.iload_n 2, 1) := by decide +kernel
theorem dX7_words_14 : decode cX7_words 14 = .ok (.aload_n 0, 1) := by decide +kernel
theorem dX7_words_15 : decode cX7_words 15 = .ok (.iload_n 1, 1) := by decide +kernel
theorem dX7_words_16 : decode cX7_words 16 = .ok (.iload_n 3, 1) := by decide +kernel
theorem dX7_words_17 : decode cX7_words 17 = .ok (.invokevirtual 62, 3) := by decide +kernel
theorem dX7_words_20 : decode cX7_words 20 = .ok (.ifCond .eq 7, 3) := by decide +kernel
theorem dX7_words_23 : decode cX7_words 23 = .ok (.iconst 1, 1) := by decide +kernel
theorem dX7_words_24 : decode cX7_words 24 = .ok (.goto 4, 3) := by decide +kernel
theorem dX7_words_27 : decode cX7_words 27 = .ok (.iconst 0, 1) := by decide +kernel
theorem dX7_words_28 : decode cX7_words 28 = .ok (.iadd, 1) := by decide +kernel
theorem dX7_words_29 : decode cX7_words 29 = .ok (.istore_n 2, 1) := by decide +kernel
theorem dX7_words_30 : decode cX7_words 30 = .ok (.iinc 3 1, 3) := by decide +kernel
theorem dX7_words_33 : decode cX7_words 33 = .ok (.goto (-29), 3) := by decide +kernel
theorem dX7_words_36 : decode cX7_words 36 = .ok (.iload_n 2, 1) := by decide +kernel
theorem dX7_words_37 : decode cX7_words 37 = .ok (.ireturn, 1) := by decide +kernel
theorem dX7_ofTitle_0 : decode cX7_ofTitle 0 = .ok (.iload_n 2, 1) := by decide +kernel
theorem dX7_ofTitle_1 : decode cX7_ofTitle 1 = .ok (.iconst 3, 1) := by decide +kernel
theorem dX7_ofTitle_2 : decode cX7_ofTitle 2 = .ok (.if_icmp .ge 35, 3) := by decide +kernel
theorem dX7_ofTitle_5 : decode cX7_ofTitle 5 = .ok (.iload_n 2, 1) := by decide +kernel
theorem dX7_ofTitle_6 : decode cX7_ofTitle 6 = .ok (.ifCond .ne 11, 3) := by decide +kernel
theorem dX7_ofTitle_9 : decode cX7_ofTitle 9 = .ok (.aload_n 0, 1) := by decide +kernel
theorem dX7_ofTitle_10 : decode cX7_ofTitle 10 = .ok (.iload_n 1, 1) := by decide +kernel
theorem dX7_ofTitle_11 : decode cX7_ofTitle 11 = .ok (.invokevirtual 58, 3) := by decide +kernel
theorem dX7_ofTitle_14 : decode cX7_ofTitle 14 = .ok (.goto 22, 3) := by decide +kernel
theorem dX7_ofTitle_17 : decode cX7_ofTitle 17 = .ok (.iload_n 2, 1) := by decide +kernel
theorem dX7_ofTitle_18 : decode cX7_ofTitle 18 = .ok (.iconst 1, 1) := by decide +kernel
theorem dX7_ofTitle_19 : decode cX7_ofTitle 19 = .ok (.if_icmp .ne 11, 3) := by decide +kernel
theorem dX7_ofTitle_22 : decode cX7_ofTitle 22 = .ok (.aload_n 0, 1) := by decide +kernel
theorem dX7_ofTitle_23 : decode cX7_ofTitle 23 = .ok (.iload_n 1, 1) := by decide +kernel
theorem dX7_ofTitle_24 : decode cX7_ofTitle 24 = .ok (.invokevirtual 243, 3) := by decide +kernel
theorem dX7_ofTitle_27 : decode cX7_ofTitle 27 = .ok (.goto 9, 3) := by decide +kernel
theorem dX7_ofTitle_30 : decode cX7_ofTitle 30 = .ok (.aload_n 0, 1) := by decide +kernel
theorem dX7_ofTitle_31 : decode cX7_ofTitle 31 = .ok (.iload_n 1, 1) := by decide +kernel
theorem dX7_ofTitle_32 : decode cX7_ofTitle 32 = .ok (.iconst 1, 1) := by decide +kernel
theorem dX7_ofTitle_33 : decode cX7_ofTitle 33 = .ok (.invokevirtual 51, 3) := by decide +kernel
theorem dX7_ofTitle_36 : decode cX7_ofTitle 36 = .ok (.ireturn, 1) := by decide +kernel
theorem dX7_ofTitle_37 : decode cX7_ofTitle 37 = .ok (.aload_n 0, 1) := by decide +kernel
theorem dX7_ofTitle_38 : decode cX7_ofTitle 38 = .ok (.invokevirtual 87, 3) := by decide +kernel
theorem dX7_ofTitle_41 : decode cX7_ofTitle 41 = .ok (.aload_n 0, 1) := by decide +kernel
theorem dX7_ofTitle_42 : decode cX7_ofTitle 42 = .ok (.iload_n 1, 1) := by decide +kernel
theorem dX7_ofTitle_43 : decode cX7_ofTitle 43 = .ok (.iload_n 2, 1) := by decide +kernel
theorem dX7_ofTitle_44 : decode cX7_ofTitle 44 = .ok (.iconst 5, 1) := by decide +kernel
theorem dX7_ofTitle_45 : decode cX7_ofTitle 45 = .ok (.if_icmp .ge 7, 3) := by decide +kernel
theorem dX7_ofTitle_48 : decode cX7_ofTitle 48 = .ok (.iconst 1, 1) := by decide +kernel
theorem dX7_ofTitle_49 : decode cX7_ofTitle 49 = .ok (.goto 4, 3) := by decide +kernel
theorem dX7_ofTitle_52 : decode cX7_ofTitle 52 = .ok (.iconst 0, 1) := by decide +kernel
theorem dX7_ofTitle_53 : decode cX7_ofTitle 53 = .ok (.invokevirtual 116, 3) := by decide +kernel
theorem dX7_ofTitle_56 : decode cX7_ofTitle 56 = .ok (.iload_n 2, 1) := by decide +kernel
theorem dX7_ofTitle_57 : decode cX7_ofTitle 57 = .ok (.iconst 2, 1) := by decide +kernel
theorem dX7_ofTitle_58 : decode cX7_ofTitle 58 = .ok (.irem, 1) := by decide +kernel
theorem dX7_ofTitle_59 : decode cX7_ofTitle 59 = .ok (.iconst 1, 1) := by decide +kernel
theorem dX7_ofTitle_60 : decode cX7_ofTitle 60 = .ok (.if_icmp .ne 10, 3) := by decide +kernel
theorem dX7_ofTitle_63 : decode cX7_ofTitle 63 = .ok (.aload_n 0, 1) := by decide +kernel
theorem dX7_ofTitle_64 : decode cX7_ofTitle 64 = .ok (.getfield 110, 3) := by decide +kernel
theorem dX7_ofTitle_67 : decode cX7_ofTitle 67 = .ok (.goto 7, 3) := by decide +kernel
theorem dX7_ofTitle_70 : decode cX7_ofTitle 70 = .ok (.aload_n 0, 1) := by decide +kernel
theorem dX7_ofTitle_71 : decode cX7_ofTitle 71 = .ok (.getfield 113, 3) := by decide +kernel
theorem dX7_ofTitle_74 : decode cX7_ofTitle 74 = .ok (.ireturn, 1) := by decide +kernel
theorem dX7_of_0 : decode cX7_of 0 = .ok (.aload_n 0, 1) := by decide +kernel
theorem dX7_of_1 : decode cX7_of 1 = .ok (.iload_n 1, 1) := by decide +kernel
theorem dX7_of_2 : decode cX7_of 2 = .ok (.invokevirtual 216, 3) := by decide +kernel
theorem dX7_of_5 : decode cX7_of 5 = .ok (.ifCond .ne 5, 3) := by decide +kernel
theorem dX7_of_8 : decode cX7_of 8 = .ok (.iconst (-1), 1) := by decide +kernel
theorem dX7_of_9 : decode cX7_of 9 = .ok (.ireturn, 1) := by decide +kernel
theorem dX7_of_10 : decode cX7_of 10 = .ok (.iload_n 2, 1) := by decide +kernel
theorem dX7_of_11 : decode cX7_of 11 = .ok (.iconst 0, 1) := by decide +kernel
theorem dX7_of_12 : decode cX7_of 12 = .ok (.bipush 6, 2) := by decide +kernel
theorem dX7_of_14 : decode cX7_of 14 = .ok (.invokestatic 47, 3) := by decide +kernel
theorem dX7_of_17 : decode cX7_of 17 = .ok (.ifCond .eq 12, 3) := by decide +kernel
theorem dX7_of_20 : decode cX7_of 20 = .ok (.aload_n 0, 1) := by decide +kernel
theorem dX7_of_21 : decode cX7_of 21 = .ok (.iload_n 1, 1) := by decide +kernel
theorem dX7_of_22 : decode cX7_of 22 = .ok (.iload_n 2, 1) := by decide +kernel
theorem dX7_of_23 : decode cX7_of 23 = .ok (.invokevirtual 246, 3) := by decide +kernel
theorem dX7_of_26 : decode cX7_of 26 = .ok (.goto 5, 3) := by decide +kernel
theorem dX7_of_29 : decode cX7_of 29 = .ok (.bipush (-2), 2) := by decide +kernel
theorem dX7_of_31 : decode cX7_of 31 = .ok (.ireturn, 1) := by decide +kernel
theorem dX7_longestRun_0 : decode cX7_longestRun 0 = .ok (.iconst 0, 1) := by decide +kernel
theorem dX7_longestRun_1 : decode cX7_longestRun 1 = .ok (.istore_n 3, 1) := by decide +kernel
theorem dX7_longestRun_2 : decode cX7_longestRun 2 = .ok (.iconst 0, 1) := by decide +kernel
theorem dX7_longestRun_3 : decode cX7_longestRun 3 = .ok (.istore 4, 2) := by decide +kernel
theorem dX7_longestRun_5 : decode cX7_longestRun 5 = .ok (.iload 4, 2) := by decide +kernel
theorem dX7_longestRun_7 : decode cX7_longestRun 7 = .ok (.bipush 24, 2) := by decide +kernel
theorem dX7_longestRun_9 : decode cX7_longestRun 9 = .ok (.if_icmp .gt 17, 3) := by decide +kernel
theorem dX7_longestRun_12 : decode cX7_longestRun 12 = .ok (.aload_n 0, 1) := by decide +kernel
theorem dX7_longestRun_13 : decode cX7_longestRun 13 = .ok (.getfield 40, 3) := by decide +kernel
theorem dX7_longestRun_16 : decode cX7_longestRun 16 = .ok (.iload 4, 2) := by decide +kernel
theorem dX7_longestRun_18 : decode cX7_longestRun 18 = .ok (.iconst 0, 1) := by decide +kernel
theorem dX7_longestRun_19 : decode cX7_longestRun 19 = .ok (.iastore, 1) := by decide +kernel
theorem dX7_longestRun_20 : decode cX7_longestRun 20 = .ok (.iinc 4 1, 3) := by decide +kernel
theorem dX7_longestRun_23 : decode cX7_longestRun 23 = .ok (.goto (-18), 3) := by decide +kernel
theorem dX7_longestRun_26 : decode cX7_longestRun 26 = .ok (.iconst 0, 1) := by decide +kernel
theorem dX7_longestRun_27 : decode cX7_longestRun 27 = .ok (.istore 4, 2) := by decide +kernel
theorem dX7_longestRun_29 : decode cX7_longestRun 29 = .ok (.iload 4, 2) := by decide +kernel
theorem dX7_longestRun_31 : decode cX7_longestRun 31 = .ok (.aload_n 0, 1) := by decide +kernel
theorem dX7_longestRun_32 : decode cX7_longestRun 32 = .ok (.iload_n 1, 1) := by decide +kernel
theorem dX7_longestRun_33 : decode cX7_longestRun 33 = .ok (.invokevirtual 58, 3) := by decide +kernel
theorem dX7_longestRun_36 : decode cX7_longestRun 36 = .ok (.if_icmp .ge 91, 3) := by decide +kernel
theorem dX7_longestRun_39 : decode cX7_longestRun 39 = .ok (.aload_n 0, 1) := by decide +kernel
theorem dX7_longestRun_40 : decode cX7_longestRun 40 = .ok (.iload_n 2, 1) := by decide +kernel
theorem dX7_longestRun_41 : decode cX7_longestRun 41 = .ok (.invokevirtual 58, 3) := by decide +kernel
theorem dX7_longestRun_44 : decode cX7_longestRun 44 = .ok (.istore 5, 2) := by decide +kernel
theorem dX7_longestRun_46 : decode cX7_longestRun 46 = .ok (.iload 5, 2) := by decide +kernel
theorem dX7_longestRun_48 : decode cX7_longestRun 48 = .ok (.ifCond .le 73, 3) := by decide +kernel
theorem dX7_longestRun_51 : decode cX7_longestRun 51 = .ok (.aload_n 0, 1) := by decide +kernel
theorem dX7_longestRun_52 : decode cX7_longestRun 52 = .ok (.getfield 40, 3) := by decide +kernel
theorem dX7_longestRun_55 : decode cX7_longestRun 55 = .ok (.iload 5, 2) := by decide +kernel
theorem dX7_longestRun_57 : decode cX7_longestRun 57 = .ok (.aload_n 0, 1) := by decide +kernel
theorem dX7_longestRun_58 : decode cX7_longestRun 58 = .ok (.iload_n 1, 1) := by decide +kernel
theorem dX7_longestRun_59 : decode cX7_longestRun 59 = .ok (.iload 4, 2) := by decide +kernel
theorem dX7_longestRun_61 : decode cX7_longestRun 61 = .ok (.invokevirtual 55, 3) := by decide +kernel
theorem dX7_longestRun_64 : decode cX7_longestRun 64 = .ok (.aload_n 0, 1) := by decide +kernel
theorem dX7_longestRun_65 : decode cX7_longestRun 65 = .ok (.iload_n 2, 1) := by decide +kernel
theorem dX7_longestRun_66 : decode cX7_longestRun 66 = .ok (.iload 5, 2) := by decide +kernel
theorem dX7_longestRun_68 : decode cX7_longestRun 68 = .ok (.iconst 1, 1) := by decide +kernel
theorem dX7_longestRun_69 : decode cX7_longestRun 69 = .ok (.isub, 1) := by decide +kernel
theorem dX7_longestRun_70 : decode cX7_longestRun 70 = .ok (.invokevirtual 55, 3) := by decide +kernel
theorem dX7_longestRun_73 : decode cX7_longestRun 73 = .ok (.if_icmp .ne 17, 3) := by decide +kernel
theorem dX7_longestRun_76 : decode cX7_longestRun 76 = .ok (.aload_n 0, 1) := by decide +kernel
theorem dX7_longestRun_77 : decode cX7_longestRun 77 = .ok (.getfield 40, 3) := by decide +kernel
theorem dX7_longestRun_80 : decode cX7_longestRun 80 = .ok (.iload 5, 2) := by decide +kernel
theorem dX7_longestRun_82 : decode cX7_longestRun 82 = .ok (.iconst 1, 1) := by decide +kernel
theorem dX7_longestRun_83 : decode cX7_longestRun 83 = .ok (.isub, 1) := by decide +kernel
theorem dX7_longestRun_84 : decode cX7_longestRun 84 = .ok (.iaload, 1) := by decide +kernel
theorem dX7_longestRun_85 : decode cX7_longestRun 85 = .ok (.iconst 1, 1) := by decide +kernel
theorem dX7_longestRun_86 : decode cX7_longestRun 86 = .ok (.iadd, 1) := by decide +kernel
theorem dX7_longestRun_87 : decode cX7_longestRun 87 = .ok (.goto 4, 3) := by decide +kernel
theorem dX7_longestRun_90 : decode cX7_longestRun 90 = .ok (.iconst 0, 1) := by decide +kernel
theorem dX7_longestRun_91 : decode cX7_longestRun 91 = .ok (.iastore, 1) := by decide +kernel
theorem dX7_longestRun_92 : decode cX7_longestRun 92 = .ok (.aload_n 0, 1) := by decide +kernel
theorem dX7_longestRun_93 : decode cX7_longestRun 93 = .ok (.getfield 40, 3) := by decide +kernel
theorem dX7_longestRun_96 : decode cX7_longestRun 96 = .ok (.iload 5, 2) := by decide +kernel
theorem dX7_longestRun_98 : decode cX7_longestRun 98 = .ok (.iaload, 1) := by decide +kernel
theorem dX7_longestRun_99 : decode cX7_longestRun 99 = .ok (.iload_n 3, 1) := by decide +kernel
theorem dX7_longestRun_100 : decode cX7_longestRun 100 = .ok (.if_icmp .le 13, 3) := by decide +kernel
theorem dX7_longestRun_103 : decode cX7_longestRun 103 = .ok (.aload_n 0, 1) := by decide +kernel
theorem dX7_longestRun_104 : decode cX7_longestRun 104 = .ok (.getfield 40, 3) := by decide +kernel
theorem dX7_longestRun_107 : decode cX7_longestRun 107 = .ok (.iload 5, 2) := by decide +kernel
theorem dX7_longestRun_109 : decode cX7_longestRun 109 = .ok (.iaload, 1) := by decide +kernel
theorem dX7_longestRun_110 : decode cX7_longestRun 110 = .ok (.goto 4, 3) := by decide +kernel
theorem dX7_longestRun_113 : decode cX7_longestRun 113 = .ok (.iload_n 3, 1) := by decide +kernel
theorem dX7_longestRun_114 : decode cX7_longestRun 114 = .ok (.istore_n 3, 1) := by decide +kernel
theorem dX7_longestRun_115 : decode cX7_longestRun 115 = .ok (.iinc 5 (-1), 3) := by decide +kernel
theorem dX7_longestRun_118 : decode cX7_longestRun 118 = .ok (.goto (-72), 3) := by decide +kernel
theorem dX7_longestRun_121 : decode cX7_longestRun 121 = .ok (.iinc 4 1, 3) := by decide +kernel
theorem dX7_longestRun_124 : decode cX7_longestRun 124 = .ok (.goto (-95), 3) := by decide +kernel
theorem dX7_longestRun_127 : decode cX7_longestRun 127 = .ok (.iload_n 3, 1) := by decide +kernel
theorem dX7_longestRun_128 : decode cX7_longestRun 128 = .ok (.ireturn, 1) := by decide +kernel
theorem dX7_common_0 : decode cX7_common 0 = .ok (.aload_n 0, 1) := by decide +kernel
theorem dX7_common_1 : decode cX7_common 1 = .ok (.iload_n 1, 1) := by decide +kernel
theorem dX7_common_2 : decode cX7_common 2 = .ok (.invokevirtual 216, 3) := by decide +kernel
theorem dX7_common_5 : decode cX7_common 5 = .ok (.ifCond .eq 20, 3) := by decide +kernel
theorem dX7_common_8 : decode cX7_common 8 = .ok (.aload_n 0, 1) := by decide +kernel
theorem dX7_common_9 : decode cX7_common 9 = .ok (.iload_n 2, 1) := by decide +kernel
theorem dX7_common_10 : decode cX7_common 10 = .ok (.invokevirtual 216, 3) := by decide +kernel
theorem dX7_common_13 : decode cX7_common 13 = .ok (.ifCond .eq 12, 3) := by decide +kernel
theorem dX7_common_16 : decode cX7_common 16 = .ok (.aload_n 0, 1) := by decide +kernel
theorem dX7_common_17 : decode cX7_common 17 = .ok (.iload_n 1, 1) := by decide +kernel
theorem dX7_common_18 : decode cX7_common 18 = .ok (.iload_n 2, 1) := by decide +kernel
theorem dX7_common_19 : decode cX7_common 19 = .ok (.invokevirtual 249, 3) := by decide +kernel
theorem dX7_common_22 : decode cX7_common 22 = .ok (.goto 4, 3) := by decide +kernel
theorem dX7_common_25 : decode cX7_common 25 = .ok (.iconst (-1), 1) := by decide +kernel
theorem dX7_common_26 : decode cX7_common 26 = .ok (.ireturn, 1) := by decide +kernel
theorem dX7_closest_0 : decode cX7_closest 0 = .ok (.aload_n 0, 1) := by decide +kernel
theorem dX7_closest_1 : decode cX7_closest 1 = .ok (.iload_n 1, 1) := by decide +kernel
theorem dX7_closest_2 : decode cX7_closest 2 = .ok (.invokevirtual 216, 3) := by decide +kernel
theorem dX7_closest_5 : decode cX7_closest 5 = .ok (.ifCond .ne 5, 3) := by decide +kernel
theorem dX7_closest_8 : decode cX7_closest 8 = .ok (.iconst (-1), 1) := by decide +kernel
theorem dX7_closest_9 : decode cX7_closest 9 = .ok (.ireturn, 1) := by decide +kernel
theorem dX7_closest_10 : decode cX7_closest 10 = .ok (.bipush (-6), 2) := by decide +kernel
theorem dX7_closest_12 : decode cX7_closest 12 = .ok (.istore_n 2, 1) := by decide +kernel
theorem dX7_closest_13 : decode cX7_closest 13 = .ok (.iconst 0, 1) := by decide +kernel
theorem dX7_closest_14 : decode cX7_closest 14 = .ok (.istore_n 3, 1) := by decide +kernel
theorem dX7_closest_15 : decode cX7_closest 15 = .ok (.iconst 0, 1) := by decide +kernel
theorem dX7_closest_16 : decode cX7_closest 16 = .ok (.istore 4, 2) := by decide +kernel
theorem dX7_closest_18 : decode cX7_closest 18 = .ok (.iload 4, 2) := by decide +kernel
theorem dX7_closest_20 : decode cX7_closest 20 = .ok (.aload_n 0, 1) := by decide +kernel
theorem dX7_closest_21 : decode cX7_closest 21 = .ok (.getfield 7, 3) := by decide +kernel
theorem dX7_closest_24 : decode cX7_closest 24 = .ok (.iconst 0, 1) := by decide +kernel
theorem dX7_closest_25 : decode cX7_closest 25 = .ok (.iaload, 1) := by decide +kernel
theorem dX7_closest_26 : decode cX7_closest 26 = .ok (.if_icmp .ge 52, 3) := by decide +kernel
theorem dX7_closest_29 : decode cX7_closest 29 = .ok (.iload 4, 2) := by decide +kernel
theorem dX7_closest_31 : decode cX7_closest 31 = .ok (.iload_n 1, 1) := by decide +kernel
theorem dX7_closest_32 : decode cX7_closest 32 = .ok (.if_icmp .ne 7, 3) := by decide +kernel
theorem dX7_closest_35 : decode cX7_closest 35 = .ok (.iconst 0, 1) := by decide +kernel
theorem dX7_closest_36 : decode cX7_closest 36 = .ok (.goto 10, 3) := by decide +kernel
theorem dX7_closest_39 : decode cX7_closest 39 = .ok (.aload_n 0, 1) := by decide +kernel
theorem dX7_closest_40 : decode cX7_closest 40 = .ok (.iload_n 1, 1) := by decide +kernel
theorem dX7_closest_41 : decode cX7_closest 41 = .ok (.iload 4, 2) := by decide +kernel
theorem dX7_closest_43 : decode cX7_closest 43 = .ok (.invokevirtual 249, 3) := by decide +kernel
theorem dX7_closest_46 : decode cX7_closest 46 = .ok (.istore 5, 2) := by decide +kernel
theorem dX7_closest_48 : decode cX7_closest 48 = .ok (.iload 4, 2) := by decide +kernel
theorem dX7_closest_50 : decode cX7_closest 50 = .ok (.iload_n 1, 1) := by decide +kernel
theorem dX7_closest_51 : decode cX7_closest 51 = .ok (.if_icmp .eq 21, 3) := by decide +kernel
theorem dX7_closest_54 : decode cX7_closest 54 = .ok (.iload_n 2, 1) := by decide +kernel
theorem dX7_closest_55 : decode cX7_closest 55 = .ok (.bipush (-6), 2) := by decide +kernel
theorem dX7_closest_57 : decode cX7_closest 57 = .ok (.if_icmp .eq 9, 3) := by decide +kernel
theorem dX7_closest_60 : decode cX7_closest 60 = .ok (.iload 5, 2) := by decide +kernel
theorem dX7_closest_62 : decode cX7_closest 62 = .ok (.iload_n 3, 1) := by decide +kernel
theorem dX7_closest_63 : decode cX7_closest 63 = .ok (.if_icmp .le 9, 3) := by decide +kernel
theorem dX7_closest_66 : decode cX7_closest 66 = .ok (.iload 4, 2) := by decide +kernel
theorem dX7_closest_68 : decode cX7_closest 68 = .ok (.istore_n 2, 1) := by decide +kernel
theorem dX7_closest_69 : decode cX7_closest 69 = .ok (.iload 5, 2) := by decide +kernel
theorem dX7_closest_71 : decode cX7_closest 71 = .ok (.istore_n 3, 1) := by decide +kernel
theorem dX7_closest_72 : decode cX7_closest 72 = .ok (.iinc 4 1, 3) := by decide +kernel
theorem dX7_closest_75 : decode cX7_closest 75 = .ok (.goto (-57), 3) := by decide +kernel
theorem dX7_closest_78 : decode cX7_closest 78 = .ok (.iload_n 2, 1) := by decide +kernel
theorem dX7_closest_79 : decode cX7_closest 79 = .ok (.ireturn, 1) := by decide +kernel
theorem dX7_unknown_0 : decode cX7_unknown 0 = .ok (.aload_n 0, 1) := by decide +kernel
theorem dX7_unknown_1 : decode cX7_unknown 1 = .ok (.invokevirtual 252, 3) := by decide +kernel
theorem dX7_unknown_4 : decode cX7_unknown 4 = .ok (.aload_n 0, 1) := by decide +kernel
theorem dX7_unknown_5 : decode cX7_unknown 5 = .ok (.invokevirtual 255, 3) := by decide +kernel
theorem dX7_unknown_8 : decode cX7_unknown 8 = .ok (.ireturn, 1) := by decide +kernel
theorem dX7_hardest_0 : decode cX7_hardest 0 = .ok (.aload_n 0, 1) := by decide +kernel
theorem dX7_hardest_1 : decode cX7_hardest 1 = .ok (.invokevirtual 252, 3) := by decide +kernel
theorem dX7_hardest_4 : decode cX7_hardest 4 = .ok (.aload_n 0, 1) := by decide +kernel
theorem dX7_hardest_5 : decode cX7_hardest 5 = .ok (.invokevirtual 258, 3) := by decide +kernel
theorem dX7_hardest_8 : decode cX7_hardest 8 = .ok (.ireturn, 1) := by decide +kernel
theorem dX7_ifAdded_0 : decode cX7_ifAdded 0 = .ok (.aload_n 0, 1) := by decide +kernel
theorem dX7_ifAdded_1 : decode cX7_ifAdded 1 = .ok (.invokevirtual 240, 3) := by decide +kernel
theorem dX7_ifAdded_4 : decode cX7_ifAdded 4 = .ok (.istore_n 1, 1) := by decide +kernel
theorem dX7_ifAdded_5 : decode cX7_ifAdded 5 = .ok (.iload_n 1, 1) := by decide +kernel
theorem dX7_ifAdded_6 : decode cX7_ifAdded 6 = .ok (.ifCond .ge 5, 3) := by decide +kernel
theorem dX7_ifAdded_9 : decode cX7_ifAdded 9 = .ok (.iload_n 1, 1) := by decide +kernel
theorem dX7_ifAdded_10 : decode cX7_ifAdded 10 = .ok (.ireturn, 1) := by decide +kernel
theorem dX7_ifAdded_11 : decode cX7_ifAdded 11 = .ok (.aload_n 0, 1) := by decide +kernel
theorem dX7_ifAdded_12 : decode cX7_ifAdded 12 = .ok (.invokevirtual 252, 3) := by decide +kernel
theorem dX7_ifAdded_15 : decode cX7_ifAdded 15 = .ok (.aload_n 0, 1) := by decide +kernel
theorem dX7_ifAdded_16 : decode cX7_ifAdded 16 = .ok (.getfield 7, 3) := by decide +kernel
theorem dX7_ifAdded_19 : decode cX7_ifAdded 19 = .ok (.iconst 0, 1) := by decide +kernel
theorem dX7_ifAdded_20 : decode cX7_ifAdded 20 = .ok (.iaload, 1) := by decide +kernel
theorem dX7_ifAdded_21 : decode cX7_ifAdded 21 = .ok (.istore_n 2, 1) := by decide +kernel
theorem dX7_ifAdded_22 : decode cX7_ifAdded 22 = .ok (.aload_n 0, 1) := by decide +kernel
theorem dX7_ifAdded_23 : decode cX7_ifAdded 23 = .ok (.iconst 0, 1) := by decide +kernel
theorem dX7_ifAdded_24 : decode cX7_ifAdded 24 = .ok (.aload_n 0, 1) := by decide +kernel
theorem dX7_ifAdded_25 : decode cX7_ifAdded 25 = .ok (.getfield 120, 3) := by decide +kernel
theorem dX7_ifAdded_28 : decode cX7_ifAdded 28 = .ok (.invokevirtual 222, 3) := by decide +kernel
theorem dX7_ifAdded_31 : decode cX7_ifAdded 31 = .ok (.pop, 1) := by decide +kernel
theorem dX7_ifAdded_32 : decode cX7_ifAdded 32 = .ok (.aload_n 0, 1) := by decide +kernel
theorem dX7_ifAdded_33 : decode cX7_ifAdded 33 = .ok (.invokevirtual 87, 3) := by decide +kernel
theorem dX7_ifAdded_36 : decode cX7_ifAdded 36 = .ok (.iconst 0, 1) := by decide +kernel
theorem dX7_ifAdded_37 : decode cX7_ifAdded 37 = .ok (.istore_n 3, 1) := by decide +kernel
theorem dX7_ifAdded_38 : decode cX7_ifAdded 38 = .ok (.iconst 0, 1) := by decide +kernel
theorem dX7_ifAdded_39 : decode cX7_ifAdded 39 = .ok (.istore 4, 2) := by decide +kernel
theorem dX7_ifAdded_41 : decode cX7_ifAdded 41 = .ok (.iload 4, 2) := by decide +kernel
theorem dX7_ifAdded_43 : decode cX7_ifAdded 43 = .ok (.iload_n 2, 1) := by decide +kernel
theorem dX7_ifAdded_44 : decode cX7_ifAdded 44 = .ok (.if_icmp .ge 52, 3) := by decide +kernel
theorem dX7_ifAdded_47 : decode cX7_ifAdded 47 = .ok (.aload_n 0, 1) := by decide +kernel
theorem dX7_ifAdded_48 : decode cX7_ifAdded 48 = .ok (.iload 4, 2) := by decide +kernel
theorem dX7_ifAdded_50 : decode cX7_ifAdded 50 = .ok (.iconst 1, 1) := by decide +kernel
theorem dX7_ifAdded_51 : decode cX7_ifAdded 51 = .ok (.invokevirtual 116, 3) := by decide +kernel
theorem dX7_ifAdded_54 : decode cX7_ifAdded 54 = .ok (.iload_n 3, 1) := by decide +kernel
theorem dX7_ifAdded_55 : decode cX7_ifAdded 55 = .ok (.aload_n 0, 1) := by decide +kernel
theorem dX7_ifAdded_56 : decode cX7_ifAdded 56 = .ok (.getfield 110, 3) := by decide +kernel
theorem dX7_ifAdded_59 : decode cX7_ifAdded 59 = .ok (.aload_n 0, 1) := by decide +kernel
theorem dX7_ifAdded_60 : decode cX7_ifAdded 60 = .ok (.getfield 34, 3) := by decide +kernel
theorem dX7_ifAdded_63 : decode cX7_ifAdded 63 = .ok (.iload 4, 2) := by decide +kernel
theorem dX7_ifAdded_65 : decode cX7_ifAdded 65 = .ok (.iaload, 1) := by decide +kernel
theorem dX7_ifAdded_66 : decode cX7_ifAdded 66 = .ok (.if_icmp .ne 21, 3) := by decide +kernel
theorem dX7_ifAdded_69 : decode cX7_ifAdded 69 = .ok (.aload_n 0, 1) := by decide +kernel
theorem dX7_ifAdded_70 : decode cX7_ifAdded 70 = .ok (.getfield 113, 3) := by decide +kernel
theorem dX7_ifAdded_73 : decode cX7_ifAdded 73 = .ok (.aload_n 0, 1) := by decide +kernel
theorem dX7_ifAdded_74 : decode cX7_ifAdded 74 = .ok (.getfield 37, 3) := by decide +kernel
theorem dX7_ifAdded_77 : decode cX7_ifAdded 77 = .ok (.iload 4, 2) := by decide +kernel
theorem dX7_ifAdded_79 : decode cX7_ifAdded 79 = .ok (.iaload, 1) := by decide +kernel
theorem dX7_ifAdded_80 : decode cX7_ifAdded 80 = .ok (.if_icmp .ne 7, 3) := by decide +kernel
theorem dX7_ifAdded_83 : decode cX7_ifAdded 83 = .ok (.iconst 0, 1) := by decide +kernel
theorem dX7_ifAdded_84 : decode cX7_ifAdded 84 = .ok (.goto 4, 3) := by decide +kernel
theorem dX7_ifAdded_87 : decode cX7_ifAdded 87 = .ok (.iconst 1, 1) := by decide +kernel
theorem dX7_ifAdded_88 : decode cX7_ifAdded 88 = .ok (.iadd, 1) := by decide +kernel
theorem dX7_ifAdded_89 : decode cX7_ifAdded 89 = .ok (.istore_n 3, 1) := by decide +kernel
theorem dX7_ifAdded_90 : decode cX7_ifAdded 90 = .ok (.iinc 4 1, 3) := by decide +kernel
theorem dX7_ifAdded_93 : decode cX7_ifAdded 93 = .ok (.goto (-52), 3) := by decide +kernel
theorem dX7_ifAdded_96 : decode cX7_ifAdded 96 = .ok (.aload_n 0, 1) := by decide +kernel
theorem dX7_ifAdded_97 : decode cX7_ifAdded 97 = .ok (.iload_n 2, 1) := by decide +kernel
theorem dX7_ifAdded_98 : decode cX7_ifAdded 98 = .ok (.invokevirtual 225, 3) := by decide +kernel
theorem dX7_ifAdded_101 : decode cX7_ifAdded 101 = .ok (.pop, 1) := by decide +kernel
theorem dX7_ifAdded_102 : decode cX7_ifAdded 102 = .ok (.iload_n 3, 1) := by decide +kernel
theorem dX7_ifAdded_103 : decode cX7_ifAdded 103 = .ok (.ireturn, 1) := by decide +kernel
theorem dX7_setMode_0 : decode cX7_setMode 0 = .ok (.iload_n 1, 1) := by decide +kernel
theorem dX7_setMode_1 : decode cX7_setMode 1 = .ok (.iconst 0, 1) := by decide +kernel
theorem dX7_setMode_2 : decode cX7_setMode 2 = .ok (.iconst 3, 1) := by decide +kernel
theorem dX7_setMode_3 : decode cX7_setMode 3 = .ok (.invokestatic 47, 3) := by decide +kernel
theorem dX7_setMode_6 : decode cX7_setMode 6 = .ok (.ifCond .ne 6, 3) := by decide +kernel
theorem dX7_setMode_9 : decode cX7_setMode 9 = .ok (.bipush (-2), 2) := by decide +kernel
theorem dX7_setMode_11 : decode cX7_setMode 11 = .ok (.ireturn, 1) := by decide +kernel
theorem dX7_setMode_12 : decode cX7_setMode 12 = .ok (.aload_n 0, 1) := by decide +kernel
theorem dX7_setMode_13 : decode cX7_setMode 13 = .ok (.invokevirtual 231, 3) := by decide +kernel
theorem dX7_setMode_16 : decode cX7_setMode 16 = .ok (.aload_n 0, 1) := by decide +kernel
theorem dX7_setMode_17 : decode cX7_setMode 17 = .ok (.getfield 7, 3) := by decide +kernel
theorem dX7_setMode_20 : decode cX7_setMode 20 = .ok (.iconst 1, 1) := by decide +kernel
theorem dX7_setMode_21 : decode cX7_setMode 21 = .ok (.iaload, 1) := by decide +kernel
theorem dX7_setMode_22 : decode cX7_setMode 22 = .ok (.istore_n 2, 1) := by decide +kernel
theorem dX7_setMode_23 : decode cX7_setMode 23 = .ok (.aload_n 0, 1) := by decide +kernel
theorem dX7_setMode_24 : decode cX7_setMode 24 = .ok (.getfield 7, 3) := by decide +kernel
theorem dX7_setMode_27 : decode cX7_setMode 27 = .ok (.iconst 1, 1) := by decide +kernel
theorem dX7_setMode_28 : decode cX7_setMode 28 = .ok (.iload_n 1, 1) := by decide +kernel
theorem dX7_setMode_29 : decode cX7_setMode 29 = .ok (.iastore, 1) := by decide +kernel
theorem dX7_setMode_30 : decode cX7_setMode 30 = .ok (.iload_n 2, 1) := by decide +kernel
theorem dX7_setMode_31 : decode cX7_setMode 31 = .ok (.ireturn, 1) := by decide +kernel
theorem dX7_setOrder_0 : decode cX7_setOrder 0 = .ok (.iload_n 1, 1) := by decide +kernel
theorem dX7_setOrder_1 : decode cX7_setOrder 1 = .ok (.iconst 0, 1) := by decide +kernel
theorem dX7_setOrder_2 : decode cX7_setOrder 2 = .ok (.iconst 2, 1) := by decide +kernel
theorem dX7_setOrder_3 : decode cX7_setOrder 3 = .ok (.invokestatic 47, 3) := by decide +kernel
theorem dX7_setOrder_6 : decode cX7_setOrder 6 = .ok (.ifCond .ne 6, 3) := by decide +kernel
theorem dX7_setOrder_9 : decode cX7_setOrder 9 = .ok (.bipush (-2), 2) := by decide +kernel
theorem dX7_setOrder_11 : decode cX7_setOrder 11 = .ok (.ireturn, 1) := by decide +kernel
theorem dX7_setOrder_12 : decode cX7_setOrder 12 = .ok (.aload_n 0, 1) := by decide +kernel
theorem dX7_setOrder_13 : decode cX7_setOrder 13 = .ok (.invokevirtual 231, 3) := by decide +kernel
theorem dX7_setOrder_16 : decode cX7_setOrder 16 = .ok (.aload_n 0, 1) := by decide +kernel
theorem dX7_setOrder_17 : decode cX7_setOrder 17 = .ok (.getfield 7, 3) := by decide +kernel
theorem dX7_setOrder_20 : decode cX7_setOrder 20 = .ok (.iconst 2, 1) := by decide +kernel
theorem dX7_setOrder_21 : decode cX7_setOrder 21 = .ok (.iaload, 1) := by decide +kernel
theorem dX7_setOrder_22 : decode cX7_setOrder 22 = .ok (.istore_n 2, 1) := by decide +kernel
theorem dX7_setOrder_23 : decode cX7_setOrder 23 = .ok (.aload_n 0, 1) := by decide +kernel
theorem dX7_setOrder_24 : decode cX7_setOrder 24 = .ok (.getfield 7, 3) := by decide +kernel
theorem dX7_setOrder_27 : decode cX7_setOrder 27 = .ok (.iconst 2, 1) := by decide +kernel
theorem dX7_setOrder_28 : decode cX7_setOrder 28 = .ok (.iload_n 1, 1) := by decide +kernel
theorem dX7_setOrder_29 : decode cX7_setOrder 29 = .ok (.iastore, 1) := by decide +kernel
theorem dX7_setOrder_30 : decode cX7_setOrder 30 = .ok (.iload_n 2, 1) := by decide +kernel
theorem dX7_setOrder_31 : decode cX7_setOrder 31 = .ok (.ireturn, 1) := by decide +kernel
theorem dX7_mode_0 : decode cX7_mode 0 = .ok (.aload_n 0, 1) := by decide +kernel
theorem dX7_mode_1 : decode cX7_mode 1 = .ok (.getfield 7, 3) := by decide +kernel
theorem dX7_mode_4 : decode cX7_mode 4 = .ok (.iconst 1, 1) := by decide +kernel
theorem dX7_mode_5 : decode cX7_mode 5 = .ok (.iaload, 1) := by decide +kernel
theorem dX7_mode_6 : decode cX7_mode 6 = .ok (.ireturn, 1) := by decide +kernel
theorem dX7_order_0 : decode cX7_order 0 = .ok (.aload_n 0, 1) := by decide +kernel
theorem dX7_order_1 : decode cX7_order 1 = .ok (.getfield 7, 3) := by decide +kernel
theorem dX7_order_4 : decode cX7_order 4 = .ok (.iconst 2, 1) := by decide +kernel
theorem dX7_order_5 : decode cX7_order 5 = .ok (.iaload, 1) := by decide +kernel
theorem dX7_order_6 : decode cX7_order 6 = .ok (.ireturn, 1) := by decide +kernel
theorem dX7_resultsMany_0 : decode cX7_resultsMany 0 = .ok (.aload_n 0, 1) := by decide +kernel
theorem dX7_resultsMany_1 : decode cX7_resultsMany 1 = .ok (.invokevirtual 210, 3) := by decide +kernel
theorem dX7_resultsMany_4 : decode cX7_resultsMany 4 = .ok (.aload_n 0, 1) := by decide +kernel
theorem dX7_resultsMany_5 : decode cX7_resultsMany 5 = .ok (.getfield 93, 3) := by decide +kernel
theorem dX7_resultsMany_8 : decode cX7_resultsMany 8 = .ok (.ireturn, 1) := by decide +kernel
theorem dX7_ask_0 : decode cX7_ask 0 = .ok (.iload_n 1, 1) := by decide +kernel
theorem dX7_ask_1 : decode cX7_ask 1 = .ok (.invokestatic 137, 3) := by decide +kernel
theorem dX7_ask_4 : decode cX7_ask 4 = .ok (.ifCond .ne 12, 3) := by decide +kernel
theorem dX7_ask_7 : decode cX7_ask 7 = .ok (.iload_n 1, 1) := by decide +kernel
theorem dX7_ask_8 : decode cX7_ask 8 = .ok (.bipush 32, 2) := by decide +kernel
theorem dX7_ask_10 : decode cX7_ask 10 = .ok (.if_icmp .eq 6, 3) := by decide +kernel
theorem dX7_ask_13 : decode cX7_ask 13 = .ok (.bipush (-2), 2) := by decide +kernel
theorem dX7_ask_15 : decode cX7_ask 15 = .ok (.ireturn, 1) := by decide +kernel
theorem dX7_ask_16 : decode cX7_ask 16 = .ok (.aload_n 0, 1) := by decide +kernel
theorem dX7_ask_17 : decode cX7_ask 17 = .ok (.getfield 7, 3) := by decide +kernel
theorem dX7_ask_20 : decode cX7_ask 20 = .ok (.iconst 3, 1) := by decide +kernel
theorem dX7_ask_21 : decode cX7_ask 21 = .ok (.iaload, 1) := by decide +kernel
theorem dX7_ask_22 : decode cX7_ask 22 = .ok (.istore_n 2, 1) := by decide +kernel
theorem dX7_ask_23 : decode cX7_ask 23 = .ok (.iload_n 1, 1) := by decide +kernel
theorem dX7_ask_24 : decode cX7_ask 24 = .ok (.bipush 32, 2) := by decide +kernel
theorem dX7_ask_26 : decode cX7_ask 26 = .ok (.if_icmp .ne 25, 3) := by decide +kernel
theorem dX7_ask_29 : decode cX7_ask 29 = .ok (.iload_n 2, 1) := by decide +kernel
theorem dX7_ask_30 : decode cX7_ask 30 = .ok (.ifCond .eq 18, 3) := by decide +kernel
theorem dX7_ask_33 : decode cX7_ask 33 = .ok (.aload_n 0, 1) := by decide +kernel
theorem dX7_ask_34 : decode cX7_ask 34 = .ok (.getfield 7, 3) := by decide +kernel
theorem dX7_ask_37 : decode cX7_ask 37 = .ok (.iconst 4, 1) := by decide +kernel
theorem dX7_ask_38 : decode cX7_ask 38 = .ok (.iload_n 2, 1) := by decide +kernel
theorem dX7_ask_39 : decode cX7_ask 39 = .ok (.iadd, 1) := by decide +kernel
theorem dX7_ask_40 : decode cX7_ask 40 = .ok (.iconst 1, 1) := by decide +kernel
theorem dX7_ask_41 : decode cX7_ask 41 = .ok (.isub, 1) := by decide +kernel
theorem dX7_ask_42 : decode cX7_ask 42 = .ok (.iaload, 1) := by decide +kernel
theorem dX7_ask_43 : decode cX7_ask 43 = .ok (.bipush 32, 2) := by decide +kernel
theorem dX7_ask_45 : decode cX7_ask 45 = .ok (.if_icmp .ne 6, 3) := by decide +kernel
theorem dX7_ask_48 : decode cX7_ask 48 = .ok (.bipush (-3), 2) := by decide +kernel
theorem dX7_ask_50 : decode cX7_ask 50 = .ok (.ireturn, 1) := by decide +kernel
theorem dX7_ask_51 : decode cX7_ask 51 = .ok (.iload_n 2, 1) := by decide +kernel
theorem dX7_ask_52 : decode cX7_ask 52 = .ok (.bipush 24, 2) := by decide +kernel
theorem dX7_ask_54 : decode cX7_ask 54 = .ok (.if_icmp .ne 6, 3) := by decide +kernel
theorem dX7_ask_57 : decode cX7_ask 57 = .ok (.bipush (-4), 2) := by decide +kernel
theorem dX7_ask_59 : decode cX7_ask 59 = .ok (.ireturn, 1) := by decide +kernel
theorem dX7_ask_60 : decode cX7_ask 60 = .ok (.aload_n 0, 1) := by decide +kernel
theorem dX7_ask_61 : decode cX7_ask 61 = .ok (.invokevirtual 231, 3) := by decide +kernel
theorem dX7_ask_64 : decode cX7_ask 64 = .ok (.aload_n 0, 1) := by decide +kernel
theorem dX7_ask_65 : decode cX7_ask 65 = .ok (.getfield 7, 3) := by decide +kernel
theorem dX7_ask_68 : decode cX7_ask 68 = .ok (.iconst 4, 1) := by decide +kernel
theorem dX7_ask_69 : decode cX7_ask 69 = .ok (.iload_n 2, 1) := by decide +kernel
theorem dX7_ask_70 : decode cX7_ask 70 = .ok (.iadd, 1) := by decide +kernel
theorem dX7_ask_71 : decode cX7_ask 71 = .ok (.iload_n 1, 1) := by decide +kernel
theorem dX7_ask_72 : decode cX7_ask 72 = .ok (.iastore, 1) := by decide +kernel
theorem dX7_ask_73 : decode cX7_ask 73 = .ok (.aload_n 0, 1) := by decide +kernel
theorem dX7_ask_74 : decode cX7_ask 74 = .ok (.getfield 7, 3) := by decide +kernel
theorem dX7_ask_77 : decode cX7_ask 77 = .ok (.iconst 3, 1) := by decide +kernel
theorem dX7_ask_78 : decode cX7_ask 78 = .ok (.dup2, 1) := by decide +kernel
theorem dX7_ask_79 : decode cX7_ask 79 = .ok (.iaload, 1) := by decide +kernel
theorem dX7_ask_80 : decode cX7_ask 80 = .ok (.iconst 1, 1) := by decide +kernel
theorem dX7_ask_81 : decode cX7_ask 81 = .ok (.iadd, 1) := by decide +kernel
theorem dX7_ask_82 : decode cX7_ask 82 = .ok (.iastore, 1) := by decide +kernel
theorem dX7_ask_83 : decode cX7_ask 83 = .ok (.aload_n 0, 1) := by decide +kernel
theorem dX7_ask_84 : decode cX7_ask 84 = .ok (.invokevirtual 261, 3) := by decide +kernel
theorem dX7_ask_87 : decode cX7_ask 87 = .ok (.ireturn, 1) := by decide +kernel
theorem dX7_erase_0 : decode cX7_erase 0 = .ok (.aload_n 0, 1) := by decide +kernel
theorem dX7_erase_1 : decode cX7_erase 1 = .ok (.getfield 7, 3) := by decide +kernel
theorem dX7_erase_4 : decode cX7_erase 4 = .ok (.iconst 3, 1) := by decide +kernel
theorem dX7_erase_5 : decode cX7_erase 5 = .ok (.iaload, 1) := by decide +kernel
theorem dX7_erase_6 : decode cX7_erase 6 = .ok (.ifCond .ne 6, 3) := by decide +kernel
theorem dX7_erase_9 : decode cX7_erase 9 = .ok (.bipush (-3), 2) := by decide +kernel
theorem dX7_erase_11 : decode cX7_erase 11 = .ok (.ireturn, 1) := by decide +kernel
theorem dX7_erase_12 : decode cX7_erase 12 = .ok (.aload_n 0, 1) := by decide +kernel
theorem dX7_erase_13 : decode cX7_erase 13 = .ok (.invokevirtual 231, 3) := by decide +kernel
theorem dX7_erase_16 : decode cX7_erase 16 = .ok (.aload_n 0, 1) := by decide +kernel
theorem dX7_erase_17 : decode cX7_erase 17 = .ok (.getfield 7, 3) := by decide +kernel
theorem dX7_erase_20 : decode cX7_erase 20 = .ok (.iconst 3, 1) := by decide +kernel
theorem dX7_erase_21 : decode cX7_erase 21 = .ok (.dup2, 1) := by decide +kernel
theorem dX7_erase_22 : decode cX7_erase 22 = .ok (.iaload, 1) := by decide +kernel
theorem dX7_erase_23 : decode cX7_erase 23 = .ok (.iconst 1, 1) := by decide +kernel
theorem dX7_erase_24 : decode cX7_erase 24 = .ok (.isub, 1) := by decide +kernel
theorem dX7_erase_25 : decode cX7_erase 25 = .ok (.iastore, 1) := by decide +kernel
theorem dX7_erase_26 : decode cX7_erase 26 = .ok (.aload_n 0, 1) := by decide +kernel
theorem dX7_erase_27 : decode cX7_erase 27 = .ok (.getfield 7, 3) := by decide +kernel
theorem dX7_erase_30 : decode cX7_erase 30 = .ok (.iconst 4, 1) := by decide +kernel
theorem dX7_erase_31 : decode cX7_erase 31 = .ok (.aload_n 0, 1) := by decide +kernel
theorem dX7_erase_32 : decode cX7_erase 32 = .ok (.getfield 7, 3) := by decide +kernel
theorem dX7_erase_35 : decode cX7_erase 35 = .ok (.iconst 3, 1) := by decide +kernel
theorem dX7_erase_36 : decode cX7_erase 36 = .ok (.iaload, 1) := by decide +kernel
theorem dX7_erase_37 : decode cX7_erase 37 = .ok (.iadd, 1) := by decide +kernel
theorem dX7_erase_38 : decode cX7_erase 38 = .ok (.iconst 0, 1) := by decide +kernel
theorem dX7_erase_39 : decode cX7_erase 39 = .ok (.iastore, 1) := by decide +kernel
theorem dX7_erase_40 : decode cX7_erase 40 = .ok (.aload_n 0, 1) := by decide +kernel
theorem dX7_erase_41 : decode cX7_erase 41 = .ok (.invokevirtual 261, 3) := by decide +kernel
theorem dX7_erase_44 : decode cX7_erase 44 = .ok (.ireturn, 1) := by decide +kernel
theorem dX7_queryLength_0 : decode cX7_queryLength 0 = .ok (.aload_n 0, 1) := by decide +kernel
theorem dX7_queryLength_1 : decode cX7_queryLength 1 = .ok (.getfield 7, 3) := by decide +kernel
theorem dX7_queryLength_4 : decode cX7_queryLength 4 = .ok (.iconst 3, 1) := by decide +kernel
theorem dX7_queryLength_5 : decode cX7_queryLength 5 = .ok (.iaload, 1) := by decide +kernel
theorem dX7_queryLength_6 : decode cX7_queryLength 6 = .ok (.ireturn, 1) := by decide +kernel
theorem dX7_queryCharacter_0 : decode cX7_queryCharacter 0 = .ok (.iload_n 1, 1) := by decide +kernel
theorem dX7_queryCharacter_1 : decode cX7_queryCharacter 1 = .ok (.iconst 0, 1) := by decide +kernel
theorem dX7_queryCharacter_2 : decode cX7_queryCharacter 2 = .ok (.aload_n 0, 1) := by decide +kernel
theorem dX7_queryCharacter_3 : decode cX7_queryCharacter 3 = .ok (.getfield 7, 3) := by decide +kernel
theorem dX7_queryCharacter_6 : decode cX7_queryCharacter 6 = .ok (.iconst 3, 1) := by decide +kernel
theorem dX7_queryCharacter_7 : decode cX7_queryCharacter 7 = .ok (.iaload, 1) := by decide +kernel
theorem dX7_queryCharacter_8 : decode cX7_queryCharacter 8 = .ok (.iconst 1, 1) := by decide +kernel
theorem dX7_queryCharacter_9 : decode cX7_queryCharacter 9 = .ok (.isub, 1) := by decide +kernel
theorem dX7_queryCharacter_10 : decode cX7_queryCharacter 10 = .ok (.invokestatic 47, 3) := by decide +kernel
theorem dX7_queryCharacter_13 : decode cX7_queryCharacter 13 = .ok (.ifCond .eq 14, 3) := by decide +kernel
theorem dX7_queryCharacter_16 : decode cX7_queryCharacter 16 = .ok (.aload_n 0, 1) := by decide +kernel
theorem dX7_queryCharacter_17 : decode cX7_queryCharacter 17 = .ok (.getfield 7, 3) := by decide +kernel
theorem dX7_queryCharacter_20 : decode cX7_queryCharacter 20 = .ok (.iconst 4, 1) := by decide +kernel
theorem dX7_queryCharacter_21 : decode cX7_queryCharacter 21 = .ok (.iload_n 1, 1) := by decide +kernel
theorem dX7_queryCharacter_22 : decode cX7_queryCharacter 22 = .ok (.iadd, 1) := by decide +kernel
theorem dX7_queryCharacter_23 : decode cX7_queryCharacter 23 = .ok (.iaload, 1) := by decide +kernel
theorem dX7_queryCharacter_24 : decode cX7_queryCharacter 24 = .ok (.goto 4, 3) := by decide +kernel
theorem dX7_queryCharacter_27 : decode cX7_queryCharacter 27 = .ok (.iconst (-1), 1) := by decide +kernel
theorem dX7_queryCharacter_28 : decode cX7_queryCharacter 28 = .ok (.ireturn, 1) := by decide +kernel
theorem dX7_results_0 : decode cX7_results 0 = .ok (.aload_n 0, 1) := by decide +kernel
theorem dX7_results_1 : decode cX7_results 1 = .ok (.invokevirtual 261, 3) := by decide +kernel
theorem dX7_results_4 : decode cX7_results 4 = .ok (.ireturn, 1) := by decide +kernel
theorem dX7_result_0 : decode cX7_result 0 = .ok (.aload_n 0, 1) := by decide +kernel
theorem dX7_result_1 : decode cX7_result 1 = .ok (.iload_n 1, 1) := by decide +kernel
theorem dX7_result_2 : decode cX7_result 2 = .ok (.invokevirtual 219, 3) := by decide +kernel
theorem dX7_result_5 : decode cX7_result 5 = .ok (.ifCond .eq 12, 3) := by decide +kernel
theorem dX7_result_8 : decode cX7_result 8 = .ok (.aload_n 0, 1) := by decide +kernel
theorem dX7_result_9 : decode cX7_result 9 = .ok (.getfield 28, 3) := by decide +kernel
theorem dX7_result_12 : decode cX7_result 12 = .ok (.iload_n 1, 1) := by decide +kernel
theorem dX7_result_13 : decode cX7_result 13 = .ok (.iaload, 1) := by decide +kernel
theorem dX7_result_14 : decode cX7_result 14 = .ok (.goto 4, 3) := by decide +kernel
theorem dX7_result_17 : decode cX7_result 17 = .ok (.iconst (-1), 1) := by decide +kernel
theorem dX7_result_18 : decode cX7_result 18 = .ok (.ireturn, 1) := by decide +kernel
theorem dX7_matchPlace_0 : decode cX7_matchPlace 0 = .ok (.aload_n 0, 1) := by decide +kernel
theorem dX7_matchPlace_1 : decode cX7_matchPlace 1 = .ok (.iload_n 1, 1) := by decide +kernel
theorem dX7_matchPlace_2 : decode cX7_matchPlace 2 = .ok (.invokevirtual 219, 3) := by decide +kernel
theorem dX7_matchPlace_5 : decode cX7_matchPlace 5 = .ok (.ifCond .eq 17, 3) := by decide +kernel
theorem dX7_matchPlace_8 : decode cX7_matchPlace 8 = .ok (.aload_n 0, 1) := by decide +kernel
theorem dX7_matchPlace_9 : decode cX7_matchPlace 9 = .ok (.getfield 31, 3) := by decide +kernel
theorem dX7_matchPlace_12 : decode cX7_matchPlace 12 = .ok (.aload_n 0, 1) := by decide +kernel
theorem dX7_matchPlace_13 : decode cX7_matchPlace 13 = .ok (.getfield 28, 3) := by decide +kernel
theorem dX7_matchPlace_16 : decode cX7_matchPlace 16 = .ok (.iload_n 1, 1) := by decide +kernel
theorem dX7_matchPlace_17 : decode cX7_matchPlace 17 = .ok (.iaload, 1) := by decide +kernel
theorem dX7_matchPlace_18 : decode cX7_matchPlace 18 = .ok (.iaload, 1) := by decide +kernel
theorem dX7_matchPlace_19 : decode cX7_matchPlace 19 = .ok (.goto 4, 3) := by decide +kernel
theorem dX7_matchPlace_22 : decode cX7_matchPlace 22 = .ok (.iconst (-1), 1) := by decide +kernel
theorem dX7_matchPlace_23 : decode cX7_matchPlace 23 = .ok (.ireturn, 1) := by decide +kernel
theorem dX7_pick_0 : decode cX7_pick 0 = .ok (.aload_n 0, 1) := by decide +kernel
theorem dX7_pick_1 : decode cX7_pick 1 = .ok (.iload_n 1, 1) := by decide +kernel
theorem dX7_pick_2 : decode cX7_pick 2 = .ok (.invokevirtual 219, 3) := by decide +kernel
theorem dX7_pick_5 : decode cX7_pick 5 = .ok (.ifCond .ne 5, 3) := by decide +kernel
theorem dX7_pick_8 : decode cX7_pick 8 = .ok (.iconst (-1), 1) := by decide +kernel
theorem dX7_pick_9 : decode cX7_pick 9 = .ok (.ireturn, 1) := by decide +kernel
theorem dX7_pick_10 : decode cX7_pick 10 = .ok (.aload_n 0, 1) := by decide +kernel
theorem dX7_pick_11 : decode cX7_pick 11 = .ok (.invokevirtual 231, 3) := by decide +kernel
theorem dX7_pick_14 : decode cX7_pick 14 = .ok (.aload_n 0, 1) := by decide +kernel
theorem dX7_pick_15 : decode cX7_pick 15 = .ok (.iload_n 1, 1) := by decide +kernel
theorem dX7_pick_16 : decode cX7_pick 16 = .ok (.invokevirtual 228, 3) := by decide +kernel
theorem dX7_pick_19 : decode cX7_pick 19 = .ok (.ireturn, 1) := by decide +kernel
theorem dX7_undo_0 : decode cX7_undo 0 = .ok (.aload_n 0, 1) := by decide +kernel
theorem dX7_undo_1 : decode cX7_undo 1 = .ok (.getfield 43, 3) := by decide +kernel
theorem dX7_undo_4 : decode cX7_undo 4 = .ok (.ifCond .ne 6, 3) := by decide +kernel
theorem dX7_undo_7 : decode cX7_undo 7 = .ok (.bipush (-3), 2) := by decide +kernel
theorem dX7_undo_9 : decode cX7_undo 9 = .ok (.ireturn, 1) := by decide +kernel
theorem dX7_undo_10 : decode cX7_undo 10 = .ok (.aload_n 0, 1) := by decide +kernel
theorem dX7_undo_11 : decode cX7_undo 11 = .ok (.dup, 1) := by decide +kernel
theorem dX7_undo_12 : decode cX7_undo 12 = .ok (.getfield 43, 3) := by decide +kernel
theorem dX7_undo_15 : decode cX7_undo 15 = .ok (.iconst 1, 1) := by decide +kernel
theorem dX7_undo_16 : decode cX7_undo 16 = .ok (.isub, 1) := by decide +kernel
theorem dX7_undo_17 : decode cX7_undo 17 = .ok (.putfield 43, 3) := by decide +kernel
theorem dX7_undo_20 : decode cX7_undo 20 = .ok (.iconst 0, 1) := by decide +kernel
theorem dX7_undo_21 : decode cX7_undo 21 = .ok (.istore_n 1, 1) := by decide +kernel
theorem dX7_undo_22 : decode cX7_undo 22 = .ok (.iload_n 1, 1) := by decide +kernel
theorem dX7_undo_23 : decode cX7_undo 23 = .ok (.sipush 444, 3) := by decide +kernel
theorem dX7_undo_26 : decode cX7_undo 26 = .ok (.if_icmp .ge 30, 3) := by decide +kernel
theorem dX7_undo_29 : decode cX7_undo 29 = .ok (.aload_n 0, 1) := by decide +kernel
theorem dX7_undo_30 : decode cX7_undo 30 = .ok (.getfield 7, 3) := by decide +kernel
theorem dX7_undo_33 : decode cX7_undo 33 = .ok (.iload_n 1, 1) := by decide +kernel
theorem dX7_undo_34 : decode cX7_undo 34 = .ok (.aload_n 0, 1) := by decide +kernel
theorem dX7_undo_35 : decode cX7_undo 35 = .ok (.getfield 13, 3) := by decide +kernel
theorem dX7_undo_38 : decode cX7_undo 38 = .ok (.aload_n 0, 1) := by decide +kernel
theorem dX7_undo_39 : decode cX7_undo 39 = .ok (.getfield 43, 3) := by decide +kernel
theorem dX7_undo_42 : decode cX7_undo 42 = .ok (.sipush 444, 3) := by decide +kernel
theorem dX7_undo_45 : decode cX7_undo 45 = .ok (.imul, 1) := by decide +kernel
theorem dX7_undo_46 : decode cX7_undo 46 = .ok (.iload_n 1, 1) := by decide +kernel
theorem dX7_undo_47 : decode cX7_undo 47 = .ok (.iadd, 1) := by decide +kernel
theorem dX7_undo_48 : decode cX7_undo 48 = .ok (.iaload, 1) := by decide +kernel
theorem dX7_undo_49 : decode cX7_undo 49 = .ok (.iastore, 1) := by decide +kernel
theorem dX7_undo_50 : decode cX7_undo 50 = .ok (.iinc 1 1, 3) := by decide +kernel
theorem dX7_undo_53 : decode cX7_undo 53 = .ok (.goto (-31), 3) := by decide +kernel
theorem dX7_undo_56 : decode cX7_undo 56 = .ok (.aload_n 0, 1) := by decide +kernel
theorem dX7_undo_57 : decode cX7_undo 57 = .ok (.getfield 43, 3) := by decide +kernel
theorem dX7_undo_60 : decode cX7_undo 60 = .ok (.ireturn, 1) := by decide +kernel
theorem dX7_digest_0 : decode cX7_digest 0 = .ok (.ldc2_w 264, 3) := by decide +kernel
theorem dX7_digest_3 : decode cX7_digest 3 = .ok (.lstore_n 1, 1) := by decide +kernel
theorem dX7_digest_4 : decode cX7_digest 4 = .ok (.ldc2_w 266, 3) := by decide +kernel
theorem dX7_digest_7 : decode cX7_digest 7 = .ok (.lload_n 1, 1) := by decide +kernel
theorem dX7_digest_8 : decode cX7_digest 8 = .ok (.lmul, 1) := by decide +kernel
theorem dX7_digest_9 : decode cX7_digest 9 = .ok (.aload_n 0, 1) := by decide +kernel
theorem dX7_digest_10 : decode cX7_digest 10 = .ok (.getfield 7, 3) := by decide +kernel
theorem dX7_digest_13 : decode cX7_digest 13 = .ok (.iconst 0, 1) := by decide +kernel
theorem dX7_digest_14 : decode cX7_digest 14 = .ok (.iaload, 1) := by decide +kernel
theorem dX7_digest_15 : decode cX7_digest 15 = .ok (.i2l, 1) := by decide +kernel
theorem dX7_digest_16 : decode cX7_digest 16 = .ok (.ladd, 1) := by decide +kernel
theorem dX7_digest_17 : decode cX7_digest 17 = .ok (.lstore_n 1, 1) := by decide +kernel
theorem dX7_digest_18 : decode cX7_digest 18 = .ok (.aload_n 0, 1) := by decide +kernel
theorem dX7_digest_19 : decode cX7_digest 19 = .ok (.invokevirtual 252, 3) := by decide +kernel
theorem dX7_digest_22 : decode cX7_digest 22 = .ok (.iconst 0, 1) := by decide +kernel
theorem dX7_digest_23 : decode cX7_digest 23 = .ok (.istore_n 3, 1) := by decide +kernel
theorem dX7_digest_24 : decode cX7_digest 24 = .ok (.iload_n 3, 1) := by decide +kernel
theorem dX7_digest_25 : decode cX7_digest 25 = .ok (.aload_n 0, 1) := by decide +kernel
theorem dX7_digest_26 : decode cX7_digest 26 = .ok (.getfield 7, 3) := by decide +kernel
theorem dX7_digest_29 : decode cX7_digest 29 = .ok (.iconst 0, 1) := by decide +kernel
theorem dX7_digest_30 : decode cX7_digest 30 = .ok (.iaload, 1) := by decide +kernel
theorem dX7_digest_31 : decode cX7_digest 31 = .ok (.if_icmp .ge 141, 3) := by decide +kernel
theorem dX7_digest_34 : decode cX7_digest 34 = .ok (.ldc2_w 266, 3) := by decide +kernel
theorem dX7_digest_37 : decode cX7_digest 37 = .ok (.lload_n 1, 1) := by decide +kernel
theorem dX7_digest_38 : decode cX7_digest 38 = .ok (.lmul, 1) := by decide +kernel
theorem dX7_digest_39 : decode cX7_digest 39 = .ok (.aload_n 0, 1) := by decide +kernel
theorem dX7_digest_40 : decode cX7_digest 40 = .ok (.iload_n 3, 1) := by decide +kernel
theorem dX7_digest_41 : decode cX7_digest 41 = .ok (.invokevirtual 58, 3) := by decide +kernel
theorem dX7_digest_44 : decode cX7_digest 44 = .ok (.i2l, 1) := by decide +kernel
theorem dX7_digest_45 : decode cX7_digest 45 = .ok (.ladd, 1) := by decide +kernel
theorem dX7_digest_46 : decode cX7_digest 46 = .ok (.lstore_n 1, 1) := by decide +kernel
theorem dX7_digest_47 : decode cX7_digest 47 = .ok (.ldc2_w 266, 3) := by decide +kernel
theorem dX7_digest_50 : decode cX7_digest 50 = .ok (.lload_n 1, 1) := by decide +kernel
theorem dX7_digest_51 : decode cX7_digest 51 = .ok (.lmul, 1) := by decide +kernel
theorem dX7_digest_52 : decode cX7_digest 52 = .ok (.aload_n 0, 1) := by decide +kernel
theorem dX7_digest_53 : decode cX7_digest 53 = .ok (.iload_n 3, 1) := by decide +kernel
theorem dX7_digest_54 : decode cX7_digest 54 = .ok (.invokevirtual 243, 3) := by decide +kernel
theorem dX7_digest_57 : decode cX7_digest 57 = .ok (.i2l, 1) := by decide +kernel
theorem dX7_digest_58 : decode cX7_digest 58 = .ok (.ladd, 1) := by decide +kernel
theorem dX7_digest_59 : decode cX7_digest 59 = .ok (.lstore_n 1, 1) := by decide +kernel
theorem dX7_digest_60 : decode cX7_digest 60 = .ok (.ldc2_w 266, 3) := by decide +kernel
theorem dX7_digest_63 : decode cX7_digest 63 = .ok (.lload_n 1, 1) := by decide +kernel
theorem dX7_digest_64 : decode cX7_digest 64 = .ok (.lmul, 1) := by decide +kernel
theorem dX7_digest_65 : decode cX7_digest 65 = .ok (.aload_n 0, 1) := by decide +kernel
theorem dX7_digest_66 : decode cX7_digest 66 = .ok (.iload_n 3, 1) := by decide +kernel
theorem dX7_digest_67 : decode cX7_digest 67 = .ok (.iconst 1, 1) := by decide +kernel
theorem dX7_digest_68 : decode cX7_digest 68 = .ok (.invokevirtual 51, 3) := by decide +kernel
theorem dX7_digest_71 : decode cX7_digest 71 = .ok (.i2l, 1) := by decide +kernel
theorem dX7_digest_72 : decode cX7_digest 72 = .ok (.ladd, 1) := by decide +kernel
theorem dX7_digest_73 : decode cX7_digest 73 = .ok (.lstore_n 1, 1) := by decide +kernel
theorem dX7_digest_74 : decode cX7_digest 74 = .ok (.ldc2_w 266, 3) := by decide +kernel
theorem dX7_digest_77 : decode cX7_digest 77 = .ok (.lload_n 1, 1) := by decide +kernel
theorem dX7_digest_78 : decode cX7_digest 78 = .ok (.lmul, 1) := by decide +kernel
theorem dX7_digest_79 : decode cX7_digest 79 = .ok (.aload_n 0, 1) := by decide +kernel
theorem dX7_digest_80 : decode cX7_digest 80 = .ok (.getfield 34, 3) := by decide +kernel
theorem dX7_digest_83 : decode cX7_digest 83 = .ok (.iload_n 3, 1) := by decide +kernel
theorem dX7_digest_84 : decode cX7_digest 84 = .ok (.iaload, 1) := by decide +kernel
theorem dX7_digest_85 : decode cX7_digest 85 = .ok (.i2l, 1) := by decide +kernel
theorem dX7_digest_86 : decode cX7_digest 86 = .ok (.ladd, 1) := by decide +kernel
theorem dX7_digest_87 : decode cX7_digest 87 = .ok (.lstore_n 1, 1) := by decide +kernel
theorem dX7_digest_88 : decode cX7_digest 88 = .ok (.ldc2_w 266, 3) := by decide +kernel
theorem dX7_digest_91 : decode cX7_digest 91 = .ok (.lload_n 1, 1) := by decide +kernel
theorem dX7_digest_92 : decode cX7_digest 92 = .ok (.lmul, 1) := by decide +kernel
theorem dX7_digest_93 : decode cX7_digest 93 = .ok (.aload_n 0, 1) := by decide +kernel
theorem dX7_digest_94 : decode cX7_digest 94 = .ok (.getfield 37, 3) := by decide +kernel
theorem dX7_digest_97 : decode cX7_digest 97 = .ok (.iload_n 3, 1) := by decide +kernel
theorem dX7_digest_98 : decode cX7_digest 98 = .ok (.iaload, 1) := by decide +kernel
theorem dX7_digest_99 : decode cX7_digest 99 = .ok (.i2l, 1) := by decide +kernel
theorem dX7_digest_100 : decode cX7_digest 100 = .ok (.ladd, 1) := by decide +kernel
theorem dX7_digest_101 : decode cX7_digest 101 = .ok (.lstore_n 1, 1) := by decide +kernel
theorem dX7_digest_102 : decode cX7_digest 102 = .ok (.aload_n 0, 1) := by decide +kernel
theorem dX7_digest_103 : decode cX7_digest 103 = .ok (.iload_n 3, 1) := by decide +kernel
theorem dX7_digest_104 : decode cX7_digest 104 = .ok (.iconst 0, 1) := by decide +kernel
theorem dX7_digest_105 : decode cX7_digest 105 = .ok (.invokevirtual 116, 3) := by decide +kernel
theorem dX7_digest_108 : decode cX7_digest 108 = .ok (.ldc2_w 266, 3) := by decide +kernel
theorem dX7_digest_111 : decode cX7_digest 111 = .ok (.lload_n 1, 1) := by decide +kernel
theorem dX7_digest_112 : decode cX7_digest 112 = .ok (.lmul, 1) := by decide +kernel
theorem dX7_digest_113 : decode cX7_digest 113 = .ok (.aload_n 0, 1) := by decide +kernel
theorem dX7_digest_114 : decode cX7_digest 114 = .ok (.getfield 110, 3) := by decide +kernel
theorem dX7_digest_117 : decode cX7_digest 117 = .ok (.i2l, 1) := by decide +kernel
theorem dX7_digest_118 : decode cX7_digest 118 = .ok (.ladd, 1) := by decide +kernel
theorem dX7_digest_119 : decode cX7_digest 119 = .ok (.lstore_n 1, 1) := by decide +kernel
theorem dX7_digest_120 : decode cX7_digest 120 = .ok (.ldc2_w 266, 3) := by decide +kernel
theorem dX7_digest_123 : decode cX7_digest 123 = .ok (.lload_n 1, 1) := by decide +kernel
theorem dX7_digest_124 : decode cX7_digest 124 = .ok (.lmul, 1) := by decide +kernel
theorem dX7_digest_125 : decode cX7_digest 125 = .ok (.aload_n 0, 1) := by decide +kernel
theorem dX7_digest_126 : decode cX7_digest 126 = .ok (.getfield 113, 3) := by decide +kernel
theorem dX7_digest_129 : decode cX7_digest 129 = .ok (.i2l, 1) := by decide +kernel
theorem dX7_digest_130 : decode cX7_digest 130 = .ok (.ladd, 1) := by decide +kernel
theorem dX7_digest_131 : decode cX7_digest 131 = .ok (.lstore_n 1, 1) := by decide +kernel
theorem dX7_digest_132 : decode cX7_digest 132 = .ok (.iconst 0, 1) := by decide +kernel
theorem dX7_digest_133 : decode cX7_digest 133 = .ok (.istore 4, 2) := by decide +kernel
theorem dX7_digest_135 : decode cX7_digest 135 = .ok (.iload 4, 2) := by decide +kernel
theorem dX7_digest_137 : decode cX7_digest 137 = .ok (.aload_n 0, 1) := by decide +kernel
theorem dX7_digest_138 : decode cX7_digest 138 = .ok (.iload_n 3, 1) := by decide +kernel
theorem dX7_digest_139 : decode cX7_digest 139 = .ok (.invokevirtual 58, 3) := by decide +kernel
theorem dX7_digest_142 : decode cX7_digest 142 = .ok (.if_icmp .ge 24, 3) := by decide +kernel
theorem dX7_digest_145 : decode cX7_digest 145 = .ok (.ldc2_w 266, 3) := by decide +kernel
theorem dX7_digest_148 : decode cX7_digest 148 = .ok (.lload_n 1, 1) := by decide +kernel
theorem dX7_digest_149 : decode cX7_digest 149 = .ok (.lmul, 1) := by decide +kernel
theorem dX7_digest_150 : decode cX7_digest 150 = .ok (.aload_n 0, 1) := by decide +kernel
theorem dX7_digest_151 : decode cX7_digest 151 = .ok (.iload_n 3, 1) := by decide +kernel
theorem dX7_digest_152 : decode cX7_digest 152 = .ok (.iload 4, 2) := by decide +kernel
theorem dX7_digest_154 : decode cX7_digest 154 = .ok (.invokevirtual 55, 3) := by decide +kernel
theorem dX7_digest_157 : decode cX7_digest 157 = .ok (.i2l, 1) := by decide +kernel
theorem dX7_digest_158 : decode cX7_digest 158 = .ok (.ladd, 1) := by decide +kernel
theorem dX7_digest_159 : decode cX7_digest 159 = .ok (.lstore_n 1, 1) := by decide +kernel
theorem dX7_digest_160 : decode cX7_digest 160 = .ok (.iinc 4 1, 3) := by decide +kernel
theorem dX7_digest_163 : decode cX7_digest 163 = .ok (.goto (-28), 3) := by decide +kernel
theorem dX7_digest_166 : decode cX7_digest 166 = .ok (.iinc 3 1, 3) := by decide +kernel
theorem dX7_digest_169 : decode cX7_digest 169 = .ok (.goto (-145), 3) := by decide +kernel
theorem dX7_digest_172 : decode cX7_digest 172 = .ok (.ldc2_w 266, 3) := by decide +kernel
theorem dX7_digest_175 : decode cX7_digest 175 = .ok (.lload_n 1, 1) := by decide +kernel
theorem dX7_digest_176 : decode cX7_digest 176 = .ok (.lmul, 1) := by decide +kernel
theorem dX7_digest_177 : decode cX7_digest 177 = .ok (.aload_n 0, 1) := by decide +kernel
theorem dX7_digest_178 : decode cX7_digest 178 = .ok (.invokevirtual 255, 3) := by decide +kernel
theorem dX7_digest_181 : decode cX7_digest 181 = .ok (.i2l, 1) := by decide +kernel
theorem dX7_digest_182 : decode cX7_digest 182 = .ok (.ladd, 1) := by decide +kernel
theorem dX7_digest_183 : decode cX7_digest 183 = .ok (.lstore_n 1, 1) := by decide +kernel
theorem dX7_digest_184 : decode cX7_digest 184 = .ok (.ldc2_w 266, 3) := by decide +kernel
theorem dX7_digest_187 : decode cX7_digest 187 = .ok (.lload_n 1, 1) := by decide +kernel
theorem dX7_digest_188 : decode cX7_digest 188 = .ok (.lmul, 1) := by decide +kernel
theorem dX7_digest_189 : decode cX7_digest 189 = .ok (.aload_n 0, 1) := by decide +kernel
theorem dX7_digest_190 : decode cX7_digest 190 = .ok (.invokevirtual 258, 3) := by decide +kernel
theorem dX7_digest_193 : decode cX7_digest 193 = .ok (.i2l, 1) := by decide +kernel
theorem dX7_digest_194 : decode cX7_digest 194 = .ok (.ladd, 1) := by decide +kernel
theorem dX7_digest_195 : decode cX7_digest 195 = .ok (.lstore_n 1, 1) := by decide +kernel
theorem dX7_digest_196 : decode cX7_digest 196 = .ok (.ldc2_w 266, 3) := by decide +kernel
theorem dX7_digest_199 : decode cX7_digest 199 = .ok (.lload_n 1, 1) := by decide +kernel
theorem dX7_digest_200 : decode cX7_digest 200 = .ok (.lmul, 1) := by decide +kernel
theorem dX7_digest_201 : decode cX7_digest 201 = .ok (.aload_n 0, 1) := by decide +kernel
theorem dX7_digest_202 : decode cX7_digest 202 = .ok (.getfield 7, 3) := by decide +kernel
theorem dX7_digest_205 : decode cX7_digest 205 = .ok (.iconst 1, 1) := by decide +kernel
theorem dX7_digest_206 : decode cX7_digest 206 = .ok (.iaload, 1) := by decide +kernel
theorem dX7_digest_207 : decode cX7_digest 207 = .ok (.i2l, 1) := by decide +kernel
theorem dX7_digest_208 : decode cX7_digest 208 = .ok (.ladd, 1) := by decide +kernel
theorem dX7_digest_209 : decode cX7_digest 209 = .ok (.lstore_n 1, 1) := by decide +kernel
theorem dX7_digest_210 : decode cX7_digest 210 = .ok (.ldc2_w 266, 3) := by decide +kernel
theorem dX7_digest_213 : decode cX7_digest 213 = .ok (.lload_n 1, 1) := by decide +kernel
theorem dX7_digest_214 : decode cX7_digest 214 = .ok (.lmul, 1) := by decide +kernel
theorem dX7_digest_215 : decode cX7_digest 215 = .ok (.aload_n 0, 1) := by decide +kernel
theorem dX7_digest_216 : decode cX7_digest 216 = .ok (.getfield 7, 3) := by decide +kernel
theorem dX7_digest_219 : decode cX7_digest 219 = .ok (.iconst 2, 1) := by decide +kernel
theorem dX7_digest_220 : decode cX7_digest 220 = .ok (.iaload, 1) := by decide +kernel
theorem dX7_digest_221 : decode cX7_digest 221 = .ok (.i2l, 1) := by decide +kernel
theorem dX7_digest_222 : decode cX7_digest 222 = .ok (.ladd, 1) := by decide +kernel
theorem dX7_digest_223 : decode cX7_digest 223 = .ok (.lstore_n 1, 1) := by decide +kernel
theorem dX7_digest_224 : decode cX7_digest 224 = .ok (.ldc2_w 266, 3) := by decide +kernel
theorem dX7_digest_227 : decode cX7_digest 227 = .ok (.lload_n 1, 1) := by decide +kernel
theorem dX7_digest_228 : decode cX7_digest 228 = .ok (.lmul, 1) := by decide +kernel
theorem dX7_digest_229 : decode cX7_digest 229 = .ok (.aload_n 0, 1) := by decide +kernel
theorem dX7_digest_230 : decode cX7_digest 230 = .ok (.getfield 7, 3) := by decide +kernel
theorem dX7_digest_233 : decode cX7_digest 233 = .ok (.iconst 3, 1) := by decide +kernel
theorem dX7_digest_234 : decode cX7_digest 234 = .ok (.iaload, 1) := by decide +kernel
theorem dX7_digest_235 : decode cX7_digest 235 = .ok (.i2l, 1) := by decide +kernel
theorem dX7_digest_236 : decode cX7_digest 236 = .ok (.ladd, 1) := by decide +kernel
theorem dX7_digest_237 : decode cX7_digest 237 = .ok (.lstore_n 1, 1) := by decide +kernel
theorem dX7_digest_238 : decode cX7_digest 238 = .ok (.iconst 0, 1) := by decide +kernel
theorem dX7_digest_239 : decode cX7_digest 239 = .ok (.istore_n 3, 1) := by decide +kernel
theorem dX7_digest_240 : decode cX7_digest 240 = .ok (.iload_n 3, 1) := by decide +kernel
theorem dX7_digest_241 : decode cX7_digest 241 = .ok (.aload_n 0, 1) := by decide +kernel
theorem dX7_digest_242 : decode cX7_digest 242 = .ok (.getfield 7, 3) := by decide +kernel
theorem dX7_digest_245 : decode cX7_digest 245 = .ok (.iconst 3, 1) := by decide +kernel
theorem dX7_digest_246 : decode cX7_digest 246 = .ok (.iaload, 1) := by decide +kernel
theorem dX7_digest_247 : decode cX7_digest 247 = .ok (.if_icmp .ge 25, 3) := by decide +kernel
theorem dX7_digest_250 : decode cX7_digest 250 = .ok (.ldc2_w 266, 3) := by decide +kernel
theorem dX7_digest_253 : decode cX7_digest 253 = .ok (.lload_n 1, 1) := by decide +kernel
theorem dX7_digest_254 : decode cX7_digest 254 = .ok (.lmul, 1) := by decide +kernel
theorem dX7_digest_255 : decode cX7_digest 255 = .ok (.aload_n 0, 1) := by decide +kernel
theorem dX7_digest_256 : decode cX7_digest 256 = .ok (.getfield 7, 3) := by decide +kernel
theorem dX7_digest_259 : decode cX7_digest 259 = .ok (.iconst 4, 1) := by decide +kernel
theorem dX7_digest_260 : decode cX7_digest 260 = .ok (.iload_n 3, 1) := by decide +kernel
theorem dX7_digest_261 : decode cX7_digest 261 = .ok (.iadd, 1) := by decide +kernel
theorem dX7_digest_262 : decode cX7_digest 262 = .ok (.iaload, 1) := by decide +kernel
theorem dX7_digest_263 : decode cX7_digest 263 = .ok (.i2l, 1) := by decide +kernel
theorem dX7_digest_264 : decode cX7_digest 264 = .ok (.ladd, 1) := by decide +kernel
theorem dX7_digest_265 : decode cX7_digest 265 = .ok (.lstore_n 1, 1) := by decide +kernel
theorem dX7_digest_266 : decode cX7_digest 266 = .ok (.iinc 3 1, 3) := by decide +kernel
theorem dX7_digest_269 : decode cX7_digest 269 = .ok (.goto (-29), 3) := by decide +kernel
theorem dX7_digest_272 : decode cX7_digest 272 = .ok (.aload_n 0, 1) := by decide +kernel
theorem dX7_digest_273 : decode cX7_digest 273 = .ok (.invokevirtual 210, 3) := by decide +kernel
theorem dX7_digest_276 : decode cX7_digest 276 = .ok (.ldc2_w 266, 3) := by decide +kernel
theorem dX7_digest_279 : decode cX7_digest 279 = .ok (.lload_n 1, 1) := by decide +kernel
theorem dX7_digest_280 : decode cX7_digest 280 = .ok (.lmul, 1) := by decide +kernel
theorem dX7_digest_281 : decode cX7_digest 281 = .ok (.aload_n 0, 1) := by decide +kernel
theorem dX7_digest_282 : decode cX7_digest 282 = .ok (.getfield 93, 3) := by decide +kernel
theorem dX7_digest_285 : decode cX7_digest 285 = .ok (.i2l, 1) := by decide +kernel
theorem dX7_digest_286 : decode cX7_digest 286 = .ok (.ladd, 1) := by decide +kernel
theorem dX7_digest_287 : decode cX7_digest 287 = .ok (.lstore_n 1, 1) := by decide +kernel
theorem dX7_digest_288 : decode cX7_digest 288 = .ok (.iconst 0, 1) := by decide +kernel
theorem dX7_digest_289 : decode cX7_digest 289 = .ok (.istore_n 3, 1) := by decide +kernel
theorem dX7_digest_290 : decode cX7_digest 290 = .ok (.iload_n 3, 1) := by decide +kernel
theorem dX7_digest_291 : decode cX7_digest 291 = .ok (.aload_n 0, 1) := by decide +kernel
theorem dX7_digest_292 : decode cX7_digest 292 = .ok (.getfield 93, 3) := by decide +kernel
theorem dX7_digest_295 : decode cX7_digest 295 = .ok (.if_icmp .ge 42, 3) := by decide +kernel
theorem dX7_digest_298 : decode cX7_digest 298 = .ok (.ldc2_w 266, 3) := by decide +kernel
theorem dX7_digest_301 : decode cX7_digest 301 = .ok (.lload_n 1, 1) := by decide +kernel
theorem dX7_digest_302 : decode cX7_digest 302 = .ok (.lmul, 1) := by decide +kernel
theorem dX7_digest_303 : decode cX7_digest 303 = .ok (.aload_n 0, 1) := by decide +kernel
theorem dX7_digest_304 : decode cX7_digest 304 = .ok (.getfield 28, 3) := by decide +kernel
theorem dX7_digest_307 : decode cX7_digest 307 = .ok (.iload_n 3, 1) := by decide +kernel
theorem dX7_digest_308 : decode cX7_digest 308 = .ok (.iaload, 1) := by decide +kernel
theorem dX7_digest_309 : decode cX7_digest 309 = .ok (.i2l, 1) := by decide +kernel
theorem dX7_digest_310 : decode cX7_digest 310 = .ok (.ladd, 1) := by decide +kernel
theorem dX7_digest_311 : decode cX7_digest 311 = .ok (.lstore_n 1, 1) := by decide +kernel
theorem dX7_digest_312 : decode cX7_digest 312 = .ok (.ldc2_w 266, 3) := by decide +kernel
theorem dX7_digest_315 : decode cX7_digest 315 = .ok (.lload_n 1, 1) := by decide +kernel
theorem dX7_digest_316 : decode cX7_digest 316 = .ok (.lmul, 1) := by decide +kernel
theorem dX7_digest_317 : decode cX7_digest 317 = .ok (.aload_n 0, 1) := by decide +kernel
theorem dX7_digest_318 : decode cX7_digest 318 = .ok (.getfield 31, 3) := by decide +kernel
theorem dX7_digest_321 : decode cX7_digest 321 = .ok (.aload_n 0, 1) := by decide +kernel
theorem dX7_digest_322 : decode cX7_digest 322 = .ok (.getfield 28, 3) := by decide +kernel
theorem dX7_digest_325 : decode cX7_digest 325 = .ok (.iload_n 3, 1) := by decide +kernel
theorem dX7_digest_326 : decode cX7_digest 326 = .ok (.iaload, 1) := by decide +kernel
theorem dX7_digest_327 : decode cX7_digest 327 = .ok (.iaload, 1) := by decide +kernel
theorem dX7_digest_328 : decode cX7_digest 328 = .ok (.i2l, 1) := by decide +kernel
theorem dX7_digest_329 : decode cX7_digest 329 = .ok (.ladd, 1) := by decide +kernel
theorem dX7_digest_330 : decode cX7_digest 330 = .ok (.lstore_n 1, 1) := by decide +kernel
theorem dX7_digest_331 : decode cX7_digest 331 = .ok (.iinc 3 1, 3) := by decide +kernel
theorem dX7_digest_334 : decode cX7_digest 334 = .ok (.goto (-44), 3) := by decide +kernel
theorem dX7_digest_337 : decode cX7_digest 337 = .ok (.lload_n 1, 1) := by decide +kernel
theorem dX7_digest_338 : decode cX7_digest 338 = .ok (.lreturn, 1) := by decide +kernel
end
section
theorem dJ9_max_7cf53_0 : decode cJ9_max_7cf53 0 = .ok (.iload_n 0, 1) := by decide +kernel
theorem dJ9_max_7cf53_1 : decode cJ9_max_7cf53 1 = .ok (.iload_n 1, 1) := by decide +kernel
theorem dJ9_max_7cf53_2 : decode cJ9_max_7cf53 2 = .ok (.if_icmp .lt 7, 3) := by decide +kernel
theorem dJ9_max_7cf53_5 : decode cJ9_max_7cf53 5 = .ok (.iload_n 0, 1) := by decide +kernel
theorem dJ9_max_7cf53_6 : decode cJ9_max_7cf53 6 = .ok (.goto 4, 3) := by decide +kernel
theorem dJ9_max_7cf53_9 : decode cJ9_max_7cf53 9 = .ok (.iload_n 1, 1) := by decide +kernel
theorem dJ9_max_7cf53_10 : decode cJ9_max_7cf53 10 = .ok (.ireturn, 1) := by decide +kernel
theorem dJ9_min_7cf53_0 : decode cJ9_min_7cf53 0 = .ok (.iload_n 0, 1) := by decide +kernel
theorem dJ9_min_7cf53_1 : decode cJ9_min_7cf53 1 = .ok (.iload_n 1, 1) := by decide +kernel
theorem dJ9_min_7cf53_2 : decode cJ9_min_7cf53 2 = .ok (.if_icmp .gt 7, 3) := by decide +kernel
theorem dJ9_min_7cf53_5 : decode cJ9_min_7cf53 5 = .ok (.iload_n 0, 1) := by decide +kernel
theorem dJ9_min_7cf53_6 : decode cJ9_min_7cf53 6 = .ok (.goto 4, 3) := by decide +kernel
theorem dJ9_min_7cf53_9 : decode cJ9_min_7cf53 9 = .ok (.iload_n 1, 1) := by decide +kernel
theorem dJ9_min_7cf53_10 : decode cJ9_min_7cf53 10 = .ok (.ireturn, 1) := by decide +kernel
theorem dJ0_length_8abf5_0 : decode cJ0_length_8abf5 0 = .ok (.aload_n 0, 1) := by decide +kernel
theorem dJ0_length_8abf5_1 : decode cJ0_length_8abf5 1 = .ok (.getfield 9, 3) := by decide +kernel
theorem dJ0_length_8abf5_4 : decode cJ0_length_8abf5 4 = .ok (.arraylength, 1) := by decide +kernel
theorem dJ0_length_8abf5_5 : decode cJ0_length_8abf5 5 = .ok (.aload_n 0, 1) := by decide +kernel
theorem dJ0_length_8abf5_6 : decode cJ0_length_8abf5 6 = .ok (.invokevirtual 335, 3) := by decide +kernel
theorem dJ0_length_8abf5_9 : decode cJ0_length_8abf5 9 = .ok (.ishr, 1) := by decide +kernel
theorem dJ0_length_8abf5_10 : decode cJ0_length_8abf5 10 = .ok (.ireturn, 1) := by decide +kernel
theorem dJ0_charAt_5068e_0 : decode cJ0_charAt_5068e 0 = .ok (.aload_n 0, 1) := by decide +kernel
theorem dJ0_charAt_5068e_1 : decode cJ0_charAt_5068e 1 = .ok (.invokevirtual 492, 3) := by decide +kernel
theorem dJ0_charAt_5068e_4 : decode cJ0_charAt_5068e 4 = .ok (.ifCond .eq 12, 3) := by decide +kernel
theorem dJ0_charAt_5068e_7 : decode cJ0_charAt_5068e 7 = .ok (.aload_n 0, 1) := by decide +kernel
theorem dJ0_charAt_5068e_8 : decode cJ0_charAt_5068e 8 = .ok (.getfield 9, 3) := by decide +kernel
theorem dJ0_charAt_5068e_11 : decode cJ0_charAt_5068e 11 = .ok (.iload_n 1, 1) := by decide +kernel
theorem dJ0_charAt_5068e_12 : decode cJ0_charAt_5068e 12 = .ok (.invokestatic 495, 3) := by decide +kernel
theorem dJ0_charAt_5068e_15 : decode cJ0_charAt_5068e 15 = .ok (.ireturn, 1) := by decide +kernel
theorem dJ0_charAt_5068e_16 : decode cJ0_charAt_5068e 16 = .ok (.aload_n 0, 1) := by decide +kernel
theorem dJ0_charAt_5068e_17 : decode cJ0_charAt_5068e 17 = .ok (.getfield 9, 3) := by decide +kernel
theorem dJ0_charAt_5068e_20 : decode cJ0_charAt_5068e 20 = .ok (.iload_n 1, 1) := by decide +kernel
theorem dJ0_charAt_5068e_21 : decode cJ0_charAt_5068e 21 = .ok (.invokestatic 498, 3) := by decide +kernel
theorem dJ0_charAt_5068e_24 : decode cJ0_charAt_5068e 24 = .ok (.ireturn, 1) := by decide +kernel
theorem dJ0_coder_7d493_0 : decode cJ0_coder_7d493 0 = .ok (.getstatic 38, 3) := by decide +kernel
theorem dJ0_coder_7d493_3 : decode cJ0_coder_7d493 3 = .ok (.ifCond .eq 10, 3) := by decide +kernel
theorem dJ0_coder_7d493_6 : decode cJ0_coder_7d493 6 = .ok (.aload_n 0, 1) := by decide +kernel
theorem dJ0_coder_7d493_7 : decode cJ0_coder_7d493 7 = .ok (.getfield 15, 3) := by decide +kernel
theorem dJ0_coder_7d493_10 : decode cJ0_coder_7d493 10 = .ok (.goto 4, 3) := by decide +kernel
theorem dJ0_coder_7d493_13 : decode cJ0_coder_7d493 13 = .ok (.iconst 1, 1) := by decide +kernel
theorem dJ0_coder_7d493_14 : decode cJ0_coder_7d493 14 = .ok (.ireturn, 1) := by decide +kernel
theorem dJ0_isLatin1_aae02_0 : decode cJ0_isLatin1_aae02 0 = .ok (.getstatic 38, 3) := by decide +kernel
theorem dJ0_isLatin1_aae02_3 : decode cJ0_isLatin1_aae02 3 = .ok (.ifCond .eq 14, 3) := by decide +kernel
theorem dJ0_isLatin1_aae02_6 : decode cJ0_isLatin1_aae02 6 = .ok (.aload_n 0, 1) := by decide +kernel
theorem dJ0_isLatin1_aae02_7 : decode cJ0_isLatin1_aae02 7 = .ok (.getfield 15, 3) := by decide +kernel
theorem dJ0_isLatin1_aae02_10 : decode cJ0_isLatin1_aae02 10 = .ok (.ifCond .ne 7, 3) := by decide +kernel
theorem dJ0_isLatin1_aae02_13 : decode cJ0_isLatin1_aae02 13 = .ok (.iconst 1, 1) := by decide +kernel
theorem dJ0_isLatin1_aae02_14 : decode cJ0_isLatin1_aae02 14 = .ok (.goto 4, 3) := by decide +kernel
theorem dJ0_isLatin1_aae02_17 : decode cJ0_isLatin1_aae02 17 = .ok (.iconst 0, 1) := by decide +kernel
theorem dJ0_isLatin1_aae02_18 : decode cJ0_isLatin1_aae02 18 = .ok (.ireturn, 1) := by decide +kernel
theorem dJ0_checkIndex_df160_0 : decode cJ0_checkIndex_df160 0 = .ok (.iload_n 0, 1) := by decide +kernel
theorem dJ0_checkIndex_df160_1 : decode cJ0_checkIndex_df160 1 = .ok (.iload_n 1, 1) := by decide +kernel
theorem dJ0_checkIndex_df160_2 : decode cJ0_checkIndex_df160 2 = .ok (.getstatic 1053, 3) := by decide +kernel
theorem dJ0_checkIndex_df160_5 : decode cJ0_checkIndex_df160 5 = .ok (.invokestatic 1059, 3) := by decide +kernel
theorem dJ0_checkIndex_df160_8 : decode cJ0_checkIndex_df160 8 = .ok (.pop, 1) := by decide +kernel
theorem dJ0_checkIndex_df160_9 : decode cJ0_checkIndex_df160 9 = .ok (.return_, 1) := by decide +kernel
theorem dJ1_charAt_3b067_0 : decode cJ1_charAt_3b067 0 = .ok (.iload_n 1, 1) := by decide +kernel
theorem dJ1_charAt_3b067_1 : decode cJ1_charAt_3b067 1 = .ok (.aload_n 0, 1) := by decide +kernel
theorem dJ1_charAt_3b067_2 : decode cJ1_charAt_3b067 2 = .ok (.arraylength, 1) := by decide +kernel
theorem dJ1_charAt_3b067_3 : decode cJ1_charAt_3b067 3 = .ok (.invokestatic 9, 3) := by decide +kernel
theorem dJ1_charAt_3b067_6 : decode cJ1_charAt_3b067 6 = .ok (.aload_n 0, 1) := by decide +kernel
theorem dJ1_charAt_3b067_7 : decode cJ1_charAt_3b067 7 = .ok (.iload_n 1, 1) := by decide +kernel
theorem dJ1_charAt_3b067_8 : decode cJ1_charAt_3b067 8 = .ok (.baload, 1) := by decide +kernel
theorem dJ1_charAt_3b067_9 : decode cJ1_charAt_3b067 9 = .ok (.sipush 255, 3) := by decide +kernel
theorem dJ1_charAt_3b067_12 : decode cJ1_charAt_3b067 12 = .ok (.iand, 1) := by decide +kernel
theorem dJ1_charAt_3b067_13 : decode cJ1_charAt_3b067 13 = .ok (.i2c, 1) := by decide +kernel
theorem dJ1_charAt_3b067_14 : decode cJ1_charAt_3b067 14 = .ok (.ireturn, 1) := by decide +kernel
theorem dJ2_getChar_3b067_0 : decode cJ2_getChar_3b067 0 = .ok (.getstatic 44, 3) := by decide +kernel
theorem dJ2_getChar_3b067_3 : decode cJ2_getChar_3b067 3 = .ok (.ifCond .ne 25, 3) := by decide +kernel
theorem dJ2_getChar_3b067_6 : decode cJ2_getChar_3b067 6 = .ok (.iload_n 1, 1) := by decide +kernel
theorem dJ2_getChar_3b067_7 : decode cJ2_getChar_3b067 7 = .ok (.ifCond .lt 11, 3) := by decide +kernel
theorem dJ2_getChar_3b067_10 : decode cJ2_getChar_3b067 10 = .ok (.iload_n 1, 1) := by decide +kernel
theorem dJ2_getChar_3b067_11 : decode cJ2_getChar_3b067 11 = .ok (.aload_n 0, 1) := by decide +kernel
theorem dJ2_getChar_3b067_12 : decode cJ2_getChar_3b067 12 = .ok (.invokestatic 48, 3) := by decide +kernel
theorem dJ2_getChar_3b067_15 : decode cJ2_getChar_3b067 15 = .ok (.if_icmp .lt 13, 3) := by decide +kernel
theorem dJ2_getChar_3b067_18 : decode cJ2_getChar_3b067 18 = .ok (.new 52, 3) := by decide +kernel
theorem dJ2_getChar_3b067_21 : decode cJ2_getChar_3b067 21 = .ok (.dup, 1) := by decide +kernel
theorem dJ2_getChar_3b067_22 : decode cJ2_getChar_3b067 22 = .ok (.ldc 54, 2) := by decide +kernel
theorem dJ2_getChar_3b067_24 : decode cJ2_getChar_3b067 24 = .ok (.invokespecial 56, 3) := by decide +kernel
theorem dJ2_getChar_3b067_27 : decode cJ2_getChar_3b067 27 = .ok (.athrow, 1) := by decide +kernel
theorem dJ2_getChar_3b067_28 : decode cJ2_getChar_3b067 28 = .ok (.iload_n 1, 1) := by decide +kernel
theorem dJ2_getChar_3b067_29 : decode cJ2_getChar_3b067 29 = .ok (.iconst 1, 1) := by decide +kernel
theorem dJ2_getChar_3b067_30 : decode cJ2_getChar_3b067 30 = .ok (.ishl, 1) := by decide +kernel
theorem dJ2_getChar_3b067_31 : decode cJ2_getChar_3b067 31 = .ok (.istore_n 1, 1) := by decide +kernel
theorem dJ2_getChar_3b067_32 : decode cJ2_getChar_3b067 32 = .ok (.aload_n 0, 1) := by decide +kernel
theorem dJ2_getChar_3b067_33 : decode cJ2_getChar_3b067 33 = .ok (.iload_n 1, 1) := by decide +kernel
theorem dJ2_getChar_3b067_34 : decode cJ2_getChar_3b067 34 = .ok (.iinc 1 1, 3) := by decide +kernel
theorem dJ2_getChar_3b067_37 : decode cJ2_getChar_3b067 37 = .ok (.baload, 1) := by decide +kernel
theorem dJ2_getChar_3b067_38 : decode cJ2_getChar_3b067 38 = .ok (.sipush 255, 3) := by decide +kernel
theorem dJ2_getChar_3b067_41 : decode cJ2_getChar_3b067 41 = .ok (.iand, 1) := by decide +kernel
theorem dJ2_getChar_3b067_42 : decode cJ2_getChar_3b067 42 = .ok (.getstatic 59, 3) := by decide +kernel
theorem dJ2_getChar_3b067_45 : decode cJ2_getChar_3b067 45 = .ok (.ishl, 1) := by decide +kernel
theorem dJ2_getChar_3b067_46 : decode cJ2_getChar_3b067 46 = .ok (.aload_n 0, 1) := by decide +kernel
theorem dJ2_getChar_3b067_47 : decode cJ2_getChar_3b067 47 = .ok (.iload_n 1, 1) := by decide +kernel
theorem dJ2_getChar_3b067_48 : decode cJ2_getChar_3b067 48 = .ok (.baload, 1) := by decide +kernel
theorem dJ2_getChar_3b067_49 : decode cJ2_getChar_3b067 49 = .ok (.sipush 255, 3) := by decide +kernel
theorem dJ2_getChar_3b067_52 : decode cJ2_getChar_3b067 52 = .ok (.iand, 1) := by decide +kernel
theorem dJ2_getChar_3b067_53 : decode cJ2_getChar_3b067 53 = .ok (.getstatic 63, 3) := by decide +kernel
theorem dJ2_getChar_3b067_56 : decode cJ2_getChar_3b067 56 = .ok (.ishl, 1) := by decide +kernel
theorem dJ2_getChar_3b067_57 : decode cJ2_getChar_3b067 57 = .ok (.ior, 1) := by decide +kernel
theorem dJ2_getChar_3b067_58 : decode cJ2_getChar_3b067 58 = .ok (.i2c, 1) := by decide +kernel
theorem dJ2_getChar_3b067_59 : decode cJ2_getChar_3b067 59 = .ok (.ireturn, 1) := by decide +kernel
theorem dJ2_length_9d52b_0 : decode cJ2_length_9d52b 0 = .ok (.aload_n 0, 1) := by decide +kernel
theorem dJ2_length_9d52b_1 : decode cJ2_length_9d52b 1 = .ok (.arraylength, 1) := by decide +kernel
theorem dJ2_length_9d52b_2 : decode cJ2_length_9d52b 2 = .ok (.iconst 1, 1) := by decide +kernel
theorem dJ2_length_9d52b_3 : decode cJ2_length_9d52b 3 = .ok (.ishr, 1) := by decide +kernel
theorem dJ2_length_9d52b_4 : decode cJ2_length_9d52b 4 = .ok (.ireturn, 1) := by decide +kernel
theorem dJ2_charAt_3b067_0 : decode cJ2_charAt_3b067 0 = .ok (.iload_n 1, 1) := by decide +kernel
theorem dJ2_charAt_3b067_1 : decode cJ2_charAt_3b067 1 = .ok (.aload_n 0, 1) := by decide +kernel
theorem dJ2_charAt_3b067_2 : decode cJ2_charAt_3b067 2 = .ok (.invokestatic 67, 3) := by decide +kernel
theorem dJ2_charAt_3b067_5 : decode cJ2_charAt_3b067 5 = .ok (.aload_n 0, 1) := by decide +kernel
theorem dJ2_charAt_3b067_6 : decode cJ2_charAt_3b067 6 = .ok (.iload_n 1, 1) := by decide +kernel
theorem dJ2_charAt_3b067_7 : decode cJ2_charAt_3b067 7 = .ok (.invokestatic 71, 3) := by decide +kernel
theorem dJ2_charAt_3b067_10 : decode cJ2_charAt_3b067 10 = .ok (.ireturn, 1) := by decide +kernel
theorem dJ2_checkIndex_2214a_0 : decode cJ2_checkIndex_2214a 0 = .ok (.iload_n 0, 1) := by decide +kernel
theorem dJ2_checkIndex_2214a_1 : decode cJ2_checkIndex_2214a 1 = .ok (.aload_n 1, 1) := by decide +kernel
theorem dJ2_checkIndex_2214a_2 : decode cJ2_checkIndex_2214a 2 = .ok (.invokestatic 48, 3) := by decide +kernel
theorem dJ2_checkIndex_2214a_5 : decode cJ2_checkIndex_2214a 5 = .ok (.invokestatic 414, 3) := by decide +kernel
theorem dJ2_checkIndex_2214a_8 : decode cJ2_checkIndex_2214a 8 = .ok (.return_, 1) := by decide +kernel
theorem dJxa1e45_init_da8c8_0 : decode cJxa1e45_init_da8c8 0 = .ok (.aload_n 0, 1) := by decide +kernel
theorem dJxa1e45_init_da8c8_1 : decode cJxa1e45_init_da8c8 1 = .ok (.invokespecial 1, 3) := by decide +kernel
theorem dJxa1e45_init_da8c8_4 : decode cJxa1e45_init_da8c8 4 = .ok (.return_, 1) := by decide +kernel
theorem dJxc12de_init_da8c8_0 : decode cJxc12de_init_da8c8 0 = .ok (.aload_n 0, 1) := by decide +kernel
theorem dJxc12de_init_da8c8_1 : decode cJxc12de_init_da8c8 1 = .ok (.invokespecial 1, 3) := by decide +kernel
theorem dJxc12de_init_da8c8_4 : decode cJxc12de_init_da8c8 4 = .ok (.aload_n 0, 1) := by decide +kernel
theorem dJxc12de_init_da8c8_5 : decode cJxc12de_init_da8c8 5 = .ok (.iconst 0, 1) := by decide +kernel
theorem dJxc12de_init_da8c8_6 : decode cJxc12de_init_da8c8 6 = .ok (.putfield 7, 3) := by decide +kernel
theorem dJxc12de_init_da8c8_9 : decode cJxc12de_init_da8c8 9 = .ok (.return_, 1) := by decide +kernel
theorem dJx4a65c_init_da8c8_0 : decode cJx4a65c_init_da8c8 0 = .ok (.aload_n 0, 1) := by decide +kernel
theorem dJx4a65c_init_da8c8_1 : decode cJx4a65c_init_da8c8 1 = .ok (.invokespecial 1, 3) := by decide +kernel
theorem dJx4a65c_init_da8c8_4 : decode cJx4a65c_init_da8c8 4 = .ok (.aload_n 0, 1) := by decide +kernel
theorem dJx4a65c_init_da8c8_5 : decode cJx4a65c_init_da8c8 5 = .ok (.getstatic 39, 3) := by decide +kernel
theorem dJx4a65c_init_da8c8_8 : decode cJx4a65c_init_da8c8 8 = .ok (.putfield 9, 3) := by decide +kernel
theorem dJx4a65c_init_da8c8_11 : decode cJx4a65c_init_da8c8 11 = .ok (.return_, 1) := by decide +kernel
theorem dJx4a65c_grow_92f84_0 : decode cJx4a65c_grow_92f84 0 = .ok (.aload_n 0, 1) := by decide +kernel
theorem dJx4a65c_grow_92f84_1 : decode cJx4a65c_grow_92f84 1 = .ok (.getfield 9, 3) := by decide +kernel
theorem dJx4a65c_grow_92f84_4 : decode cJx4a65c_grow_92f84 4 = .ok (.arraylength, 1) := by decide +kernel
theorem dJx4a65c_grow_92f84_5 : decode cJx4a65c_grow_92f84 5 = .ok (.istore_n 2, 1) := by decide +kernel
theorem dJx4a65c_grow_92f84_6 : decode cJx4a65c_grow_92f84 6 = .ok (.iload_n 2, 1) := by decide +kernel
theorem dJx4a65c_grow_92f84_7 : decode cJx4a65c_grow_92f84 7 = .ok (.ifCond .gt 13, 3) := by decide +kernel
theorem dJx4a65c_grow_92f84_10 : decode cJx4a65c_grow_92f84 10 = .ok (.aload_n 0, 1) := by decide +kernel
theorem dJx4a65c_grow_92f84_11 : decode cJx4a65c_grow_92f84 11 = .ok (.getfield 9, 3) := by decide +kernel
theorem dJx4a65c_grow_92f84_14 : decode cJx4a65c_grow_92f84 14 = .ok (.getstatic 39, 3) := by decide +kernel
theorem dJx4a65c_grow_92f84_17 : decode cJx4a65c_grow_92f84 17 = .ok (.if_acmp .eq 28, 3) := by decide +kernel
theorem dJx4a65c_grow_92f84_20 : decode cJx4a65c_grow_92f84 20 = .ok (.iload_n 2, 1) := by decide +kernel
theorem dJx4a65c_grow_92f84_21 : decode cJx4a65c_grow_92f84 21 = .ok (.iload_n 1, 1) := by decide +kernel
theorem dJx4a65c_grow_92f84_22 : decode cJx4a65c_grow_92f84 22 = .ok (.iload_n 2, 1) := by decide +kernel
theorem dJx4a65c_grow_92f84_23 : decode cJx4a65c_grow_92f84 23 = .ok (.isub, 1) := by decide +kernel
theorem dJx4a65c_grow_92f84_24 : decode cJx4a65c_grow_92f84 24 = .ok (.iload_n 2, 1) := by decide +kernel
theorem dJx4a65c_grow_92f84_25 : decode cJx4a65c_grow_92f84 25 = .ok (.iconst 1, 1) := by decide +kernel
theorem dJx4a65c_grow_92f84_26 : decode cJx4a65c_grow_92f84 26 = .ok (.ishr, 1) := by decide +kernel
theorem dJx4a65c_grow_92f84_27 : decode cJx4a65c_grow_92f84 27 = .ok (.invokestatic 73, 3) := by decide +kernel
theorem dJx4a65c_grow_92f84_30 : decode cJx4a65c_grow_92f84 30 = .ok (.istore_n 3, 1) := by decide +kernel
theorem dJx4a65c_grow_92f84_31 : decode cJx4a65c_grow_92f84 31 = .ok (.aload_n 0, 1) := by decide +kernel
theorem dJx4a65c_grow_92f84_32 : decode cJx4a65c_grow_92f84 32 = .ok (.aload_n 0, 1) := by decide +kernel
theorem dJx4a65c_grow_92f84_33 : decode cJx4a65c_grow_92f84 33 = .ok (.getfield 9, 3) := by decide +kernel
theorem dJx4a65c_grow_92f84_36 : decode cJx4a65c_grow_92f84 36 = .ok (.iload_n 3, 1) := by decide +kernel
theorem dJx4a65c_grow_92f84_37 : decode cJx4a65c_grow_92f84 37 = .ok (.invokestatic 66, 3) := by decide +kernel
theorem dJx4a65c_grow_92f84_40 : decode cJx4a65c_grow_92f84 40 = .ok (.dup_x1, 1) := by decide +kernel
theorem dJx4a65c_grow_92f84_41 : decode cJx4a65c_grow_92f84 41 = .ok (.putfield 9, 3) := by decide +kernel
theorem dJx4a65c_grow_92f84_44 : decode cJx4a65c_grow_92f84 44 = .ok (.areturn, 1) := by decide +kernel
theorem dJx4a65c_grow_92f84_45 : decode cJx4a65c_grow_92f84 45 = .ok (.aload_n 0, 1) := by decide +kernel
theorem dJx4a65c_grow_92f84_46 : decode cJx4a65c_grow_92f84 46 = .ok (.bipush 10, 2) := by decide +kernel
theorem dJx4a65c_grow_92f84_48 : decode cJx4a65c_grow_92f84 48 = .ok (.iload_n 1, 1) := by decide +kernel
theorem dJx4a65c_grow_92f84_49 : decode cJx4a65c_grow_92f84 49 = .ok (.invokestatic 79, 3) := by decide +kernel
theorem dJx4a65c_grow_92f84_52 : decode cJx4a65c_grow_92f84 52 = .ok (.anewarray 7, 3) := by decide +kernel
theorem dJx4a65c_grow_92f84_55 : decode cJx4a65c_grow_92f84 55 = .ok (.dup_x1, 1) := by decide +kernel
theorem dJx4a65c_grow_92f84_56 : decode cJx4a65c_grow_92f84 56 = .ok (.putfield 9, 3) := by decide +kernel
theorem dJx4a65c_grow_92f84_59 : decode cJx4a65c_grow_92f84 59 = .ok (.areturn, 1) := by decide +kernel
theorem dJx4a65c_grow_d5877_0 : decode cJx4a65c_grow_d5877 0 = .ok (.aload_n 0, 1) := by decide +kernel
theorem dJx4a65c_grow_d5877_1 : decode cJx4a65c_grow_d5877 1 = .ok (.aload_n 0, 1) := by decide +kernel
theorem dJx4a65c_grow_d5877_2 : decode cJx4a65c_grow_d5877 2 = .ok (.getfield 48, 3) := by decide +kernel
theorem dJx4a65c_grow_d5877_5 : decode cJx4a65c_grow_d5877 5 = .ok (.iconst 1, 1) := by decide +kernel
theorem dJx4a65c_grow_d5877_6 : decode cJx4a65c_grow_d5877 6 = .ok (.iadd, 1) := by decide +kernel
theorem dJx4a65c_grow_d5877_7 : decode cJx4a65c_grow_d5877 7 = .ok (.invokevirtual 69, 3) := by decide +kernel
theorem dJx4a65c_grow_d5877_10 : decode cJx4a65c_grow_d5877 10 = .ok (.areturn, 1) := by decide +kernel
theorem dJx4a65c_size_8abf5_0 : decode cJx4a65c_size_8abf5 0 = .ok (.aload_n 0, 1) := by decide +kernel
theorem dJx4a65c_size_8abf5_1 : decode cJx4a65c_size_8abf5 1 = .ok (.getfield 48, 3) := by decide +kernel
theorem dJx4a65c_size_8abf5_4 : decode cJx4a65c_size_8abf5 4 = .ok (.ireturn, 1) := by decide +kernel
theorem dJx4a65c_elementData_915e3_0 : decode cJx4a65c_elementData_915e3 0 = .ok (.aload_n 0, 1) := by decide +kernel
theorem dJx4a65c_elementData_915e3_1 : decode cJx4a65c_elementData_915e3 1 = .ok (.getfield 9, 3) := by decide +kernel
theorem dJx4a65c_elementData_915e3_4 : decode cJx4a65c_elementData_915e3 4 = .ok (.iload_n 1, 1) := by decide +kernel
theorem dJx4a65c_elementData_915e3_5 : decode cJx4a65c_elementData_915e3 5 = .ok (.aaload, 1) := by decide +kernel
theorem dJx4a65c_elementData_915e3_6 : decode cJx4a65c_elementData_915e3 6 = .ok (.areturn, 1) := by decide +kernel
theorem dJx4a65c_get_915e3_0 : decode cJx4a65c_get_915e3 0 = .ok (.iload_n 1, 1) := by decide +kernel
theorem dJx4a65c_get_915e3_1 : decode cJx4a65c_get_915e3 1 = .ok (.aload_n 0, 1) := by decide +kernel
theorem dJx4a65c_get_915e3_2 : decode cJx4a65c_get_915e3 2 = .ok (.getfield 48, 3) := by decide +kernel
theorem dJx4a65c_get_915e3_5 : decode cJx4a65c_get_915e3 5 = .ok (.invokestatic 118, 3) := by decide +kernel
theorem dJx4a65c_get_915e3_8 : decode cJx4a65c_get_915e3 8 = .ok (.pop, 1) := by decide +kernel
theorem dJx4a65c_get_915e3_9 : decode cJx4a65c_get_915e3 9 = .ok (.aload_n 0, 1) := by decide +kernel
theorem dJx4a65c_get_915e3_10 : decode cJx4a65c_get_915e3 10 = .ok (.iload_n 1, 1) := by decide +kernel
theorem dJx4a65c_get_915e3_11 : decode cJx4a65c_get_915e3 11 = .ok (.invokevirtual 123, 3) := by decide +kernel
theorem dJx4a65c_get_915e3_14 : decode cJx4a65c_get_915e3 14 = .ok (.areturn, 1) := by decide +kernel
theorem dJx4a65c_set_bcc79_0 : decode cJx4a65c_set_bcc79 0 = .ok (.iload_n 1, 1) := by decide +kernel
theorem dJx4a65c_set_bcc79_1 : decode cJx4a65c_set_bcc79 1 = .ok (.aload_n 0, 1) := by decide +kernel
theorem dJx4a65c_set_bcc79_2 : decode cJx4a65c_set_bcc79 2 = .ok (.getfield 48, 3) := by decide +kernel
theorem dJx4a65c_set_bcc79_5 : decode cJx4a65c_set_bcc79 5 = .ok (.invokestatic 118, 3) := by decide +kernel
theorem dJx4a65c_set_bcc79_8 : decode cJx4a65c_set_bcc79 8 = .ok (.pop, 1) := by decide +kernel
theorem dJx4a65c_set_bcc79_9 : decode cJx4a65c_set_bcc79 9 = .ok (.aload_n 0, 1) := by decide +kernel
theorem dJx4a65c_set_bcc79_10 : decode cJx4a65c_set_bcc79 10 = .ok (.iload_n 1, 1) := by decide +kernel
theorem dJx4a65c_set_bcc79_11 : decode cJx4a65c_set_bcc79 11 = .ok (.invokevirtual 123, 3) := by decide +kernel
theorem dJx4a65c_set_bcc79_14 : decode cJx4a65c_set_bcc79 14 = .ok (.astore_n 3, 1) := by decide +kernel
theorem dJx4a65c_set_bcc79_15 : decode cJx4a65c_set_bcc79 15 = .ok (.aload_n 0, 1) := by decide +kernel
theorem dJx4a65c_set_bcc79_16 : decode cJx4a65c_set_bcc79 16 = .ok (.getfield 9, 3) := by decide +kernel
theorem dJx4a65c_set_bcc79_19 : decode cJx4a65c_set_bcc79 19 = .ok (.iload_n 1, 1) := by decide +kernel
theorem dJx4a65c_set_bcc79_20 : decode cJx4a65c_set_bcc79 20 = .ok (.aload_n 2, 1) := by decide +kernel
theorem dJx4a65c_set_bcc79_21 : decode cJx4a65c_set_bcc79 21 = .ok (.aastore, 1) := by decide +kernel
theorem dJx4a65c_set_bcc79_22 : decode cJx4a65c_set_bcc79 22 = .ok (.aload_n 3, 1) := by decide +kernel
theorem dJx4a65c_set_bcc79_23 : decode cJx4a65c_set_bcc79 23 = .ok (.areturn, 1) := by decide +kernel
theorem dJx4a65c_add_72be8_0 : decode cJx4a65c_add_72be8 0 = .ok (.iload_n 3, 1) := by decide +kernel
theorem dJx4a65c_add_72be8_1 : decode cJx4a65c_add_72be8 1 = .ok (.aload_n 2, 1) := by decide +kernel
theorem dJx4a65c_add_72be8_2 : decode cJx4a65c_add_72be8 2 = .ok (.arraylength, 1) := by decide +kernel
theorem dJx4a65c_add_72be8_3 : decode cJx4a65c_add_72be8 3 = .ok (.if_icmp .ne 8, 3) := by decide +kernel
theorem dJx4a65c_add_72be8_6 : decode cJx4a65c_add_72be8 6 = .ok (.aload_n 0, 1) := by decide +kernel
theorem dJx4a65c_add_72be8_7 : decode cJx4a65c_add_72be8 7 = .ok (.invokevirtual 129, 3) := by decide +kernel
theorem dJx4a65c_add_72be8_10 : decode cJx4a65c_add_72be8 10 = .ok (.astore_n 2, 1) := by decide +kernel
theorem dJx4a65c_add_72be8_11 : decode cJx4a65c_add_72be8 11 = .ok (.aload_n 2, 1) := by decide +kernel
theorem dJx4a65c_add_72be8_12 : decode cJx4a65c_add_72be8 12 = .ok (.iload_n 3, 1) := by decide +kernel
theorem dJx4a65c_add_72be8_13 : decode cJx4a65c_add_72be8 13 = .ok (.aload_n 1, 1) := by decide +kernel
theorem dJx4a65c_add_72be8_14 : decode cJx4a65c_add_72be8 14 = .ok (.aastore, 1) := by decide +kernel
theorem dJx4a65c_add_72be8_15 : decode cJx4a65c_add_72be8 15 = .ok (.aload_n 0, 1) := by decide +kernel
theorem dJx4a65c_add_72be8_16 : decode cJx4a65c_add_72be8 16 = .ok (.iload_n 3, 1) := by decide +kernel
theorem dJx4a65c_add_72be8_17 : decode cJx4a65c_add_72be8 17 = .ok (.iconst 1, 1) := by decide +kernel
theorem dJx4a65c_add_72be8_18 : decode cJx4a65c_add_72be8 18 = .ok (.iadd, 1) := by decide +kernel
theorem dJx4a65c_add_72be8_19 : decode cJx4a65c_add_72be8 19 = .ok (.putfield 48, 3) := by decide +kernel
theorem dJx4a65c_add_72be8_22 : decode cJx4a65c_add_72be8 22 = .ok (.return_, 1) := by decide +kernel
theorem dJx4a65c_add_9ea2d_0 : decode cJx4a65c_add_9ea2d 0 = .ok (.aload_n 0, 1) := by decide +kernel
theorem dJx4a65c_add_9ea2d_1 : decode cJx4a65c_add_9ea2d 1 = .ok (.dup, 1) := by decide +kernel
theorem dJx4a65c_add_9ea2d_2 : decode cJx4a65c_add_9ea2d 2 = .ok (.getfield 63, 3) := by decide +kernel
theorem dJx4a65c_add_9ea2d_5 : decode cJx4a65c_add_9ea2d 5 = .ok (.iconst 1, 1) := by decide +kernel
theorem dJx4a65c_add_9ea2d_6 : decode cJx4a65c_add_9ea2d 6 = .ok (.iadd, 1) := by decide +kernel
theorem dJx4a65c_add_9ea2d_7 : decode cJx4a65c_add_9ea2d 7 = .ok (.putfield 63, 3) := by decide +kernel
theorem dJx4a65c_add_9ea2d_10 : decode cJx4a65c_add_9ea2d 10 = .ok (.aload_n 0, 1) := by decide +kernel
theorem dJx4a65c_add_9ea2d_11 : decode cJx4a65c_add_9ea2d 11 = .ok (.aload_n 1, 1) := by decide +kernel
theorem dJx4a65c_add_9ea2d_12 : decode cJx4a65c_add_9ea2d 12 = .ok (.aload_n 0, 1) := by decide +kernel
theorem dJx4a65c_add_9ea2d_13 : decode cJx4a65c_add_9ea2d 13 = .ok (.getfield 9, 3) := by decide +kernel
theorem dJx4a65c_add_9ea2d_16 : decode cJx4a65c_add_9ea2d 16 = .ok (.aload_n 0, 1) := by decide +kernel
theorem dJx4a65c_add_9ea2d_17 : decode cJx4a65c_add_9ea2d 17 = .ok (.getfield 48, 3) := by decide +kernel
theorem dJx4a65c_add_9ea2d_20 : decode cJx4a65c_add_9ea2d 20 = .ok (.invokevirtual 131, 3) := by decide +kernel
theorem dJx4a65c_add_9ea2d_23 : decode cJx4a65c_add_9ea2d 23 = .ok (.iconst 1, 1) := by decide +kernel
theorem dJx4a65c_add_9ea2d_24 : decode cJx4a65c_add_9ea2d 24 = .ok (.ireturn, 1) := by decide +kernel
theorem dJx4a65c_remove_915e3_0 : decode cJx4a65c_remove_915e3 0 = .ok (.iload_n 1, 1) := by decide +kernel
theorem dJx4a65c_remove_915e3_1 : decode cJx4a65c_remove_915e3 1 = .ok (.aload_n 0, 1) := by decide +kernel
theorem dJx4a65c_remove_915e3_2 : decode cJx4a65c_remove_915e3 2 = .ok (.getfield 48, 3) := by decide +kernel
theorem dJx4a65c_remove_915e3_5 : decode cJx4a65c_remove_915e3 5 = .ok (.invokestatic 118, 3) := by decide +kernel
theorem dJx4a65c_remove_915e3_8 : decode cJx4a65c_remove_915e3 8 = .ok (.pop, 1) := by decide +kernel
theorem dJx4a65c_remove_915e3_9 : decode cJx4a65c_remove_915e3 9 = .ok (.aload_n 0, 1) := by decide +kernel
theorem dJx4a65c_remove_915e3_10 : decode cJx4a65c_remove_915e3 10 = .ok (.getfield 9, 3) := by decide +kernel
theorem dJx4a65c_remove_915e3_13 : decode cJx4a65c_remove_915e3 13 = .ok (.astore_n 2, 1) := by decide +kernel
theorem dJx4a65c_remove_915e3_14 : decode cJx4a65c_remove_915e3 14 = .ok (.aload_n 2, 1) := by decide +kernel
theorem dJx4a65c_remove_915e3_15 : decode cJx4a65c_remove_915e3 15 = .ok (.iload_n 1, 1) := by decide +kernel
theorem dJx4a65c_remove_915e3_16 : decode cJx4a65c_remove_915e3 16 = .ok (.aaload, 1) := by decide +kernel
theorem dJx4a65c_remove_915e3_17 : decode cJx4a65c_remove_915e3 17 = .ok (.astore_n 3, 1) := by decide +kernel
theorem dJx4a65c_remove_915e3_18 : decode cJx4a65c_remove_915e3 18 = .ok (.aload_n 0, 1) := by decide +kernel
theorem dJx4a65c_remove_915e3_19 : decode cJx4a65c_remove_915e3 19 = .ok (.aload_n 2, 1) := by decide +kernel
theorem dJx4a65c_remove_915e3_20 : decode cJx4a65c_remove_915e3 20 = .ok (.iload_n 1, 1) := by decide +kernel
theorem dJx4a65c_remove_915e3_21 : decode cJx4a65c_remove_915e3 21 = .ok (.invokevirtual 144, 3) := by decide +kernel
theorem dJx4a65c_remove_915e3_24 : decode cJx4a65c_remove_915e3 24 = .ok (.aload_n 3, 1) := by decide +kernel
theorem dJx4a65c_remove_915e3_25 : decode cJx4a65c_remove_915e3 25 = .ok (.areturn, 1) := by decide +kernel
theorem dJx4a65c_fastRemove_b59b0_0 : decode cJx4a65c_fastRemove_b59b0 0 = .ok (.aload_n 0, 1) := by decide +kernel
theorem dJx4a65c_fastRemove_b59b0_1 : decode cJx4a65c_fastRemove_b59b0 1 = .ok (.dup, 1) := by decide +kernel
theorem dJx4a65c_fastRemove_b59b0_2 : decode cJx4a65c_fastRemove_b59b0 2 = .ok (.getfield 63, 3) := by decide +kernel
theorem dJx4a65c_fastRemove_b59b0_5 : decode cJx4a65c_fastRemove_b59b0 5 = .ok (.iconst 1, 1) := by decide +kernel
theorem dJx4a65c_fastRemove_b59b0_6 : decode cJx4a65c_fastRemove_b59b0 6 = .ok (.iadd, 1) := by decide +kernel
theorem dJx4a65c_fastRemove_b59b0_7 : decode cJx4a65c_fastRemove_b59b0 7 = .ok (.putfield 63, 3) := by decide +kernel
theorem dJx4a65c_fastRemove_b59b0_10 : decode cJx4a65c_fastRemove_b59b0 10 = .ok (.aload_n 0, 1) := by decide +kernel
theorem dJx4a65c_fastRemove_b59b0_11 : decode cJx4a65c_fastRemove_b59b0 11 = .ok (.getfield 48, 3) := by decide +kernel
theorem dJx4a65c_fastRemove_b59b0_14 : decode cJx4a65c_fastRemove_b59b0 14 = .ok (.iconst 1, 1) := by decide +kernel
theorem dJx4a65c_fastRemove_b59b0_15 : decode cJx4a65c_fastRemove_b59b0 15 = .ok (.isub, 1) := by decide +kernel
theorem dJx4a65c_fastRemove_b59b0_16 : decode cJx4a65c_fastRemove_b59b0 16 = .ok (.dup, 1) := by decide +kernel
theorem dJx4a65c_fastRemove_b59b0_17 : decode cJx4a65c_fastRemove_b59b0 17 = .ok (.istore_n 3, 1) := by decide +kernel
theorem dJx4a65c_fastRemove_b59b0_18 : decode cJx4a65c_fastRemove_b59b0 18 = .ok (.iload_n 2, 1) := by decide +kernel
theorem dJx4a65c_fastRemove_b59b0_19 : decode cJx4a65c_fastRemove_b59b0 19 = .ok (.if_icmp .le 15, 3) := by decide +kernel
theorem dJx4a65c_fastRemove_b59b0_22 : decode cJx4a65c_fastRemove_b59b0 22 = .ok (.aload_n 1, 1) := by decide +kernel
theorem dJx4a65c_fastRemove_b59b0_23 : decode cJx4a65c_fastRemove_b59b0 23 = .ok (.iload_n 2, 1) := by decide +kernel
theorem dJx4a65c_fastRemove_b59b0_24 : decode cJx4a65c_fastRemove_b59b0 24 = .ok (.iconst 1, 1) := by decide +kernel
theorem dJx4a65c_fastRemove_b59b0_25 : decode cJx4a65c_fastRemove_b59b0 25 = .ok (.iadd, 1) := by decide +kernel
theorem dJx4a65c_fastRemove_b59b0_26 : decode cJx4a65c_fastRemove_b59b0 26 = .ok (.aload_n 1, 1) := by decide +kernel
theorem dJx4a65c_fastRemove_b59b0_27 : decode cJx4a65c_fastRemove_b59b0 27 = .ok (.iload_n 2, 1) := by decide +kernel
theorem dJx4a65c_fastRemove_b59b0_28 : decode cJx4a65c_fastRemove_b59b0 28 = .ok (.iload_n 3, 1) := by decide +kernel
theorem dJx4a65c_fastRemove_b59b0_29 : decode cJx4a65c_fastRemove_b59b0 29 = .ok (.iload_n 2, 1) := by decide +kernel
theorem dJx4a65c_fastRemove_b59b0_30 : decode cJx4a65c_fastRemove_b59b0 30 = .ok (.isub, 1) := by decide +kernel
theorem dJx4a65c_fastRemove_b59b0_31 : decode cJx4a65c_fastRemove_b59b0 31 = .ok (.invokestatic 112, 3) := by decide +kernel
theorem dJx4a65c_fastRemove_b59b0_34 : decode cJx4a65c_fastRemove_b59b0 34 = .ok (.aload_n 1, 1) := by decide +kernel
theorem dJx4a65c_fastRemove_b59b0_35 : decode cJx4a65c_fastRemove_b59b0 35 = .ok (.aload_n 0, 1) := by decide +kernel
theorem dJx4a65c_fastRemove_b59b0_36 : decode cJx4a65c_fastRemove_b59b0 36 = .ok (.iload_n 3, 1) := by decide +kernel
theorem dJx4a65c_fastRemove_b59b0_37 : decode cJx4a65c_fastRemove_b59b0 37 = .ok (.dup_x1, 1) := by decide +kernel
theorem dJx4a65c_fastRemove_b59b0_38 : decode cJx4a65c_fastRemove_b59b0 38 = .ok (.putfield 48, 3) := by decide +kernel
theorem dJx4a65c_fastRemove_b59b0_41 : decode cJx4a65c_fastRemove_b59b0 41 = .ok (.aconst_null, 1) := by decide +kernel
theorem dJx4a65c_fastRemove_b59b0_42 : decode cJx4a65c_fastRemove_b59b0 42 = .ok (.aastore, 1) := by decide +kernel
theorem dJx4a65c_fastRemove_b59b0_43 : decode cJx4a65c_fastRemove_b59b0 43 = .ok (.return_, 1) := by decide +kernel
theorem dJx4a65c_clear_da8c8_0 : decode cJx4a65c_clear_da8c8 0 = .ok (.aload_n 0, 1) := by decide +kernel
theorem dJx4a65c_clear_da8c8_1 : decode cJx4a65c_clear_da8c8 1 = .ok (.dup, 1) := by decide +kernel
theorem dJx4a65c_clear_da8c8_2 : decode cJx4a65c_clear_da8c8 2 = .ok (.getfield 63, 3) := by decide +kernel
theorem dJx4a65c_clear_da8c8_5 : decode cJx4a65c_clear_da8c8 5 = .ok (.iconst 1, 1) := by decide +kernel
theorem dJx4a65c_clear_da8c8_6 : decode cJx4a65c_clear_da8c8 6 = .ok (.iadd, 1) := by decide +kernel
theorem dJx4a65c_clear_da8c8_7 : decode cJx4a65c_clear_da8c8 7 = .ok (.putfield 63, 3) := by decide +kernel
theorem dJx4a65c_clear_da8c8_10 : decode cJx4a65c_clear_da8c8 10 = .ok (.aload_n 0, 1) := by decide +kernel
theorem dJx4a65c_clear_da8c8_11 : decode cJx4a65c_clear_da8c8 11 = .ok (.getfield 9, 3) := by decide +kernel
theorem dJx4a65c_clear_da8c8_14 : decode cJx4a65c_clear_da8c8 14 = .ok (.astore_n 1, 1) := by decide +kernel
theorem dJx4a65c_clear_da8c8_15 : decode cJx4a65c_clear_da8c8 15 = .ok (.aload_n 0, 1) := by decide +kernel
theorem dJx4a65c_clear_da8c8_16 : decode cJx4a65c_clear_da8c8 16 = .ok (.getfield 48, 3) := by decide +kernel
theorem dJx4a65c_clear_da8c8_19 : decode cJx4a65c_clear_da8c8 19 = .ok (.istore_n 2, 1) := by decide +kernel
theorem dJx4a65c_clear_da8c8_20 : decode cJx4a65c_clear_da8c8 20 = .ok (.aload_n 0, 1) := by decide +kernel
theorem dJx4a65c_clear_da8c8_21 : decode cJx4a65c_clear_da8c8 21 = .ok (.iconst 0, 1) := by decide +kernel
theorem dJx4a65c_clear_da8c8_22 : decode cJx4a65c_clear_da8c8 22 = .ok (.dup_x1, 1) := by decide +kernel
theorem dJx4a65c_clear_da8c8_23 : decode cJx4a65c_clear_da8c8 23 = .ok (.putfield 48, 3) := by decide +kernel
theorem dJx4a65c_clear_da8c8_26 : decode cJx4a65c_clear_da8c8 26 = .ok (.istore_n 3, 1) := by decide +kernel
theorem dJx4a65c_clear_da8c8_27 : decode cJx4a65c_clear_da8c8 27 = .ok (.iload_n 3, 1) := by decide +kernel
theorem dJx4a65c_clear_da8c8_28 : decode cJx4a65c_clear_da8c8 28 = .ok (.iload_n 2, 1) := by decide +kernel
theorem dJx4a65c_clear_da8c8_29 : decode cJx4a65c_clear_da8c8 29 = .ok (.if_icmp .ge 13, 3) := by decide +kernel
theorem dJx4a65c_clear_da8c8_32 : decode cJx4a65c_clear_da8c8 32 = .ok (.aload_n 1, 1) := by decide +kernel
theorem dJx4a65c_clear_da8c8_33 : decode cJx4a65c_clear_da8c8 33 = .ok (.iload_n 3, 1) := by decide +kernel
theorem dJx4a65c_clear_da8c8_34 : decode cJx4a65c_clear_da8c8 34 = .ok (.aconst_null, 1) := by decide +kernel
theorem dJx4a65c_clear_da8c8_35 : decode cJx4a65c_clear_da8c8 35 = .ok (.aastore, 1) := by decide +kernel
theorem dJx4a65c_clear_da8c8_36 : decode cJx4a65c_clear_da8c8 36 = .ok (.iinc 3 1, 3) := by decide +kernel
theorem dJx4a65c_clear_da8c8_39 : decode cJx4a65c_clear_da8c8 39 = .ok (.goto (-12), 3) := by decide +kernel
theorem dJx4a65c_clear_da8c8_42 : decode cJx4a65c_clear_da8c8 42 = .ok (.return_, 1) := by decide +kernel
theorem dJ7_copyOf_1904c_0 : decode cJ7_copyOf_1904c 0 = .ok (.aload_n 0, 1) := by decide +kernel
theorem dJ7_copyOf_1904c_1 : decode cJ7_copyOf_1904c 1 = .ok (.iload_n 1, 1) := by decide +kernel
theorem dJ7_copyOf_1904c_2 : decode cJ7_copyOf_1904c 2 = .ok (.aload_n 0, 1) := by decide +kernel
theorem dJ7_copyOf_1904c_3 : decode cJ7_copyOf_1904c 3 = .ok (.invokevirtual 86, 3) := by decide +kernel
theorem dJ7_copyOf_1904c_6 : decode cJ7_copyOf_1904c 6 = .ok (.invokestatic 300, 3) := by decide +kernel
theorem dJ7_copyOf_1904c_9 : decode cJ7_copyOf_1904c 9 = .ok (.areturn, 1) := by decide +kernel
theorem dJ7_copyOf_6403c_0 : decode cJ7_copyOf_6403c 0 = .ok (.aload_n 2, 1) := by decide +kernel
theorem dJ7_copyOf_6403c_1 : decode cJ7_copyOf_6403c 1 = .ok (.ldc 110, 2) := by decide +kernel
theorem dJ7_copyOf_6403c_3 : decode cJ7_copyOf_6403c 3 = .ok (.if_acmp .ne 10, 3) := by decide +kernel
theorem dJ7_copyOf_6403c_6 : decode cJ7_copyOf_6403c 6 = .ok (.iload_n 1, 1) := by decide +kernel
theorem dJ7_copyOf_6403c_7 : decode cJ7_copyOf_6403c 7 = .ok (.anewarray 2, 3) := by decide +kernel
theorem dJ7_copyOf_6403c_10 : decode cJ7_copyOf_6403c 10 = .ok (.goto 14, 3) := by decide +kernel
theorem dJ7_copyOf_6403c_13 : decode cJ7_copyOf_6403c 13 = .ok (.aload_n 2, 1) := by decide +kernel
theorem dJ7_copyOf_6403c_14 : decode cJ7_copyOf_6403c 14 = .ok (.invokevirtual 90, 3) := by decide +kernel
theorem dJ7_copyOf_6403c_17 : decode cJ7_copyOf_6403c 17 = .ok (.iload_n 1, 1) := by decide +kernel
theorem dJ7_copyOf_6403c_18 : decode cJ7_copyOf_6403c 18 = .ok (.invokestatic 95, 3) := by decide +kernel
theorem dJ7_copyOf_6403c_21 : decode cJ7_copyOf_6403c 21 = .ok (.checkcast 110, 3) := by decide +kernel
theorem dJ7_copyOf_6403c_24 : decode cJ7_copyOf_6403c 24 = .ok (.astore_n 3, 1) := by decide +kernel
theorem dJ7_copyOf_6403c_25 : decode cJ7_copyOf_6403c 25 = .ok (.aload_n 0, 1) := by decide +kernel
theorem dJ7_copyOf_6403c_26 : decode cJ7_copyOf_6403c 26 = .ok (.iconst 0, 1) := by decide +kernel
theorem dJ7_copyOf_6403c_27 : decode cJ7_copyOf_6403c 27 = .ok (.aload_n 3, 1) := by decide +kernel
theorem dJ7_copyOf_6403c_28 : decode cJ7_copyOf_6403c 28 = .ok (.iconst 0, 1) := by decide +kernel
theorem dJ7_copyOf_6403c_29 : decode cJ7_copyOf_6403c 29 = .ok (.aload_n 0, 1) := by decide +kernel
theorem dJ7_copyOf_6403c_30 : decode cJ7_copyOf_6403c 30 = .ok (.arraylength, 1) := by decide +kernel
theorem dJ7_copyOf_6403c_31 : decode cJ7_copyOf_6403c 31 = .ok (.iload_n 1, 1) := by decide +kernel
theorem dJ7_copyOf_6403c_32 : decode cJ7_copyOf_6403c 32 = .ok (.invokestatic 304, 3) := by decide +kernel
theorem dJ7_copyOf_6403c_35 : decode cJ7_copyOf_6403c 35 = .ok (.invokestatic 150, 3) := by decide +kernel
theorem dJ7_copyOf_6403c_38 : decode cJ7_copyOf_6403c 38 = .ok (.aload_n 3, 1) := by decide +kernel
theorem dJ7_copyOf_6403c_39 : decode cJ7_copyOf_6403c 39 = .ok (.areturn, 1) := by decide +kernel
theorem dJ15_checkIndex_7cf53_0 : decode cJ15_checkIndex_7cf53 0 = .ok (.iload_n 0, 1) := by decide +kernel
theorem dJ15_checkIndex_7cf53_1 : decode cJ15_checkIndex_7cf53 1 = .ok (.iload_n 1, 1) := by decide +kernel
theorem dJ15_checkIndex_7cf53_2 : decode cJ15_checkIndex_7cf53 2 = .ok (.aconst_null, 1) := by decide +kernel
theorem dJ15_checkIndex_7cf53_3 : decode cJ15_checkIndex_7cf53 3 = .ok (.invokestatic 105, 3) := by decide +kernel
theorem dJ15_checkIndex_7cf53_6 : decode cJ15_checkIndex_7cf53 6 = .ok (.ireturn, 1) := by decide +kernel
theorem dJ8_newLength_cabcc_0 : decode cJ8_newLength_cabcc 0 = .ok (.iload_n 0, 1) := by decide +kernel
theorem dJ8_newLength_cabcc_1 : decode cJ8_newLength_cabcc 1 = .ok (.iload_n 1, 1) := by decide +kernel
theorem dJ8_newLength_cabcc_2 : decode cJ8_newLength_cabcc 2 = .ok (.iload_n 2, 1) := by decide +kernel
theorem dJ8_newLength_cabcc_3 : decode cJ8_newLength_cabcc 3 = .ok (.invokestatic 194, 3) := by decide +kernel
theorem dJ8_newLength_cabcc_6 : decode cJ8_newLength_cabcc 6 = .ok (.iadd, 1) := by decide +kernel
theorem dJ8_newLength_cabcc_7 : decode cJ8_newLength_cabcc 7 = .ok (.istore_n 3, 1) := by decide +kernel
theorem dJ8_newLength_cabcc_8 : decode cJ8_newLength_cabcc 8 = .ok (.iconst 0, 1) := by decide +kernel
theorem dJ8_newLength_cabcc_9 : decode cJ8_newLength_cabcc 9 = .ok (.iload_n 3, 1) := by decide +kernel
theorem dJ8_newLength_cabcc_10 : decode cJ8_newLength_cabcc 10 = .ok (.if_icmp .ge 11, 3) := by decide +kernel
theorem dJ8_newLength_cabcc_13 : decode cJ8_newLength_cabcc 13 = .ok (.iload_n 3, 1) := by decide +kernel
theorem dJ8_newLength_cabcc_14 : decode cJ8_newLength_cabcc 14 = .ok (.ldc 200, 2) := by decide +kernel
theorem dJ8_newLength_cabcc_16 : decode cJ8_newLength_cabcc 16 = .ok (.if_icmp .gt 5, 3) := by decide +kernel
theorem dJ8_newLength_cabcc_19 : decode cJ8_newLength_cabcc 19 = .ok (.iload_n 3, 1) := by decide +kernel
theorem dJ8_newLength_cabcc_20 : decode cJ8_newLength_cabcc 20 = .ok (.ireturn, 1) := by decide +kernel
theorem dJ8_newLength_cabcc_21 : decode cJ8_newLength_cabcc 21 = .ok (.iload_n 0, 1) := by decide +kernel
theorem dJ8_newLength_cabcc_22 : decode cJ8_newLength_cabcc 22 = .ok (.iload_n 1, 1) := by decide +kernel
theorem dJ8_newLength_cabcc_23 : decode cJ8_newLength_cabcc 23 = .ok (.invokestatic 201, 3) := by decide +kernel
theorem dJ8_newLength_cabcc_26 : decode cJ8_newLength_cabcc 26 = .ok (.ireturn, 1) := by decide +kernel
theorem dJ8_hugeLength_7cf53_0 : decode cJ8_hugeLength_7cf53 0 = .ok (.iload_n 0, 1) := by decide +kernel
theorem dJ8_hugeLength_7cf53_1 : decode cJ8_hugeLength_7cf53 1 = .ok (.iload_n 1, 1) := by decide +kernel
theorem dJ8_hugeLength_7cf53_2 : decode cJ8_hugeLength_7cf53 2 = .ok (.iadd, 1) := by decide +kernel
theorem dJ8_hugeLength_7cf53_3 : decode cJ8_hugeLength_7cf53 3 = .ok (.istore_n 2, 1) := by decide +kernel
theorem dJ8_hugeLength_7cf53_4 : decode cJ8_hugeLength_7cf53 4 = .ok (.iload_n 2, 1) := by decide +kernel
theorem dJ8_hugeLength_7cf53_5 : decode cJ8_hugeLength_7cf53 5 = .ok (.ifCond .ge 44, 3) := by decide +kernel
theorem dJ8_hugeLength_7cf53_8 : decode cJ8_hugeLength_7cf53 8 = .ok (.new 204, 3) := by decide +kernel
theorem dJ8_hugeLength_7cf53_11 : decode cJ8_hugeLength_7cf53 11 = .ok (.dup, 1) := by decide +kernel
theorem dJ8_hugeLength_7cf53_12 : decode cJ8_hugeLength_7cf53 12 = .ok (.new 89, 3) := by decide +kernel
theorem dJ8_hugeLength_7cf53_15 : decode cJ8_hugeLength_7cf53 15 = .ok (.dup, 1) := by decide +kernel
theorem dJ8_hugeLength_7cf53_16 : decode cJ8_hugeLength_7cf53 16 = .ok (.invokespecial 91, 3) := by decide +kernel
theorem dJ8_hugeLength_7cf53_19 : decode cJ8_hugeLength_7cf53 19 = .ok (.ldc 206, 2) := by decide +kernel
theorem dJ8_hugeLength_7cf53_21 : decode cJ8_hugeLength_7cf53 21 = .ok (.invokevirtual 94, 3) := by decide +kernel
theorem dJ8_hugeLength_7cf53_24 : decode cJ8_hugeLength_7cf53 24 = .ok (.iload_n 0, 1) := by decide +kernel
theorem dJ8_hugeLength_7cf53_25 : decode cJ8_hugeLength_7cf53 25 = .ok (.invokevirtual 98, 3) := by decide +kernel
theorem dJ8_hugeLength_7cf53_28 : decode cJ8_hugeLength_7cf53 28 = .ok (.ldc 208, 2) := by decide +kernel
theorem dJ8_hugeLength_7cf53_30 : decode cJ8_hugeLength_7cf53 30 = .ok (.invokevirtual 94, 3) := by decide +kernel
theorem dJ8_hugeLength_7cf53_33 : decode cJ8_hugeLength_7cf53 33 = .ok (.iload_n 1, 1) := by decide +kernel
theorem dJ8_hugeLength_7cf53_34 : decode cJ8_hugeLength_7cf53 34 = .ok (.invokevirtual 98, 3) := by decide +kernel
theorem dJ8_hugeLength_7cf53_37 : decode cJ8_hugeLength_7cf53 37 = .ok (.ldc 210, 2) := by decide +kernel
theorem dJ8_hugeLength_7cf53_39 : decode cJ8_hugeLength_7cf53 39 = .ok (.invokevirtual 94, 3) := by decide +kernel
theorem dJ8_hugeLength_7cf53_42 : decode cJ8_hugeLength_7cf53 42 = .ok (.invokevirtual 101, 3) := by decide +kernel
theorem dJ8_hugeLength_7cf53_45 : decode cJ8_hugeLength_7cf53 45 = .ok (.invokespecial 212, 3) := by decide +kernel
theorem dJ8_hugeLength_7cf53_48 : decode cJ8_hugeLength_7cf53 48 = .ok (.athrow, 1) := by decide +kernel
theorem dJ8_hugeLength_7cf53_49 : decode cJ8_hugeLength_7cf53 49 = .ok (.iload_n 2, 1) := by decide +kernel
theorem dJ8_hugeLength_7cf53_50 : decode cJ8_hugeLength_7cf53 50 = .ok (.ldc 200, 2) := by decide +kernel
theorem dJ8_hugeLength_7cf53_52 : decode cJ8_hugeLength_7cf53 52 = .ok (.if_icmp .gt 6, 3) := by decide +kernel
theorem dJ8_hugeLength_7cf53_55 : decode cJ8_hugeLength_7cf53 55 = .ok (.ldc 200, 2) := by decide +kernel
theorem dJ8_hugeLength_7cf53_57 : decode cJ8_hugeLength_7cf53 57 = .ok (.ireturn, 1) := by decide +kernel
theorem dJ8_hugeLength_7cf53_58 : decode cJ8_hugeLength_7cf53 58 = .ok (.iload_n 2, 1) := by decide +kernel
theorem dJ8_hugeLength_7cf53_59 : decode cJ8_hugeLength_7cf53 59 = .ok (.ireturn, 1) := by decide +kernel
theorem dJ3_checkIndex_8e157_0 : decode cJ3_checkIndex_8e157 0 = .ok (.iload_n 0, 1) := by decide +kernel
theorem dJ3_checkIndex_8e157_1 : decode cJ3_checkIndex_8e157 1 = .ok (.ifCond .lt 8, 3) := by decide +kernel
theorem dJ3_checkIndex_8e157_4 : decode cJ3_checkIndex_8e157 4 = .ok (.iload_n 0, 1) := by decide +kernel
theorem dJ3_checkIndex_8e157_5 : decode cJ3_checkIndex_8e157 5 = .ok (.iload_n 1, 1) := by decide +kernel
theorem dJ3_checkIndex_8e157_6 : decode cJ3_checkIndex_8e157 6 = .ok (.if_icmp .lt 10, 3) := by decide +kernel
theorem dJ3_checkIndex_8e157_9 : decode cJ3_checkIndex_8e157 9 = .ok (.aload_n 2, 1) := by decide +kernel
theorem dJ3_checkIndex_8e157_10 : decode cJ3_checkIndex_8e157 10 = .ok (.iload_n 0, 1) := by decide +kernel
theorem dJ3_checkIndex_8e157_11 : decode cJ3_checkIndex_8e157 11 = .ok (.iload_n 1, 1) := by decide +kernel
theorem dJ3_checkIndex_8e157_12 : decode cJ3_checkIndex_8e157 12 = .ok (.invokestatic 95, 3) := by decide +kernel
theorem dJ3_checkIndex_8e157_15 : decode cJ3_checkIndex_8e157 15 = .ok (.athrow, 1) := by decide +kernel
theorem dJ3_checkIndex_8e157_16 : decode cJ3_checkIndex_8e157 16 = .ok (.iload_n 0, 1) := by decide +kernel
theorem dJ3_checkIndex_8e157_17 : decode cJ3_checkIndex_8e157 17 = .ok (.ireturn, 1) := by decide +kernel
theorem dL_law_0 : decode cL_law 0 = .ok (.new 7, 3) := by decide +kernel
theorem dL_law_3 : decode cL_law 3 = .ok (.dup, 1) := by decide +kernel
theorem dL_law_4 : decode cL_law 4 = .ok (.invokespecial 9, 3) := by decide +kernel
theorem dL_law_7 : decode cL_law 7 = .ok (.astore_n 1, 1) := by decide +kernel
theorem dL_law_8 : decode cL_law 8 = .ok (.new 10, 3) := by decide +kernel
theorem dL_law_11 : decode cL_law 11 = .ok (.dup, 1) := by decide +kernel
theorem dL_law_12 : decode cL_law 12 = .ok (.invokespecial 12, 3) := by decide +kernel
theorem dL_law_15 : decode cL_law 15 = .ok (.astore_n 2, 1) := by decide +kernel
theorem dL_law_16 : decode cL_law 16 = .ok (.iconst 0, 1) := by decide +kernel
theorem dL_law_17 : decode cL_law 17 = .ok (.istore_n 3, 1) := by decide +kernel
theorem dL_law_18 : decode cL_law 18 = .ok (.iload_n 3, 1) := by decide +kernel
theorem dL_law_19 : decode cL_law 19 = .ok (.aload_n 0, 1) := by decide +kernel
theorem dL_law_20 : decode cL_law 20 = .ok (.arraylength, 1) := by decide +kernel
theorem dL_law_21 : decode cL_law 21 = .ok (.iconst 3, 1) := by decide +kernel
theorem dL_law_22 : decode cL_law 22 = .ok (.isub, 1) := by decide +kernel
theorem dL_law_23 : decode cL_law 23 = .ok (.if_icmp .gt 668, 3) := by decide +kernel
theorem dL_law_26 : decode cL_law 26 = .ok (.aload_n 0, 1) := by decide +kernel
theorem dL_law_27 : decode cL_law 27 = .ok (.iload_n 3, 1) := by decide +kernel
theorem dL_law_28 : decode cL_law 28 = .ok (.iaload, 1) := by decide +kernel
theorem dL_law_29 : decode cL_law 29 = .ok (.bipush 31, 2) := by decide +kernel
theorem dL_law_31 : decode cL_law 31 = .ok (.iand, 1) := by decide +kernel
theorem dL_law_32 : decode cL_law 32 = .ok (.tableswitch 653 0 27 #[128, 151, 164, 177, 190, 203, 226, 239, 272, 305, 338, 361, 374, 387, 400, 423, 446, 459, 472, 495, 508, 521, 544, 557, 580, 603, 626, 639], 128) := by decide +kernel
theorem dL_law_160 : decode cL_law 160 = .ok (.aload_n 1, 1) := by decide +kernel
theorem dL_law_161 : decode cL_law 161 = .ok (.aload_n 0, 1) := by decide +kernel
theorem dL_law_162 : decode cL_law 162 = .ok (.iload_n 3, 1) := by decide +kernel
theorem dL_law_163 : decode cL_law 163 = .ok (.iconst 1, 1) := by decide +kernel
theorem dL_law_164 : decode cL_law 164 = .ok (.iadd, 1) := by decide +kernel
theorem dL_law_165 : decode cL_law 165 = .ok (.iaload, 1) := by decide +kernel
theorem dL_law_166 : decode cL_law 166 = .ok (.invokevirtual 13, 3) := by decide +kernel
theorem dL_law_169 : decode cL_law 169 = .ok (.aload_n 2, 1) := by decide +kernel
theorem dL_law_170 : decode cL_law 170 = .ok (.aload_n 0, 1) := by decide +kernel
theorem dL_law_171 : decode cL_law 171 = .ok (.iload_n 3, 1) := by decide +kernel
theorem dL_law_172 : decode cL_law 172 = .ok (.iconst 1, 1) := by decide +kernel
theorem dL_law_173 : decode cL_law 173 = .ok (.iadd, 1) := by decide +kernel
theorem dL_law_174 : decode cL_law 174 = .ok (.iaload, 1) := by decide +kernel
theorem dL_law_175 : decode cL_law 175 = .ok (.invokevirtual 17, 3) := by decide +kernel
theorem dL_law_178 : decode cL_law 178 = .ok (.if_icmp .eq 507, 3) := by decide +kernel
theorem dL_law_181 : decode cL_law 181 = .ok (.iconst 0, 1) := by decide +kernel
theorem dL_law_182 : decode cL_law 182 = .ok (.ireturn, 1) := by decide +kernel
theorem dL_law_183 : decode cL_law 183 = .ok (.aload_n 1, 1) := by decide +kernel
theorem dL_law_184 : decode cL_law 184 = .ok (.invokevirtual 18, 3) := by decide +kernel
theorem dL_law_187 : decode cL_law 187 = .ok (.aload_n 2, 1) := by decide +kernel
theorem dL_law_188 : decode cL_law 188 = .ok (.invokevirtual 22, 3) := by decide +kernel
theorem dL_law_191 : decode cL_law 191 = .ok (.if_icmp .eq 494, 3) := by decide +kernel
theorem dL_law_194 : decode cL_law 194 = .ok (.iconst 0, 1) := by decide +kernel
theorem dL_law_195 : decode cL_law 195 = .ok (.ireturn, 1) := by decide +kernel
theorem dL_law_196 : decode cL_law 196 = .ok (.aload_n 1, 1) := by decide +kernel
theorem dL_law_197 : decode cL_law 197 = .ok (.invokevirtual 23, 3) := by decide +kernel
theorem dL_law_200 : decode cL_law 200 = .ok (.aload_n 2, 1) := by decide +kernel
theorem dL_law_201 : decode cL_law 201 = .ok (.invokevirtual 26, 3) := by decide +kernel
theorem dL_law_204 : decode cL_law 204 = .ok (.if_icmp .eq 481, 3) := by decide +kernel
theorem dL_law_207 : decode cL_law 207 = .ok (.iconst 0, 1) := by decide +kernel
theorem dL_law_208 : decode cL_law 208 = .ok (.ireturn, 1) := by decide +kernel
theorem dL_law_209 : decode cL_law 209 = .ok (.aload_n 1, 1) := by decide +kernel
theorem dL_law_210 : decode cL_law 210 = .ok (.invokevirtual 27, 3) := by decide +kernel
theorem dL_law_213 : decode cL_law 213 = .ok (.aload_n 2, 1) := by decide +kernel
theorem dL_law_214 : decode cL_law 214 = .ok (.invokevirtual 30, 3) := by decide +kernel
theorem dL_law_217 : decode cL_law 217 = .ok (.if_icmp .eq 468, 3) := by decide +kernel
theorem dL_law_220 : decode cL_law 220 = .ok (.iconst 0, 1) := by decide +kernel
theorem dL_law_221 : decode cL_law 221 = .ok (.ireturn, 1) := by decide +kernel
theorem dL_law_222 : decode cL_law 222 = .ok (.aload_n 1, 1) := by decide +kernel
theorem dL_law_223 : decode cL_law 223 = .ok (.invokevirtual 31, 3) := by decide +kernel
theorem dL_law_226 : decode cL_law 226 = .ok (.aload_n 2, 1) := by decide +kernel
theorem dL_law_227 : decode cL_law 227 = .ok (.invokevirtual 34, 3) := by decide +kernel
theorem dL_law_230 : decode cL_law 230 = .ok (.if_icmp .eq 455, 3) := by decide +kernel
theorem dL_law_233 : decode cL_law 233 = .ok (.iconst 0, 1) := by decide +kernel
theorem dL_law_234 : decode cL_law 234 = .ok (.ireturn, 1) := by decide +kernel
theorem dL_law_235 : decode cL_law 235 = .ok (.aload_n 1, 1) := by decide +kernel
theorem dL_law_236 : decode cL_law 236 = .ok (.aload_n 0, 1) := by decide +kernel
theorem dL_law_237 : decode cL_law 237 = .ok (.iload_n 3, 1) := by decide +kernel
theorem dL_law_238 : decode cL_law 238 = .ok (.iconst 1, 1) := by decide +kernel
theorem dL_law_239 : decode cL_law 239 = .ok (.iadd, 1) := by decide +kernel
theorem dL_law_240 : decode cL_law 240 = .ok (.iaload, 1) := by decide +kernel
theorem dL_law_241 : decode cL_law 241 = .ok (.invokevirtual 35, 3) := by decide +kernel
theorem dL_law_244 : decode cL_law 244 = .ok (.aload_n 2, 1) := by decide +kernel
theorem dL_law_245 : decode cL_law 245 = .ok (.aload_n 0, 1) := by decide +kernel
theorem dL_law_246 : decode cL_law 246 = .ok (.iload_n 3, 1) := by decide +kernel
theorem dL_law_247 : decode cL_law 247 = .ok (.iconst 1, 1) := by decide +kernel
theorem dL_law_248 : decode cL_law 248 = .ok (.iadd, 1) := by decide +kernel
theorem dL_law_249 : decode cL_law 249 = .ok (.iaload, 1) := by decide +kernel
theorem dL_law_250 : decode cL_law 250 = .ok (.invokevirtual 38, 3) := by decide +kernel
theorem dL_law_253 : decode cL_law 253 = .ok (.if_icmp .eq 432, 3) := by decide +kernel
theorem dL_law_256 : decode cL_law 256 = .ok (.iconst 0, 1) := by decide +kernel
theorem dL_law_257 : decode cL_law 257 = .ok (.ireturn, 1) := by decide +kernel
theorem dL_law_258 : decode cL_law 258 = .ok (.aload_n 1, 1) := by decide +kernel
theorem dL_law_259 : decode cL_law 259 = .ok (.invokevirtual 39, 3) := by decide +kernel
theorem dL_law_262 : decode cL_law 262 = .ok (.aload_n 2, 1) := by decide +kernel
theorem dL_law_263 : decode cL_law 263 = .ok (.invokevirtual 42, 3) := by decide +kernel
theorem dL_law_266 : decode cL_law 266 = .ok (.if_icmp .eq 419, 3) := by decide +kernel
theorem dL_law_269 : decode cL_law 269 = .ok (.iconst 0, 1) := by decide +kernel
theorem dL_law_270 : decode cL_law 270 = .ok (.ireturn, 1) := by decide +kernel
theorem dL_law_271 : decode cL_law 271 = .ok (.aload_n 1, 1) := by decide +kernel
theorem dL_law_272 : decode cL_law 272 = .ok (.aload_n 0, 1) := by decide +kernel
theorem dL_law_273 : decode cL_law 273 = .ok (.iload_n 3, 1) := by decide +kernel
theorem dL_law_274 : decode cL_law 274 = .ok (.iconst 1, 1) := by decide +kernel
theorem dL_law_275 : decode cL_law 275 = .ok (.iadd, 1) := by decide +kernel
theorem dL_law_276 : decode cL_law 276 = .ok (.iaload, 1) := by decide +kernel
theorem dL_law_277 : decode cL_law 277 = .ok (.aload_n 0, 1) := by decide +kernel
theorem dL_law_278 : decode cL_law 278 = .ok (.iload_n 3, 1) := by decide +kernel
theorem dL_law_279 : decode cL_law 279 = .ok (.iconst 2, 1) := by decide +kernel
theorem dL_law_280 : decode cL_law 280 = .ok (.iadd, 1) := by decide +kernel
theorem dL_law_281 : decode cL_law 281 = .ok (.iaload, 1) := by decide +kernel
theorem dL_law_282 : decode cL_law 282 = .ok (.invokevirtual 43, 3) := by decide +kernel
theorem dL_law_285 : decode cL_law 285 = .ok (.aload_n 2, 1) := by decide +kernel
theorem dL_law_286 : decode cL_law 286 = .ok (.aload_n 0, 1) := by decide +kernel
theorem dL_law_287 : decode cL_law 287 = .ok (.iload_n 3, 1) := by decide +kernel
theorem dL_law_288 : decode cL_law 288 = .ok (.iconst 1, 1) := by decide +kernel
theorem dL_law_289 : decode cL_law 289 = .ok (.iadd, 1) := by decide +kernel
theorem dL_law_290 : decode cL_law 290 = .ok (.iaload, 1) := by decide +kernel
theorem dL_law_291 : decode cL_law 291 = .ok (.aload_n 0, 1) := by decide +kernel
theorem dL_law_292 : decode cL_law 292 = .ok (.iload_n 3, 1) := by decide +kernel
theorem dL_law_293 : decode cL_law 293 = .ok (.iconst 2, 1) := by decide +kernel
theorem dL_law_294 : decode cL_law 294 = .ok (.iadd, 1) := by decide +kernel
theorem dL_law_295 : decode cL_law 295 = .ok (.iaload, 1) := by decide +kernel
theorem dL_law_296 : decode cL_law 296 = .ok (.invokevirtual 47, 3) := by decide +kernel
theorem dL_law_299 : decode cL_law 299 = .ok (.if_icmp .eq 386, 3) := by decide +kernel
theorem dL_law_302 : decode cL_law 302 = .ok (.iconst 0, 1) := by decide +kernel
theorem dL_law_303 : decode cL_law 303 = .ok (.ireturn, 1) := by decide +kernel
theorem dL_law_304 : decode cL_law 304 = .ok (.aload_n 1, 1) := by decide +kernel
theorem dL_law_305 : decode cL_law 305 = .ok (.aload_n 0, 1) := by decide +kernel
theorem dL_law_306 : decode cL_law 306 = .ok (.iload_n 3, 1) := by decide +kernel
theorem dL_law_307 : decode cL_law 307 = .ok (.iconst 1, 1) := by decide +kernel
theorem dL_law_308 : decode cL_law 308 = .ok (.iadd, 1) := by decide +kernel
theorem dL_law_309 : decode cL_law 309 = .ok (.iaload, 1) := by decide +kernel
theorem dL_law_310 : decode cL_law 310 = .ok (.aload_n 0, 1) := by decide +kernel
theorem dL_law_311 : decode cL_law 311 = .ok (.iload_n 3, 1) := by decide +kernel
theorem dL_law_312 : decode cL_law 312 = .ok (.iconst 2, 1) := by decide +kernel
theorem dL_law_313 : decode cL_law 313 = .ok (.iadd, 1) := by decide +kernel
theorem dL_law_314 : decode cL_law 314 = .ok (.iaload, 1) := by decide +kernel
theorem dL_law_315 : decode cL_law 315 = .ok (.invokevirtual 48, 3) := by decide +kernel
theorem dL_law_318 : decode cL_law 318 = .ok (.aload_n 2, 1) := by decide +kernel
theorem dL_law_319 : decode cL_law 319 = .ok (.aload_n 0, 1) := by decide +kernel
theorem dL_law_320 : decode cL_law 320 = .ok (.iload_n 3, 1) := by decide +kernel
theorem dL_law_321 : decode cL_law 321 = .ok (.iconst 1, 1) := by decide +kernel
theorem dL_law_322 : decode cL_law 322 = .ok (.iadd, 1) := by decide +kernel
theorem dL_law_323 : decode cL_law 323 = .ok (.iaload, 1) := by decide +kernel
theorem dL_law_324 : decode cL_law 324 = .ok (.aload_n 0, 1) := by decide +kernel
theorem dL_law_325 : decode cL_law 325 = .ok (.iload_n 3, 1) := by decide +kernel
theorem dL_law_326 : decode cL_law 326 = .ok (.iconst 2, 1) := by decide +kernel
theorem dL_law_327 : decode cL_law 327 = .ok (.iadd, 1) := by decide +kernel
theorem dL_law_328 : decode cL_law 328 = .ok (.iaload, 1) := by decide +kernel
theorem dL_law_329 : decode cL_law 329 = .ok (.invokevirtual 51, 3) := by decide +kernel
theorem dL_law_332 : decode cL_law 332 = .ok (.if_icmp .eq 353, 3) := by decide +kernel
theorem dL_law_335 : decode cL_law 335 = .ok (.iconst 0, 1) := by decide +kernel
theorem dL_law_336 : decode cL_law 336 = .ok (.ireturn, 1) := by decide +kernel
theorem dL_law_337 : decode cL_law 337 = .ok (.aload_n 1, 1) := by decide +kernel
theorem dL_law_338 : decode cL_law 338 = .ok (.aload_n 0, 1) := by decide +kernel
theorem dL_law_339 : decode cL_law 339 = .ok (.iload_n 3, 1) := by decide +kernel
theorem dL_law_340 : decode cL_law 340 = .ok (.iconst 1, 1) := by decide +kernel
theorem dL_law_341 : decode cL_law 341 = .ok (.iadd, 1) := by decide +kernel
theorem dL_law_342 : decode cL_law 342 = .ok (.iaload, 1) := by decide +kernel
theorem dL_law_343 : decode cL_law 343 = .ok (.aload_n 0, 1) := by decide +kernel
theorem dL_law_344 : decode cL_law 344 = .ok (.iload_n 3, 1) := by decide +kernel
theorem dL_law_345 : decode cL_law 345 = .ok (.iconst 2, 1) := by decide +kernel
theorem dL_law_346 : decode cL_law 346 = .ok (.iadd, 1) := by decide +kernel
theorem dL_law_347 : decode cL_law 347 = .ok (.iaload, 1) := by decide +kernel
theorem dL_law_348 : decode cL_law 348 = .ok (.invokevirtual 52, 3) := by decide +kernel
theorem dL_law_351 : decode cL_law 351 = .ok (.aload_n 2, 1) := by decide +kernel
theorem dL_law_352 : decode cL_law 352 = .ok (.aload_n 0, 1) := by decide +kernel
theorem dL_law_353 : decode cL_law 353 = .ok (.iload_n 3, 1) := by decide +kernel
theorem dL_law_354 : decode cL_law 354 = .ok (.iconst 1, 1) := by decide +kernel
theorem dL_law_355 : decode cL_law 355 = .ok (.iadd, 1) := by decide +kernel
theorem dL_law_356 : decode cL_law 356 = .ok (.iaload, 1) := by decide +kernel
theorem dL_law_357 : decode cL_law 357 = .ok (.aload_n 0, 1) := by decide +kernel
theorem dL_law_358 : decode cL_law 358 = .ok (.iload_n 3, 1) := by decide +kernel
theorem dL_law_359 : decode cL_law 359 = .ok (.iconst 2, 1) := by decide +kernel
theorem dL_law_360 : decode cL_law 360 = .ok (.iadd, 1) := by decide +kernel
theorem dL_law_361 : decode cL_law 361 = .ok (.iaload, 1) := by decide +kernel
theorem dL_law_362 : decode cL_law 362 = .ok (.invokevirtual 55, 3) := by decide +kernel
theorem dL_law_365 : decode cL_law 365 = .ok (.if_icmp .eq 320, 3) := by decide +kernel
theorem dL_law_368 : decode cL_law 368 = .ok (.iconst 0, 1) := by decide +kernel
theorem dL_law_369 : decode cL_law 369 = .ok (.ireturn, 1) := by decide +kernel
theorem dL_law_370 : decode cL_law 370 = .ok (.aload_n 1, 1) := by decide +kernel
theorem dL_law_371 : decode cL_law 371 = .ok (.aload_n 0, 1) := by decide +kernel
theorem dL_law_372 : decode cL_law 372 = .ok (.iload_n 3, 1) := by decide +kernel
theorem dL_law_373 : decode cL_law 373 = .ok (.iconst 1, 1) := by decide +kernel
theorem dL_law_374 : decode cL_law 374 = .ok (.iadd, 1) := by decide +kernel
theorem dL_law_375 : decode cL_law 375 = .ok (.iaload, 1) := by decide +kernel
theorem dL_law_376 : decode cL_law 376 = .ok (.invokevirtual 56, 3) := by decide +kernel
theorem dL_law_379 : decode cL_law 379 = .ok (.aload_n 2, 1) := by decide +kernel
theorem dL_law_380 : decode cL_law 380 = .ok (.aload_n 0, 1) := by decide +kernel
theorem dL_law_381 : decode cL_law 381 = .ok (.iload_n 3, 1) := by decide +kernel
theorem dL_law_382 : decode cL_law 382 = .ok (.iconst 1, 1) := by decide +kernel
theorem dL_law_383 : decode cL_law 383 = .ok (.iadd, 1) := by decide +kernel
theorem dL_law_384 : decode cL_law 384 = .ok (.iaload, 1) := by decide +kernel
theorem dL_law_385 : decode cL_law 385 = .ok (.invokevirtual 59, 3) := by decide +kernel
theorem dL_law_388 : decode cL_law 388 = .ok (.if_icmp .eq 297, 3) := by decide +kernel
theorem dL_law_391 : decode cL_law 391 = .ok (.iconst 0, 1) := by decide +kernel
theorem dL_law_392 : decode cL_law 392 = .ok (.ireturn, 1) := by decide +kernel
theorem dL_law_393 : decode cL_law 393 = .ok (.aload_n 1, 1) := by decide +kernel
theorem dL_law_394 : decode cL_law 394 = .ok (.invokevirtual 60, 3) := by decide +kernel
theorem dL_law_397 : decode cL_law 397 = .ok (.aload_n 2, 1) := by decide +kernel
theorem dL_law_398 : decode cL_law 398 = .ok (.invokevirtual 63, 3) := by decide +kernel
theorem dL_law_401 : decode cL_law 401 = .ok (.if_icmp .eq 284, 3) := by decide +kernel
theorem dL_law_404 : decode cL_law 404 = .ok (.iconst 0, 1) := by decide +kernel
theorem dL_law_405 : decode cL_law 405 = .ok (.ireturn, 1) := by decide +kernel
theorem dL_law_406 : decode cL_law 406 = .ok (.aload_n 1, 1) := by decide +kernel
theorem dL_law_407 : decode cL_law 407 = .ok (.invokevirtual 64, 3) := by decide +kernel
theorem dL_law_410 : decode cL_law 410 = .ok (.aload_n 2, 1) := by decide +kernel
theorem dL_law_411 : decode cL_law 411 = .ok (.invokevirtual 67, 3) := by decide +kernel
theorem dL_law_414 : decode cL_law 414 = .ok (.if_icmp .eq 271, 3) := by decide +kernel
theorem dL_law_417 : decode cL_law 417 = .ok (.iconst 0, 1) := by decide +kernel
theorem dL_law_418 : decode cL_law 418 = .ok (.ireturn, 1) := by decide +kernel
theorem dL_law_419 : decode cL_law 419 = .ok (.aload_n 1, 1) := by decide +kernel
theorem dL_law_420 : decode cL_law 420 = .ok (.invokevirtual 68, 3) := by decide +kernel
theorem dL_law_423 : decode cL_law 423 = .ok (.aload_n 2, 1) := by decide +kernel
theorem dL_law_424 : decode cL_law 424 = .ok (.invokevirtual 71, 3) := by decide +kernel
theorem dL_law_427 : decode cL_law 427 = .ok (.if_icmp .eq 258, 3) := by decide +kernel
theorem dL_law_430 : decode cL_law 430 = .ok (.iconst 0, 1) := by decide +kernel
theorem dL_law_431 : decode cL_law 431 = .ok (.ireturn, 1) := by decide +kernel
theorem dL_law_432 : decode cL_law 432 = .ok (.aload_n 1, 1) := by decide +kernel
theorem dL_law_433 : decode cL_law 433 = .ok (.aload_n 0, 1) := by decide +kernel
theorem dL_law_434 : decode cL_law 434 = .ok (.iload_n 3, 1) := by decide +kernel
theorem dL_law_435 : decode cL_law 435 = .ok (.iconst 1, 1) := by decide +kernel
theorem dL_law_436 : decode cL_law 436 = .ok (.iadd, 1) := by decide +kernel
theorem dL_law_437 : decode cL_law 437 = .ok (.iaload, 1) := by decide +kernel
theorem dL_law_438 : decode cL_law 438 = .ok (.invokevirtual 72, 3) := by decide +kernel
theorem dL_law_441 : decode cL_law 441 = .ok (.aload_n 2, 1) := by decide +kernel
theorem dL_law_442 : decode cL_law 442 = .ok (.aload_n 0, 1) := by decide +kernel
theorem dL_law_443 : decode cL_law 443 = .ok (.iload_n 3, 1) := by decide +kernel
theorem dL_law_444 : decode cL_law 444 = .ok (.iconst 1, 1) := by decide +kernel
theorem dL_law_445 : decode cL_law 445 = .ok (.iadd, 1) := by decide +kernel
theorem dL_law_446 : decode cL_law 446 = .ok (.iaload, 1) := by decide +kernel
theorem dL_law_447 : decode cL_law 447 = .ok (.invokevirtual 75, 3) := by decide +kernel
theorem dL_law_450 : decode cL_law 450 = .ok (.if_icmp .eq 235, 3) := by decide +kernel
theorem dL_law_453 : decode cL_law 453 = .ok (.iconst 0, 1) := by decide +kernel
theorem dL_law_454 : decode cL_law 454 = .ok (.ireturn, 1) := by decide +kernel
theorem dL_law_455 : decode cL_law 455 = .ok (.aload_n 1, 1) := by decide +kernel
theorem dL_law_456 : decode cL_law 456 = .ok (.aload_n 0, 1) := by decide +kernel
theorem dL_law_457 : decode cL_law 457 = .ok (.iload_n 3, 1) := by decide +kernel
theorem dL_law_458 : decode cL_law 458 = .ok (.iconst 1, 1) := by decide +kernel
theorem dL_law_459 : decode cL_law 459 = .ok (.iadd, 1) := by decide +kernel
theorem dL_law_460 : decode cL_law 460 = .ok (.iaload, 1) := by decide +kernel
theorem dL_law_461 : decode cL_law 461 = .ok (.invokevirtual 76, 3) := by decide +kernel
theorem dL_law_464 : decode cL_law 464 = .ok (.aload_n 2, 1) := by decide +kernel
theorem dL_law_465 : decode cL_law 465 = .ok (.aload_n 0, 1) := by decide +kernel
theorem dL_law_466 : decode cL_law 466 = .ok (.iload_n 3, 1) := by decide +kernel
theorem dL_law_467 : decode cL_law 467 = .ok (.iconst 1, 1) := by decide +kernel
theorem dL_law_468 : decode cL_law 468 = .ok (.iadd, 1) := by decide +kernel
theorem dL_law_469 : decode cL_law 469 = .ok (.iaload, 1) := by decide +kernel
theorem dL_law_470 : decode cL_law 470 = .ok (.invokevirtual 79, 3) := by decide +kernel
theorem dL_law_473 : decode cL_law 473 = .ok (.if_icmp .eq 212, 3) := by decide +kernel
theorem dL_law_476 : decode cL_law 476 = .ok (.iconst 0, 1) := by decide +kernel
theorem dL_law_477 : decode cL_law 477 = .ok (.ireturn, 1) := by decide +kernel
theorem dL_law_478 : decode cL_law 478 = .ok (.aload_n 1, 1) := by decide +kernel
theorem dL_law_479 : decode cL_law 479 = .ok (.invokevirtual 80, 3) := by decide +kernel
theorem dL_law_482 : decode cL_law 482 = .ok (.aload_n 2, 1) := by decide +kernel
theorem dL_law_483 : decode cL_law 483 = .ok (.invokevirtual 83, 3) := by decide +kernel
theorem dL_law_486 : decode cL_law 486 = .ok (.if_icmp .eq 199, 3) := by decide +kernel
theorem dL_law_489 : decode cL_law 489 = .ok (.iconst 0, 1) := by decide +kernel
theorem dL_law_490 : decode cL_law 490 = .ok (.ireturn, 1) := by decide +kernel
theorem dL_law_491 : decode cL_law 491 = .ok (.aload_n 1, 1) := by decide +kernel
theorem dL_law_492 : decode cL_law 492 = .ok (.invokevirtual 84, 3) := by decide +kernel
theorem dL_law_495 : decode cL_law 495 = .ok (.aload_n 2, 1) := by decide +kernel
theorem dL_law_496 : decode cL_law 496 = .ok (.invokevirtual 87, 3) := by decide +kernel
theorem dL_law_499 : decode cL_law 499 = .ok (.if_icmp .eq 186, 3) := by decide +kernel
theorem dL_law_502 : decode cL_law 502 = .ok (.iconst 0, 1) := by decide +kernel
theorem dL_law_503 : decode cL_law 503 = .ok (.ireturn, 1) := by decide +kernel
theorem dL_law_504 : decode cL_law 504 = .ok (.aload_n 1, 1) := by decide +kernel
theorem dL_law_505 : decode cL_law 505 = .ok (.aload_n 0, 1) := by decide +kernel
theorem dL_law_506 : decode cL_law 506 = .ok (.iload_n 3, 1) := by decide +kernel
theorem dL_law_507 : decode cL_law 507 = .ok (.iconst 1, 1) := by decide +kernel
theorem dL_law_508 : decode cL_law 508 = .ok (.iadd, 1) := by decide +kernel
theorem dL_law_509 : decode cL_law 509 = .ok (.iaload, 1) := by decide +kernel
theorem dL_law_510 : decode cL_law 510 = .ok (.invokevirtual 88, 3) := by decide +kernel
theorem dL_law_513 : decode cL_law 513 = .ok (.aload_n 2, 1) := by decide +kernel
theorem dL_law_514 : decode cL_law 514 = .ok (.aload_n 0, 1) := by decide +kernel
theorem dL_law_515 : decode cL_law 515 = .ok (.iload_n 3, 1) := by decide +kernel
theorem dL_law_516 : decode cL_law 516 = .ok (.iconst 1, 1) := by decide +kernel
theorem dL_law_517 : decode cL_law 517 = .ok (.iadd, 1) := by decide +kernel
theorem dL_law_518 : decode cL_law 518 = .ok (.iaload, 1) := by decide +kernel
theorem dL_law_519 : decode cL_law 519 = .ok (.invokevirtual 91, 3) := by decide +kernel
theorem dL_law_522 : decode cL_law 522 = .ok (.if_icmp .eq 163, 3) := by decide +kernel
theorem dL_law_525 : decode cL_law 525 = .ok (.iconst 0, 1) := by decide +kernel
theorem dL_law_526 : decode cL_law 526 = .ok (.ireturn, 1) := by decide +kernel
theorem dL_law_527 : decode cL_law 527 = .ok (.aload_n 1, 1) := by decide +kernel
theorem dL_law_528 : decode cL_law 528 = .ok (.invokevirtual 92, 3) := by decide +kernel
theorem dL_law_531 : decode cL_law 531 = .ok (.aload_n 2, 1) := by decide +kernel
theorem dL_law_532 : decode cL_law 532 = .ok (.invokevirtual 95, 3) := by decide +kernel
theorem dL_law_535 : decode cL_law 535 = .ok (.if_icmp .eq 150, 3) := by decide +kernel
theorem dL_law_538 : decode cL_law 538 = .ok (.iconst 0, 1) := by decide +kernel
theorem dL_law_539 : decode cL_law 539 = .ok (.ireturn, 1) := by decide +kernel
theorem dL_law_540 : decode cL_law 540 = .ok (.aload_n 1, 1) := by decide +kernel
theorem dL_law_541 : decode cL_law 541 = .ok (.invokevirtual 96, 3) := by decide +kernel
theorem dL_law_544 : decode cL_law 544 = .ok (.aload_n 2, 1) := by decide +kernel
theorem dL_law_545 : decode cL_law 545 = .ok (.invokevirtual 99, 3) := by decide +kernel
theorem dL_law_548 : decode cL_law 548 = .ok (.if_icmp .eq 137, 3) := by decide +kernel
theorem dL_law_551 : decode cL_law 551 = .ok (.iconst 0, 1) := by decide +kernel
theorem dL_law_552 : decode cL_law 552 = .ok (.ireturn, 1) := by decide +kernel
theorem dL_law_553 : decode cL_law 553 = .ok (.aload_n 1, 1) := by decide +kernel
theorem dL_law_554 : decode cL_law 554 = .ok (.aload_n 0, 1) := by decide +kernel
theorem dL_law_555 : decode cL_law 555 = .ok (.iload_n 3, 1) := by decide +kernel
theorem dL_law_556 : decode cL_law 556 = .ok (.iconst 1, 1) := by decide +kernel
theorem dL_law_557 : decode cL_law 557 = .ok (.iadd, 1) := by decide +kernel
theorem dL_law_558 : decode cL_law 558 = .ok (.iaload, 1) := by decide +kernel
theorem dL_law_559 : decode cL_law 559 = .ok (.invokevirtual 100, 3) := by decide +kernel
theorem dL_law_562 : decode cL_law 562 = .ok (.aload_n 2, 1) := by decide +kernel
theorem dL_law_563 : decode cL_law 563 = .ok (.aload_n 0, 1) := by decide +kernel
theorem dL_law_564 : decode cL_law 564 = .ok (.iload_n 3, 1) := by decide +kernel
theorem dL_law_565 : decode cL_law 565 = .ok (.iconst 1, 1) := by decide +kernel
theorem dL_law_566 : decode cL_law 566 = .ok (.iadd, 1) := by decide +kernel
theorem dL_law_567 : decode cL_law 567 = .ok (.iaload, 1) := by decide +kernel
theorem dL_law_568 : decode cL_law 568 = .ok (.invokevirtual 103, 3) := by decide +kernel
theorem dL_law_571 : decode cL_law 571 = .ok (.if_icmp .eq 114, 3) := by decide +kernel
theorem dL_law_574 : decode cL_law 574 = .ok (.iconst 0, 1) := by decide +kernel
theorem dL_law_575 : decode cL_law 575 = .ok (.ireturn, 1) := by decide +kernel
theorem dL_law_576 : decode cL_law 576 = .ok (.aload_n 1, 1) := by decide +kernel
theorem dL_law_577 : decode cL_law 577 = .ok (.invokevirtual 104, 3) := by decide +kernel
theorem dL_law_580 : decode cL_law 580 = .ok (.aload_n 2, 1) := by decide +kernel
theorem dL_law_581 : decode cL_law 581 = .ok (.invokevirtual 107, 3) := by decide +kernel
theorem dL_law_584 : decode cL_law 584 = .ok (.if_icmp .eq 101, 3) := by decide +kernel
theorem dL_law_587 : decode cL_law 587 = .ok (.iconst 0, 1) := by decide +kernel
theorem dL_law_588 : decode cL_law 588 = .ok (.ireturn, 1) := by decide +kernel
theorem dL_law_589 : decode cL_law 589 = .ok (.aload_n 1, 1) := by decide +kernel
theorem dL_law_590 : decode cL_law 590 = .ok (.aload_n 0, 1) := by decide +kernel
theorem dL_law_591 : decode cL_law 591 = .ok (.iload_n 3, 1) := by decide +kernel
theorem dL_law_592 : decode cL_law 592 = .ok (.iconst 1, 1) := by decide +kernel
theorem dL_law_593 : decode cL_law 593 = .ok (.iadd, 1) := by decide +kernel
theorem dL_law_594 : decode cL_law 594 = .ok (.iaload, 1) := by decide +kernel
theorem dL_law_595 : decode cL_law 595 = .ok (.invokevirtual 108, 3) := by decide +kernel
theorem dL_law_598 : decode cL_law 598 = .ok (.aload_n 2, 1) := by decide +kernel
theorem dL_law_599 : decode cL_law 599 = .ok (.aload_n 0, 1) := by decide +kernel
theorem dL_law_600 : decode cL_law 600 = .ok (.iload_n 3, 1) := by decide +kernel
theorem dL_law_601 : decode cL_law 601 = .ok (.iconst 1, 1) := by decide +kernel
theorem dL_law_602 : decode cL_law 602 = .ok (.iadd, 1) := by decide +kernel
theorem dL_law_603 : decode cL_law 603 = .ok (.iaload, 1) := by decide +kernel
theorem dL_law_604 : decode cL_law 604 = .ok (.invokevirtual 111, 3) := by decide +kernel
theorem dL_law_607 : decode cL_law 607 = .ok (.if_icmp .eq 78, 3) := by decide +kernel
theorem dL_law_610 : decode cL_law 610 = .ok (.iconst 0, 1) := by decide +kernel
theorem dL_law_611 : decode cL_law 611 = .ok (.ireturn, 1) := by decide +kernel
theorem dL_law_612 : decode cL_law 612 = .ok (.aload_n 1, 1) := by decide +kernel
theorem dL_law_613 : decode cL_law 613 = .ok (.aload_n 0, 1) := by decide +kernel
theorem dL_law_614 : decode cL_law 614 = .ok (.iload_n 3, 1) := by decide +kernel
theorem dL_law_615 : decode cL_law 615 = .ok (.iconst 1, 1) := by decide +kernel
theorem dL_law_616 : decode cL_law 616 = .ok (.iadd, 1) := by decide +kernel
theorem dL_law_617 : decode cL_law 617 = .ok (.iaload, 1) := by decide +kernel
theorem dL_law_618 : decode cL_law 618 = .ok (.invokevirtual 112, 3) := by decide +kernel
theorem dL_law_621 : decode cL_law 621 = .ok (.aload_n 2, 1) := by decide +kernel
theorem dL_law_622 : decode cL_law 622 = .ok (.aload_n 0, 1) := by decide +kernel
theorem dL_law_623 : decode cL_law 623 = .ok (.iload_n 3, 1) := by decide +kernel
theorem dL_law_624 : decode cL_law 624 = .ok (.iconst 1, 1) := by decide +kernel
theorem dL_law_625 : decode cL_law 625 = .ok (.iadd, 1) := by decide +kernel
theorem dL_law_626 : decode cL_law 626 = .ok (.iaload, 1) := by decide +kernel
theorem dL_law_627 : decode cL_law 627 = .ok (.invokevirtual 115, 3) := by decide +kernel
theorem dL_law_630 : decode cL_law 630 = .ok (.if_icmp .eq 55, 3) := by decide +kernel
theorem dL_law_633 : decode cL_law 633 = .ok (.iconst 0, 1) := by decide +kernel
theorem dL_law_634 : decode cL_law 634 = .ok (.ireturn, 1) := by decide +kernel
theorem dL_law_635 : decode cL_law 635 = .ok (.aload_n 1, 1) := by decide +kernel
theorem dL_law_636 : decode cL_law 636 = .ok (.aload_n 0, 1) := by decide +kernel
theorem dL_law_637 : decode cL_law 637 = .ok (.iload_n 3, 1) := by decide +kernel
theorem dL_law_638 : decode cL_law 638 = .ok (.iconst 1, 1) := by decide +kernel
theorem dL_law_639 : decode cL_law 639 = .ok (.iadd, 1) := by decide +kernel
theorem dL_law_640 : decode cL_law 640 = .ok (.iaload, 1) := by decide +kernel
theorem dL_law_641 : decode cL_law 641 = .ok (.invokevirtual 116, 3) := by decide +kernel
theorem dL_law_644 : decode cL_law 644 = .ok (.aload_n 2, 1) := by decide +kernel
theorem dL_law_645 : decode cL_law 645 = .ok (.aload_n 0, 1) := by decide +kernel
theorem dL_law_646 : decode cL_law 646 = .ok (.iload_n 3, 1) := by decide +kernel
theorem dL_law_647 : decode cL_law 647 = .ok (.iconst 1, 1) := by decide +kernel
theorem dL_law_648 : decode cL_law 648 = .ok (.iadd, 1) := by decide +kernel
theorem dL_law_649 : decode cL_law 649 = .ok (.iaload, 1) := by decide +kernel
theorem dL_law_650 : decode cL_law 650 = .ok (.invokevirtual 119, 3) := by decide +kernel
theorem dL_law_653 : decode cL_law 653 = .ok (.if_icmp .eq 32, 3) := by decide +kernel
theorem dL_law_656 : decode cL_law 656 = .ok (.iconst 0, 1) := by decide +kernel
theorem dL_law_657 : decode cL_law 657 = .ok (.ireturn, 1) := by decide +kernel
theorem dL_law_658 : decode cL_law 658 = .ok (.aload_n 1, 1) := by decide +kernel
theorem dL_law_659 : decode cL_law 659 = .ok (.invokevirtual 120, 3) := by decide +kernel
theorem dL_law_662 : decode cL_law 662 = .ok (.aload_n 2, 1) := by decide +kernel
theorem dL_law_663 : decode cL_law 663 = .ok (.invokevirtual 123, 3) := by decide +kernel
theorem dL_law_666 : decode cL_law 666 = .ok (.if_icmp .eq 19, 3) := by decide +kernel
theorem dL_law_669 : decode cL_law 669 = .ok (.iconst 0, 1) := by decide +kernel
theorem dL_law_670 : decode cL_law 670 = .ok (.ireturn, 1) := by decide +kernel
theorem dL_law_671 : decode cL_law 671 = .ok (.aload_n 1, 1) := by decide +kernel
theorem dL_law_672 : decode cL_law 672 = .ok (.invokevirtual 124, 3) := by decide +kernel
theorem dL_law_675 : decode cL_law 675 = .ok (.aload_n 2, 1) := by decide +kernel
theorem dL_law_676 : decode cL_law 676 = .ok (.invokevirtual 128, 3) := by decide +kernel
theorem dL_law_679 : decode cL_law 679 = .ok (.lcmp, 1) := by decide +kernel
theorem dL_law_680 : decode cL_law 680 = .ok (.ifCond .eq 5, 3) := by decide +kernel
theorem dL_law_683 : decode cL_law 683 = .ok (.iconst 0, 1) := by decide +kernel
theorem dL_law_684 : decode cL_law 684 = .ok (.ireturn, 1) := by decide +kernel
theorem dL_law_685 : decode cL_law 685 = .ok (.iinc 3 3, 3) := by decide +kernel
theorem dL_law_688 : decode cL_law 688 = .ok (.goto (-670), 3) := by decide +kernel
theorem dL_law_691 : decode cL_law 691 = .ok (.iconst 1, 1) := by decide +kernel
theorem dL_law_692 : decode cL_law 692 = .ok (.ireturn, 1) := by decide +kernel
end
section
/-! THE LAYER: memory as a map from addresses to tagged cells; a judgement V over it, an instruction a row; a contract CC over it, a call a row -/
abbrev mE : Type := (Nat × List Value) ⊕ (Nat × Nat × ((Nat → Int32) ⊕ (Nat → Option Nat)))
abbrev mM : Type := Nat → Option (Nat × mE)
/-- the machine's cell of a cell -/
def mv (KA : Nat → ClassId) (e : mE) : va_E := match e with
  | .inl o => .inr o
  | .inr (k, n, .inl f) => .inl (KA k, n, .inl f)
  | .inr (k, n, .inr g) => .inl (KA k, n, .inr (.inr (.inr (.inr g))))
def mup (M : mM) (a : Nat) (x : Nat × mE) : mM := fun b => if b = a then some x else M b
theorem mup_s {M : mM} {a : Nat} {x : Nat × mE} : mup M a x a = some x := if_pos rfl
theorem mup_n {M : mM} {a b : Nat} {x : Nat × mE} (h : b ≠ a) : mup M a x b = M b := if_neg h
/-- the kinds of arrays -/
def tysK (KA : Nat → ClassId) : List (ClassId × FieldType) := [(KA 0, .int), (KA 1, .char), (KA 2, .object "java/lang/Object"), (KA 3, .object "TitleFinder$State"), (KA 4, .array .int), (KA 5, .byte)]
/-- the surroundings: the launch, the law's start heap, the classes, the arrays' classes, the literals' addresses, the empty list's array -/
abbrev mG : Type := Launch × Heap × va_G × (Nat → ClassId) × (Nat → Nat) × (Nat → Nat) × Nat
abbrev mAf (H0 : Heap) : Nat → Prop := fun q => H0.size ≤ q
def mR (G : mG) (M : mM) (H : Heap) (locs : List Loc) : Prop :=
  (∀ a t e, M a = some (t, e) → va_at G.2.2.1 vwCl (a, mv G.2.2.2.1 e) H) ∧ (∀ a t e, M a = some (t, e) → (t = 0 ↔ a < G.2.1.size)) ∧ va_S (mAf G.2.1) G.2.1 H locs
/-- the literals of Text: their entries, their signs -/
def sIdx : List Nat := [90, 92, 94, 96, 98, 100, 102, 107, 109, 111, 112, 114, 116, 118]
def sTxt : List String := ["add ", "drop ", "mode ", "order ", "ask ", "pick ", "clear", "part", "start", "word", "initials", "place", "often", "name"]
def sLen : List Nat := [4, 5, 5, 6, 4, 5, 5, 4, 5, 4, 8, 5, 5, 4]
def sByt : List (List Int32) := [[97, 100, 100, 32], [100, 114, 111, 112, 32], [109, 111, 100, 101, 32], [111, 114, 100, 101, 114, 32], [97, 115, 107, 32], [112, 105, 99, 107, 32], [99, 108, 101, 97, 114], [112, 97, 114, 116], [115, 116, 97, 114, 116], [119, 111, 114, 100], [105, 110, 105, 116, 105, 97, 108, 115], [112, 108, 97, 99, 101], [111, 102, 116, 101, 110], [110, 97, 109, 101]]
def mNest : List Cond := [.methodLinkNest "TitleFinder" 9 yX2_init "TitleFinder", .methodLinkNest "TitleFinder$History" 17 yX2_init "TitleFinder", .methodLinkNest "TitleFinder" 28 yX4_init "TitleFinder", .methodLinkNest "TitleFinder" 35 yX1_init "TitleFinder", .methodLinkNest "TitleFinder" 42 yX3_init "TitleFinder"]
/-- arrays of rows of ints -/
def va_AOA (t : FieldType) (U : State) : Prop := (Cond.arrayOver (.array t)).before #[] U = true
theorem va_AOA.use {t : FieldType} {A : Array Value} {U : State} (h : va_AOA t U) : (Cond.arrayOver (.array t)).before A U = true := h
theorem va_AOA.moved {t : FieldType} {u U : State} (hvm : u.vm.Alike U.vm) (h : va_AOA t u) : va_AOA t U := arrayOver_alikeB hvm h
/-- what is known of the tables and of what was there before -/
def mK (G : mG) (U : State) : Prop := va_K G.2.2.1 vwCl (tysK G.2.2.2.1) U ∧ va_Z "java/util/ArrayList" "DEFAULTCAPACITY_EMPTY_ELEMENTDATA" "[Ljava/lang/Object;" (.ref G.2.2.2.2.2.2) (mAf G.2.1) U G.2.1
  ∧ va_Z "java/lang/String" "COMPACT_STRINGS" "Z" (.int 1) (mAf G.2.1) U G.2.1 ∧ va_Zq "jdk/internal/util/Preconditions" "SIOOBE_FORMATTER" "Ljava/util/function/BiFunction;" (mAf G.2.1) U G.2.1
  ∧ vk_S 14 sLen sByt G.2.2.2.2.1 G.2.2.2.2.2.1 (mAf G.2.1) U G.2.1 ∧ (∀ i, i < 14 → vk_R "TitleFinder$Text" (sIdx.getD i 0) (sTxt.getD i "") (G.2.2.2.2.1 i) U)
  ∧ va_AO "java/lang/Object" U ∧ va_AO "TitleFinder$State" U ∧ va_AOA .int U ∧ (∀ w ∈ mNest, va_Nw w U) ∧ va_Nw (.castable "TitleFinder$Title" "java/lang/Object") U ∧ (∃ mi, va_Mi "[Ljava/lang/Object;" mi U) ∧ va_Dc U
theorem mK.warm {G : mG} {s U : State} (hW : s.WarmedH U.vm) (h : mK G s) : mK G U := by
  obtain ⟨h1, h2, h3, h4, h5, h6, h7, h8, h9, h10, h11, ⟨mi, h12⟩, h13⟩ := h
  have hvm := hW.alike
  refine ⟨va_K.moved hvm h1, va_Z.moved hvm h2, va_Z.moved hvm h3, va_Zq.moved hvm h4, vk_S.moved hvm h5, fun i hi => vk_R.warm hW (h6 i hi), va_AO.moved hvm h7, va_AO.moved hvm h8, va_AOA.moved hvm h9, fun w hw => ?_, va_Nw.warmC hW h11, ⟨mi, va_Mi.moved hvm h12⟩, va_Dc.moved hvm h13⟩
  have hz := h10 w hw
  simp only [mNest, List.mem_cons, List.not_mem_nil, or_false] at hw
  rcases hw with rfl | rfl | rfl | rfl | rfl <;> exact va_Nw.warmM hW hz
theorem mK.same {G : mG} {u U : State} (hv : U.vm = u.vm) (h : mK G u) : mK G U := by
  obtain ⟨h1, h2, h3, h4, h5, h6, h7, h8, h9, h10, h11, ⟨mi, h12⟩, h13⟩ := h
  have hvm : u.vm.Alike U.vm := by rw [hv]; exact Vm.Alike.refl _
  refine ⟨va_K.moved hvm h1, va_Z.moved hvm h2, va_Z.moved hvm h3, va_Zq.moved hvm h4, vk_S.moved hvm h5, fun i hi => vk_R.same hv (h6 i hi), va_AO.moved hvm h7, va_AO.moved hvm h8, va_AOA.moved hvm h9, fun w hw => ?_, va_Nw.same rfl hv.symm h11, ⟨mi, va_Mi.moved hvm h12⟩, va_Dc.moved hvm h13⟩
  have hz := h10 w hw
  simp only [mNest, List.mem_cons, List.not_mem_nil, or_false] at hw
  rcases hw with rfl | rfl | rfl | rfl | rfl <;> exact va_Nw.same rfl hv.symm hz
/-- locals: what is known of them, by their places -/
def mP (L : List (Option Value)) : List (Nat × Value) := (List.range L.length).filterMap (fun i => (L[i]?).join.map (fun v => (i, v)))
theorem mP_mem {L : List (Option Value)} {i : Nat} {v : Value} : (i, v) ∈ mP L ↔ L[i]? = some (some v) := by
  unfold mP
  rw [List.mem_filterMap]
  constructor
  · rintro ⟨j, hj, h⟩
    cases hq : L[j]? with
    | none => rw [hq] at h; cases h
    | some x =>
      cases x with
      | none => rw [hq] at h; cases h
      | some w =>
        rw [hq] at h
        cases h
        exact hq
  · intro h
    have hlt : i < L.length := (List.getElem?_eq_some_iff.mp h).1
    exact ⟨i, List.mem_range.mpr hlt, by rw [h]; rfl⟩
def mL (ls : Array Slot) (L : List (Option Value)) : Prop := lv_has ls L.length (mP L)
theorem mL_get {ls : Array Slot} {L : List (Option Value)} (h : mL ls L) {i : Nat} {v : Value} (hi : L[i]? = some (some v)) : ls[i]? = some (.val v) := h.2.2 (i, v) (mP_mem.mpr hi)
/-- no long stands just ahead of place i -/
def mk2 (L : List (Option Value)) (i : Nat) : Bool := match i with
  | 0 => true
  | j + 1 => match L[j]? with
    | some (some v) => v.category == 1
    | _ => true
theorem mL_set {ls : Array Slot} {L : List (Option Value)} {i : Nat} {v : Value} (hk : mk2 L i = true) (hlt : i < L.length)
    (h : lv_has ls L.length ((i, v) :: (mP L).filter (fun q => !(q.1 == i) && !(q.1 + 1 == i && q.2.category == 2)))) : mL ls (L.set i (some v)) := by
  unfold mL
  rw [List.length_set]
  refine ⟨h.1, h.2.1, fun q hq => ?_⟩
  obtain ⟨j, w⟩ := q
  have hq := mP_mem.mp hq
  by_cases hj : j = i
  · subst hj
    rw [List.getElem?_set_self hlt] at hq
    cases hq
    exact h.2.2 _ List.mem_cons_self
  · rw [List.getElem?_set_ne (fun e => hj e.symm)] at hq
    refine h.2.2 _ (List.mem_cons_of_mem _ (List.mem_filter.mpr ⟨mP_mem.mpr hq, ?_⟩))
    simp only [Bool.and_eq_true, Bool.not_eq_true', beq_eq_false_iff_ne, ne_eq, Bool.and_eq_false_iff]
    refine ⟨hj, ?_⟩
    by_cases e : j + 1 = i
    · refine Or.inr ?_
      rw [← e] at hk
      simp only [mk2, hq] at hk
      have : w.category = 1 := by simpa using hk
      omega
    · exact Or.inl e
theorem mL_set2 {ls : Array Slot} {L : List (Option Value)} {i : Nat} {v : Value} (hk : mk2 L i = true) (hlt : i + 1 < L.length)
    (h : lv_has ls L.length ((i, v) :: (mP L).filter (fun q => !(q.1 == i) && (!(q.1 == i + 1) && !(q.1 + 1 == i && q.2.category == 2))))) : mL ls ((L.set i (some v)).set (i + 1) none) := by
  unfold mL
  rw [List.length_set, List.length_set]
  refine ⟨h.1, h.2.1, fun q hq => ?_⟩
  obtain ⟨j, w⟩ := q
  have hq := mP_mem.mp hq
  by_cases hj1 : j = i + 1
  · subst hj1
    rw [List.getElem?_set_self (by rw [List.length_set]; exact hlt)] at hq
    cases hq
  rw [List.getElem?_set_ne (fun e => hj1 e.symm)] at hq
  by_cases hj : j = i
  · subst hj
    rw [List.getElem?_set_self (by omega)] at hq
    cases hq
    exact h.2.2 _ List.mem_cons_self
  · rw [List.getElem?_set_ne (fun e => hj e.symm)] at hq
    refine h.2.2 _ (List.mem_cons_of_mem _ (List.mem_filter.mpr ⟨mP_mem.mpr hq, ?_⟩))
    simp only [Bool.and_eq_true, Bool.not_eq_true', beq_eq_false_iff_ne, ne_eq, Bool.and_eq_false_iff]
    refine ⟨hj, hj1, ?_⟩
    by_cases e : j + 1 = i
    · refine Or.inr ?_
      rw [← e] at hk
      simp only [mk2, hq] at hk
      have : w.category = 1 := by simpa using hk
      omega
    · exact Or.inl e
/-- a method's locals at its entry -/
def mA : Nat → List Value → List (Option Value)
  | n, [] => List.replicate n none
  | n, .long x :: vs => some (.long x) :: none :: mA (n - 2) vs
  | n, .double x :: vs => some (.double x) :: none :: mA (n - 2) vs
  | n, v :: vs => some v :: mA (n - 1) vs
theorem mA_in : ∀ (As : List Value) (n k i : Nat) (v : Value), (mA n As)[i]? = some (some v) → (k + i, v) ∈ lv_args k As := by
  intro As
  induction As with
  | nil =>
    intro n k i v h
    unfold mA at h
    rw [List.getElem?_replicate] at h
    split at h <;> cases h
  | cons a vs ih =>
    intro n k i v h
    have one : a.category = 1 → (some a :: mA (n - 1) vs)[i]? = some (some v) → (k + i, v) ∈ lv_args k (a :: vs) := by
      intro hc h
      show _ ∈ (k, a) :: lv_args (if a.category = 2 then k + 2 else k + 1) vs
      rw [if_neg (by omega)]
      cases i with
      | zero => cases h; exact List.mem_cons_self
      | succ i =>
        have h2 := ih (n - 1) (k + 1) i v h
        rw [show k + 1 + i = k + (i + 1) by omega] at h2
        exact List.mem_cons_of_mem _ h2
    have two : a.category = 2 → (some a :: none :: mA (n - 2) vs)[i]? = some (some v) → (k + i, v) ∈ lv_args k (a :: vs) := by
      intro hc h
      show _ ∈ (k, a) :: lv_args (if a.category = 2 then k + 2 else k + 1) vs
      rw [if_pos hc]
      cases i with
      | zero => cases h; exact List.mem_cons_self
      | succ i =>
        cases i with
        | zero => cases h
        | succ i =>
          have h2 := ih (n - 2) (k + 2) i v h
          rw [show k + 2 + i = k + (i + 1 + 1) by omega] at h2
          exact List.mem_cons_of_mem _ h2
    cases a with
    | long x => exact two rfl h
    | double x => exact two rfl h
    | int x => exact one rfl h
    | float x => exact one rfl h
    | null => exact one rfl h
    | ref x => exact one rfl h
    | retAddr x => exact one rfl h
/-- an activation: program, launch, environment, room, state at its entry, method, arguments, frames below, method's row, code, aim, most new cells, most new slots, surroundings -/
abbrev mX : Type := Program × Env × Room × State × MethodId × Array Value × List Frame × Method × Code × (State → Prop) × Nat × Nat × mG
def V (X : mX) (bc bs pc : Nat) (L : List (Option Value)) (st : List Value) (M : mM) : Prop := match X with
  | (p, e, R, s, m, args, below, meth, c, Q, mc, ms, G) => ∀ (H : Heap) (locs : List Loc) (cells slots : Nat) (ls : Array Slot), mR G M H locs → cells + bc ≤ mc → slots + bs ≤ ms → mL ls L → W p G.1 e R s m args below meth c H locs cells slots Q (F0 m pc ls st)
/-- a method: its name, code, locals, answer, height -/
abbrev mI : Type := MethodName × ByteArray × Nat × Option FieldType × Nat
/-- what every row needs of an activation -/
def Cx (X : mX) (G : mG) (I : mI) : Prop := match X with
  | (p, _, R, s, m, args, _, meth, c, _, mc, ms, G') => G' = G ∧ p.tables.exec = Jvm.exec ∧ c.code = I.2.1 ∧ c.maxLocals = I.2.2.1 ∧ meth.sig.returnType = I.2.2.2.1 ∧ meth.locks = false ∧ s.vm.findClass I.1.cls = some m.cls ∧ (∀ w ∈ BIG, w.before args s = true) ∧ mK G s ∧ (I.2.2.2.2 ≤ R.frames ∧ 32 * I.2.2.2.2 ≤ R.locals ∧ mc ≤ R.cells ∧ ms ≤ R.slots) ∧ (I.1.name = "<init>" → meth.name = "<init>") ∧ va_S (mAf G.2.1) G.2.1 s.heap []
/-- what an activation aims at: to return with 'post' -/
def Rt (X : mX) (post : Option Value → mM → Prop) : Prop := match X with
  | (_, _, _, s, _, args, below, _, _, Q, mc, ms, G) => Q = MQ below (fun _ _ o t => ∃ r M', o = .returned r ∧ post r M' ∧ mR G M' t.heap []) args s mc ms (mAf G.2.1)
def mRoom (h mc ms : Nat) : Room := { frames := h, cells := mc, slots := ms, locals := 32 * h }
/-- a contract at given arguments and memory -/
def CC (G : mG) (I : mI) (mc ms : Nat) (As : List Value) (M : mM) (post : Option Value → mM → Prop) : Prop :=
  Met G.1 I.1 (.code I.1 I.2.1 I.2.2.1 I.2.2.2.1 :: BIG) (mRoom I.2.2.2.2 mc ms) (fun v U => v = As.toArray ∧ mR G M U.heap [] ∧ mK G U) (fun _ _ o t => ∃ r M', o = .returned r ∧ post r M' ∧ mR G M' t.heap []) mc ms (mAf G.2.1)
/-! rows of the layer: the lists that the kit's rows ask for -/
def mW (KA : Nat → ClassId) (M : mM) (n : Nat) (f : Nat → Bool) : va_W := (List.range n).filterMap (fun b => match M b with
  | some (t, e) => if t ≠ 0 ∧ f b = true then some (b, mv KA e) else none
  | none => none)
theorem mW_mem {KA : Nat → ClassId} {M : mM} {n : Nat} {f : Nat → Bool} {q : Nat × va_E} : q ∈ mW KA M n f ↔ q.1 < n ∧ f q.1 = true ∧ ∃ t e, M q.1 = some (t, e) ∧ t ≠ 0 ∧ q.2 = mv KA e := by
  unfold mW
  rw [List.mem_filterMap]
  constructor
  · rintro ⟨b, hb, h⟩
    cases hM : M b with
    | none => rw [hM] at h; cases h
    | some te =>
      obtain ⟨t, e⟩ := te
      rw [hM] at h
      by_cases hc : t ≠ 0 ∧ f b = true
      · simp only [if_pos hc] at h
        cases h
        exact ⟨List.mem_range.mp hb, hc.2, t, e, hM, hc.1, rfl⟩
      · simp only [if_neg hc] at h
        cases h
  · rintro ⟨h1, h2, t, e, h3, h4, h5⟩
    refine ⟨q.1, List.mem_range.mpr h1, ?_⟩
    rw [h3]
    simp only [if_pos (show t ≠ 0 ∧ f q.1 = true from ⟨h4, h2⟩)]
    rw [← h5]
theorem mW_pair (KA : Nat → ClassId) (M : mM) (n : Nat) (f : Nat → Bool) : (mW KA M n f).Pairwise (fun p q => p.1 ≠ q.1) := by
  unfold mW
  refine List.Pairwise.filterMap _ ?_ List.pairwise_lt_range
  intro a a' hlt b hb b' hb'
  have key : ∀ (x : Nat) (y : Nat × va_E), (match M x with
      | some (t, e) => if t ≠ 0 ∧ f x = true then some (x, mv KA e) else none
      | none => none) = some y → y.1 = x := by
    intro x y h
    cases hM : M x with
    | none => rw [hM] at h; cases h
    | some te =>
      obtain ⟨t, e⟩ := te
      rw [hM] at h
      by_cases hc : t ≠ 0 ∧ f x = true
      · simp only [if_pos hc] at h
        cases h
        rfl
      · simp only [if_neg hc] at h
        cases h
  rw [key a b hb, key a' b' hb']
  omega
theorem va_D_of {A : Nat → Prop} {ws : va_W} (h : ws.Pairwise (fun p q => p.1 ≠ q.1)) (hA : ∀ q ∈ ws, A q.1) : va_D A ws := by
  refine ⟨fun i j p q hi hj e => ?_, fun k q hk => hA q (List.mem_of_getElem? hk)⟩
  have key : ∀ (i j : Nat) (p q : Nat × va_E), i < j → ws[i]? = some p → ws[j]? = some q → p.1 ≠ q.1 := by
    intro i j p q hij hi hj
    obtain ⟨li, ei⟩ := List.getElem?_eq_some_iff.mp hi
    obtain ⟨lj, ej⟩ := List.getElem?_eq_some_iff.mp hj
    have := List.pairwise_iff_getElem.mp h i j li lj hij
    rw [ei, ej] at this
    exact this
  rcases Nat.lt_trichotomy i j with h1 | h1 | h1
  · exact absurd e (key i j p q h1 hi hj)
  · exact h1
  · exact absurd e.symm (key j i q p h1 hj hi)
theorem mW_P {G : mG} {M : mM} {H : Heap} {locs : List Loc} {n : Nat} {f : Nat → Bool} (h : mR G M H locs) : va_P G.2.2.1 vwCl (mW G.2.2.2.1 M n f) H := by
  intro k q hq
  obtain ⟨-, -, t, e, h1, -, h2⟩ := mW_mem.mp (List.mem_of_getElem? hq)
  have := h.1 q.1 t e h1
  rw [← h2] at this
  exact this
theorem mR.lt {G : mG} {M : mM} {H : Heap} {locs : List Loc} (h : mR G M H locs) {a t : Nat} {e : mE} (ha : M a = some (t, e)) : a < H.size := (h.1 a t e ha).lt
theorem mR.none {G : mG} {M : mM} {H : Heap} {locs : List Loc} (h : mR G M H locs) {a : Nat} (ha : H.size ≤ a) : M a = none := by
  cases hM : M a with
  | none => rfl
  | some te => exact absurd (h.lt (show M a = some (te.1, te.2) from hM)) (by omega)
theorem mW_D {G : mG} {M : mM} {H : Heap} {locs : List Loc} {n : Nat} {f : Nat → Bool} (h : mR G M H locs) : va_D (mAf G.2.1) (mW G.2.2.2.1 M n f) := by
  refine va_D_of (mW_pair _ _ _ _) fun q hq => ?_
  obtain ⟨-, -, t, e, h1, h2, -⟩ := mW_mem.mp hq
  have := (h.2.1 q.1 t e h1)
  show G.2.1.size ≤ q.1
  omega
/-- a cell, and all others that may be written -/
def mWx (G : mG) (M : mM) (H : Heap) (a : Nat) : va_W := mW G.2.2.2.1 M H.size (fun b => !(b == a))
theorem mWx_P {G : mG} {M : mM} {H : Heap} {locs : List Loc} {a t : Nat} {e : mE} (h : mR G M H locs) (ha : M a = some (t, e)) : va_P G.2.2.1 vwCl ((a, mv G.2.2.2.1 e) :: mWx G M H a) H := by
  intro k q hq
  cases k with
  | zero => cases hq; exact h.1 a t e ha
  | succ k => exact mW_P h k q hq
theorem mWx_D {G : mG} {M : mM} {H : Heap} {locs : List Loc} {a t : Nat} {e : mE} (h : mR G M H locs) (ha : M a = some (t, e)) (ht : t ≠ 0) (x : va_E) : va_D (mAf G.2.1) ((a, x) :: mWx G M H a) := by
  refine va_D_of (List.pairwise_cons.mpr ⟨fun q hq => ?_, mW_pair _ _ _ _⟩) fun q hq => ?_
  · have := (mW_mem.mp hq).2.1
    intro e
    simp only [Bool.not_eq_true', beq_eq_false_iff_ne] at this
    exact this e.symm
  · have key : ∀ b tb eb, M b = some (tb, eb) → tb ≠ 0 → mAf G.2.1 b := fun b tb eb h1 h2 => by
      have := h.2.1 b tb eb h1
      show G.2.1.size ≤ b
      omega
    rcases List.mem_cons.mp hq with rfl | hq
    · exact key a t e ha ht
    · obtain ⟨-, -, t', e', h1, h2, -⟩ := mW_mem.mp hq
      exact key _ _ _ h1 h2
theorem mR_put {G : mG} {M : mM} {H H1 : Heap} {locs locs1 : List Loc} {a t : Nat} {e e' : mE} (h : mR G M H locs) (ha : M a = some (t, e)) (hP : va_P G.2.2.1 vwCl ((a, mv G.2.2.2.1 e') :: mWx G M H a) H1) (hS : va_S (mAf G.2.1) G.2.1 H1 locs1) : mR G (mup M a (t, e')) H1 locs1 := by
  refine ⟨fun b tb eb hb => ?_, fun b tb eb hb => ?_, hS⟩
  · by_cases hba : b = a
    · subst hba
      rw [mup_s] at hb
      cases hb
      exact hP 0 _ rfl
    · rw [mup_n hba] at hb
      by_cases h0 : tb = 0
      · have hlt := (h.2.1 b tb eb hb).mp h0
        refine (h.1 b tb eb hb).kept ?_
        have hn : ¬ mAf G.2.1 b := by show ¬ G.2.1.size ≤ b; omega
        rw [hS.2.1 b hlt hn, h.2.2.2.1 b hlt hn]
      · have hm : (b, mv G.2.2.2.1 eb) ∈ mWx G M H a := mW_mem.mpr ⟨h.lt hb, by simpa using hba, tb, eb, hb, h0, rfl⟩
        obtain ⟨k, hk⟩ := List.mem_iff_getElem?.mp hm
        exact hP (k + 1) _ hk
  · by_cases hba : b = a
    · subst hba
      rw [mup_s] at hb
      cases hb
      exact h.2.1 b t e ha
    · rw [mup_n hba] at hb
      exact h.2.1 b tb eb hb
theorem mR_new {G : mG} {M : mM} {H H1 : Heap} {locs locs1 : List Loc} {q t : Nat} {e : mE} (h : mR G M H locs) (ht : t ≠ 0) (hP : va_P G.2.2.1 vwCl (mW G.2.2.2.1 M H.size (fun _ => true) ++ [(q, mv G.2.2.2.1 e)]) H1) (hD : va_D (mAf G.2.1) (mW G.2.2.2.1 M H.size (fun _ => true) ++ [(q, mv G.2.2.2.1 e)])) (hS : va_S (mAf G.2.1) G.2.1 H1 locs1) : M q = none ∧ G.2.1.size ≤ q ∧ mR G (mup M q (t, e)) H1 locs1 := by
  have hl : (mW G.2.2.2.1 M H.size (fun _ => true) ++ [(q, mv G.2.2.2.1 e)])[(mW G.2.2.2.1 M H.size (fun _ => true)).length]? = some (q, mv G.2.2.2.1 e) := by simp
  have hq : G.2.1.size ≤ q := hD.2 _ _ hl
  have inW : ∀ b tb eb, M b = some (tb, eb) → tb ≠ 0 → ∃ k : Nat, k < (mW G.2.2.2.1 M H.size (fun _ => true)).length ∧ (mW G.2.2.2.1 M H.size (fun _ => true) ++ [(q, mv G.2.2.2.1 e)])[k]? = some (b, mv G.2.2.2.1 eb) := by
    intro b tb eb hb h0
    have hm : (b, mv G.2.2.2.1 eb) ∈ mW G.2.2.2.1 M H.size (fun _ => true) := mW_mem.mpr ⟨h.lt hb, rfl, tb, eb, hb, h0, rfl⟩
    obtain ⟨k, hk⟩ := List.mem_iff_getElem?.mp hm
    have hlt : k < (mW G.2.2.2.1 M H.size (fun _ => true)).length := (List.getElem?_eq_some_iff.mp hk).1
    exact ⟨k, hlt, by rw [List.getElem?_append_left hlt]; exact hk⟩
  have hnone : M q = none := by
    cases hM : M q with
    | none => rfl
    | some te =>
      obtain ⟨tq, eq⟩ := te
      exfalso
      by_cases h0 : tq = 0
      · have := (h.2.1 q tq eq hM).mp h0
        omega
      · obtain ⟨k, hlt, hk⟩ := inW q tq eq hM h0
        have := hD.1 k _ _ _ hk hl rfl
        omega
  refine ⟨hnone, hq, fun b tb eb hb => ?_, fun b tb eb hb => ?_, hS⟩
  · by_cases hba : b = q
    · subst hba
      rw [mup_s] at hb
      cases hb
      exact hP _ _ hl
    · rw [mup_n hba] at hb
      by_cases h0 : tb = 0
      · have hlt := (h.2.1 b tb eb hb).mp h0
        refine (h.1 b tb eb hb).kept ?_
        have hn : ¬ mAf G.2.1 b := by show ¬ G.2.1.size ≤ b; omega
        rw [hS.2.1 b hlt hn, h.2.2.2.1 b hlt hn]
      · obtain ⟨k, hlt, hk⟩ := inW b tb eb hb h0
        exact hP k _ hk
  · by_cases hba : b = q
    · subst hba
      rw [mup_s] at hb
      cases hb
      constructor
      · intro h1; exact absurd h1 ht
      · intro h1; omega
    · rw [mup_n hba] at hb
      exact h.2.1 b tb eb hb
/-- a cell's ghost tag may change -/
theorem mR_tag {G : mG} {M : mM} {H : Heap} {locs : List Loc} {a t t' : Nat} {e : mE} (h : mR G M H locs) (ha : M a = some (t, e)) (ht : t ≠ 0) (ht' : t' ≠ 0) : mR G (mup M a (t', e)) H locs := by
  refine ⟨fun b tb eb hb => ?_, fun b tb eb hb => ?_, h.2.2⟩
  · by_cases hba : b = a
    · subst hba
      rw [mup_s] at hb
      cases hb
      exact h.1 b t e ha
    · rw [mup_n hba] at hb
      exact h.1 b tb eb hb
  · by_cases hba : b = a
    · subst hba
      rw [mup_s] at hb
      cases hb
      have := h.2.1 b t e ha
      constructor
      · intro h1; exact absurd h1 ht'
      · intro h1; exact absurd (this.mpr h1) ht
    · rw [mup_n hba] at hb
      exact h.2.1 b tb eb hb
theorem mR.ret {G : mG} {M : mM} {H : Heap} {locs : List Loc} (h : mR G M H locs) : mR G M H [] := ⟨h.1, h.2.1, h.2.2.1, h.2.2.2.1, fun l hl => by cases hl⟩
/-- a contract out of the walk of its body -/
theorem CC.of {G : mG} {I : mI} {mc ms : Nat} {As : List Value} {M : mM} {post : Option Value → mM → Prop} (hy : plainName I.1.cls = true) (hlen : (lg_sl As).length ≤ I.2.2.1) (hA : (mA I.2.2.1 As).length = I.2.2.1)
    (body : ∀ X : mX, Cx X G I → Rt X post → V X mc ms 0 (mA I.2.2.1 As) [] M) : CC G I mc ms As M post := by
  refine Met.ofW (cc := I.2.1) (maxL := I.2.2.1) (ret := I.2.2.2.1) hy rfl ?_
  intro p e s m args below meth c s₁ B hml hv
  obtain ⟨rfl, hR, hK⟩ := hv
  have hts0 := atoms_spec (ws := .code I.1 I.2.1 I.2.2.1 I.2.2.2.1 :: BIG) B.pre
  rw [lg_entry_eq]
  have hl := lv_entry As hlen
  have hl2 : mL ((lg_sl As ++ List.replicate (I.2.2.1 - (lg_sl As).length) Slot.unset).toArray) (mA I.2.2.1 As) := by
    unfold mL
    rw [hA]
    refine ⟨hl.1, hl.2.1, fun q hq => hl.2.2 q ?_⟩
    have := mA_in As I.2.2.1 0 q.1 q.2 (mP_mem.mp hq)
    rw [Nat.zero_add] at this
    exact this
  exact body (p, e, (headSpec (.code I.1 I.2.1 I.2.2.1 I.2.2.2.1 :: BIG) (mRoom I.2.2.2.2 mc ms)).room, s, m, As.toArray, below, meth, c, MQ below (fun _ _ o t => ∃ r M', o = .returned r ∧ post r M' ∧ mR G M' t.heap []) As.toArray s mc ms (mAf G.2.1), mc, ms, G)
    ⟨rfl, B.exec, B.bytes, hml, B.returns, B.notSynchronized, findClass_of_methodNamed B.named, fun w hw => hts0 w (List.mem_cons_of_mem _ hw), hK, ⟨Nat.le_refl _, Nat.le_refl _, Nat.le_refl _, Nat.le_refl _⟩, fun hn => (name_of_methodNamed B.named B.method).1.trans hn, hR.2.2⟩ rfl
    s.heap [] 0 0 _ hR (by omega) (by omega) hl2
theorem CC.mono {G : mG} {I : mI} {mc ms : Nat} {As : List Value} {M : mM} {post post' : Option Value → mM → Prop} (h : CC G I mc ms As M post) (hp : ∀ r M', post r M' → post' r M') : CC G I mc ms As M post' := by
  intro p e ha hc hk s m args below hf hap hP ht
  obtain ⟨k, o, h1, h2, h3, ⟨⟨r, M', e1, e2, e3⟩, h5⟩⟩ := h p e ha hc hk s m args below hf hap hP ht
  exact ⟨k, o, h1, h2, h3, ⟨⟨r, M', e1, hp r M' e2, e3⟩, h5⟩⟩
theorem V.widen {X : mX} {bc bs bc' bs' pc : Nat} {L : List (Option Value)} {st : List Value} {M : mM} (h1 : bc' ≤ bc) (h2 : bs' ≤ bs) (k : V X bc' bs' pc L st M) : V X bc bs pc L st M := by
  obtain ⟨p, e, R, s, m, args, below, meth, c, Q, mc, ms, G⟩ := X
  intro H locs cells slots ls hR hc hs hl
  exact k H locs cells slots ls hR (by omega) (by omega) hl
section RWS
theorem s_iload_n {X : mX} {G : mG} {I : mI} (C : Cx X G I) {bc bs pc : Nat} (q : Nat) {L : List (Option Value)} {st : List Value} {M : mM} {k : Fin 4} {x : Int32} (d : decode I.2.1 pc = .ok (.iload_n k, 1)) (e : pc + 1 = q) (hg : L[(k : Nat)]? = some (some (.int x))) (k : V X bc bs q L (.int x :: st) M) : V X bc bs pc L (st) M := by
  obtain ⟨p, e0, R, s, m, args, below, meth, c, Q, mc, ms, G'⟩ := X
  obtain ⟨rfl, hx, hb, hml, hr, hlk, hown, hts, hK, hroom, hini, hS0⟩ := C
  subst e
  intro H locs cells slots ls hR hc hs hl
  exact lv_iload_n hx hb d rfl (mL_get hl hg) (k H locs cells slots ls hR hc hs hl)
theorem s_iload {X : mX} {G : mG} {I : mI} (C : Cx X G I) {bc bs pc : Nat} (q : Nat) {L : List (Option Value)} {st : List Value} {M : mM} {i : Nat} {x : Int32} (d : decode I.2.1 pc = .ok (.iload i, 2)) (e : pc + 2 = q) (hg : L[i]? = some (some (.int x))) (k : V X bc bs q L (.int x :: st) M) : V X bc bs pc L (st) M := by
  obtain ⟨p, e0, R, s, m, args, below, meth, c, Q, mc, ms, G'⟩ := X
  obtain ⟨rfl, hx, hb, hml, hr, hlk, hown, hts, hK, hroom, hini, hS0⟩ := C
  subst e
  intro H locs cells slots ls hR hc hs hl
  exact lv_iload hx hb d (mL_get hl hg) (k H locs cells slots ls hR hc hs hl)
theorem s_lload_n {X : mX} {G : mG} {I : mI} (C : Cx X G I) {bc bs pc : Nat} (q : Nat) {L : List (Option Value)} {st : List Value} {M : mM} {k : Fin 4} {x : Int64} (d : decode I.2.1 pc = .ok (.lload_n k, 1)) (e : pc + 1 = q) (hg : L[(k : Nat)]? = some (some (.long x))) (k : V X bc bs q L (.long x :: st) M) : V X bc bs pc L (st) M := by
  obtain ⟨p, e0, R, s, m, args, below, meth, c, Q, mc, ms, G'⟩ := X
  obtain ⟨rfl, hx, hb, hml, hr, hlk, hown, hts, hK, hroom, hini, hS0⟩ := C
  subst e
  intro H locs cells slots ls hR hc hs hl
  exact lv_lload_n hx hb d rfl (mL_get hl hg) (k H locs cells slots ls hR hc hs hl)
theorem s_lload {X : mX} {G : mG} {I : mI} (C : Cx X G I) {bc bs pc : Nat} (q : Nat) {L : List (Option Value)} {st : List Value} {M : mM} {i : Nat} {x : Int64} (d : decode I.2.1 pc = .ok (.lload i, 2)) (e : pc + 2 = q) (hg : L[i]? = some (some (.long x))) (k : V X bc bs q L (.long x :: st) M) : V X bc bs pc L (st) M := by
  obtain ⟨p, e0, R, s, m, args, below, meth, c, Q, mc, ms, G'⟩ := X
  obtain ⟨rfl, hx, hb, hml, hr, hlk, hown, hts, hK, hroom, hini, hS0⟩ := C
  subst e
  intro H locs cells slots ls hR hc hs hl
  exact lv_lload hx hb d (mL_get hl hg) (k H locs cells slots ls hR hc hs hl)
theorem s_aload_n {X : mX} {G : mG} {I : mI} (C : Cx X G I) {bc bs pc : Nat} (q : Nat) {L : List (Option Value)} {st : List Value} {M : mM} {k : Fin 4} {x : Nat} (d : decode I.2.1 pc = .ok (.aload_n k, 1)) (e : pc + 1 = q) (hg : L[(k : Nat)]? = some (some (.ref x))) (k : V X bc bs q L (.ref x :: st) M) : V X bc bs pc L (st) M := by
  obtain ⟨p, e0, R, s, m, args, below, meth, c, Q, mc, ms, G'⟩ := X
  obtain ⟨rfl, hx, hb, hml, hr, hlk, hown, hts, hK, hroom, hini, hS0⟩ := C
  subst e
  intro H locs cells slots ls hR hc hs hl
  exact lv_aload_n hx hb d rfl (mL_get hl hg) (k H locs cells slots ls hR hc hs hl)
theorem s_aload {X : mX} {G : mG} {I : mI} (C : Cx X G I) {bc bs pc : Nat} (q : Nat) {L : List (Option Value)} {st : List Value} {M : mM} {i : Nat} {x : Nat} (d : decode I.2.1 pc = .ok (.aload i, 2)) (e : pc + 2 = q) (hg : L[i]? = some (some (.ref x))) (k : V X bc bs q L (.ref x :: st) M) : V X bc bs pc L (st) M := by
  obtain ⟨p, e0, R, s, m, args, below, meth, c, Q, mc, ms, G'⟩ := X
  obtain ⟨rfl, hx, hb, hml, hr, hlk, hown, hts, hK, hroom, hini, hS0⟩ := C
  subst e
  intro H locs cells slots ls hR hc hs hl
  exact lv_aload hx hb d (mL_get hl hg) (k H locs cells slots ls hR hc hs hl)
theorem s_aload_nN {X : mX} {G : mG} {I : mI} (C : Cx X G I) {bc bs pc : Nat} (q : Nat) {L : List (Option Value)} {st : List Value} {M : mM} {k : Fin 4} (d : decode I.2.1 pc = .ok (.aload_n k, 1)) (e : pc + 1 = q) (hg : L[(k : Nat)]? = some (some .null)) (k : V X bc bs q L (.null :: st) M) : V X bc bs pc L (st) M := by
  obtain ⟨p, e0, R, s, m, args, below, meth, c, Q, mc, ms, G'⟩ := X
  obtain ⟨rfl, hx, hb, hml, hr, hlk, hown, hts, hK, hroom, hini, hS0⟩ := C
  subst e
  intro H locs cells slots ls hR hc hs hl
  exact lv_aload_nN hx hb d rfl (mL_get hl hg) (k H locs cells slots ls hR hc hs hl)
theorem s_iconst {X : mX} {G : mG} {I : mI} (C : Cx X G I) {bc bs pc : Nat} (q : Nat) {L : List (Option Value)} {st : List Value} {M : mM} {n : Int} (v : Int32) (d : decode I.2.1 pc = .ok (.iconst n, 1)) (e : pc + 1 = q) (hv : Int32.ofInt n = v) (k : V X bc bs q L (.int v :: st) M) : V X bc bs pc L (st) M := by
  obtain ⟨p, e0, R, s, m, args, below, meth, c, Q, mc, ms, G'⟩ := X
  obtain ⟨rfl, hx, hb, hml, hr, hlk, hown, hts, hK, hroom, hini, hS0⟩ := C
  subst e
  intro H locs cells slots ls hR hc hs hl
  exact lv_iconst hx hb d hv (k H locs cells slots ls hR hc hs hl)
theorem s_bipush {X : mX} {G : mG} {I : mI} (C : Cx X G I) {bc bs pc : Nat} (q : Nat) {L : List (Option Value)} {st : List Value} {M : mM} {n : Int} (v : Int32) (d : decode I.2.1 pc = .ok (.bipush n, 2)) (e : pc + 2 = q) (hv : (Int8.ofInt n).toInt32 = v) (k : V X bc bs q L (.int v :: st) M) : V X bc bs pc L (st) M := by
  obtain ⟨p, e0, R, s, m, args, below, meth, c, Q, mc, ms, G'⟩ := X
  obtain ⟨rfl, hx, hb, hml, hr, hlk, hown, hts, hK, hroom, hini, hS0⟩ := C
  subst e
  intro H locs cells slots ls hR hc hs hl
  exact lv_bipush hx hb d hv (k H locs cells slots ls hR hc hs hl)
theorem s_sipush {X : mX} {G : mG} {I : mI} (C : Cx X G I) {bc bs pc : Nat} (q : Nat) {L : List (Option Value)} {st : List Value} {M : mM} {n : Int} (v : Int32) (d : decode I.2.1 pc = .ok (.sipush n, 3)) (e : pc + 3 = q) (hv : (Int16.ofInt n).toInt32 = v) (k : V X bc bs q L (.int v :: st) M) : V X bc bs pc L (st) M := by
  obtain ⟨p, e0, R, s, m, args, below, meth, c, Q, mc, ms, G'⟩ := X
  obtain ⟨rfl, hx, hb, hml, hr, hlk, hown, hts, hK, hroom, hini, hS0⟩ := C
  subst e
  intro H locs cells slots ls hR hc hs hl
  exact lv_sipush hx hb d hv (k H locs cells slots ls hR hc hs hl)
theorem s_lconst {X : mX} {G : mG} {I : mI} (C : Cx X G I) {bc bs pc : Nat} (q : Nat) {L : List (Option Value)} {st : List Value} {M : mM} {n : Fin 2} (v : Int64) (d : decode I.2.1 pc = .ok (.lconst n, 1)) (e : pc + 1 = q) (hv : Int64.ofNat (n : Nat) = v) (k : V X bc bs q L (.long v :: st) M) : V X bc bs pc L (st) M := by
  obtain ⟨p, e0, R, s, m, args, below, meth, c, Q, mc, ms, G'⟩ := X
  obtain ⟨rfl, hx, hb, hml, hr, hlk, hown, hts, hK, hroom, hini, hS0⟩ := C
  subst e
  intro H locs cells slots ls hR hc hs hl
  exact lv_lconst hx hb d hv (k H locs cells slots ls hR hc hs hl)
theorem s_null {X : mX} {G : mG} {I : mI} (C : Cx X G I) {bc bs pc : Nat} (q : Nat) {L : List (Option Value)} {st : List Value} {M : mM}  (d : decode I.2.1 pc = .ok (.aconst_null, 1)) (e : pc + 1 = q)  (k : V X bc bs q L (.null :: st) M) : V X bc bs pc L (st) M := by
  obtain ⟨p, e0, R, s, m, args, below, meth, c, Q, mc, ms, G'⟩ := X
  obtain ⟨rfl, hx, hb, hml, hr, hlk, hown, hts, hK, hroom, hini, hS0⟩ := C
  subst e
  intro H locs cells slots ls hR hc hs hl
  exact lv_null hx hb d (k H locs cells slots ls hR hc hs hl)
theorem s_iadd {X : mX} {G : mG} {I : mI} (C : Cx X G I) {bc bs pc : Nat} (q : Nat) {L : List (Option Value)} {st : List Value} {M : mM} {x y : Int32} (d : decode I.2.1 pc = .ok (.iadd, 1)) (e : pc + 1 = q)  (k : V X bc bs q L (.int (x + y) :: st) M) : V X bc bs pc L (.int y :: .int x :: st) M := by
  obtain ⟨p, e0, R, s, m, args, below, meth, c, Q, mc, ms, G'⟩ := X
  obtain ⟨rfl, hx, hb, hml, hr, hlk, hown, hts, hK, hroom, hini, hS0⟩ := C
  subst e
  intro H locs cells slots ls hR hc hs hl
  exact lv_iadd hx hb d (k H locs cells slots ls hR hc hs hl)
theorem s_isub {X : mX} {G : mG} {I : mI} (C : Cx X G I) {bc bs pc : Nat} (q : Nat) {L : List (Option Value)} {st : List Value} {M : mM} {x y : Int32} (d : decode I.2.1 pc = .ok (.isub, 1)) (e : pc + 1 = q)  (k : V X bc bs q L (.int (x - y) :: st) M) : V X bc bs pc L (.int y :: .int x :: st) M := by
  obtain ⟨p, e0, R, s, m, args, below, meth, c, Q, mc, ms, G'⟩ := X
  obtain ⟨rfl, hx, hb, hml, hr, hlk, hown, hts, hK, hroom, hini, hS0⟩ := C
  subst e
  intro H locs cells slots ls hR hc hs hl
  exact lv_isub hx hb d (k H locs cells slots ls hR hc hs hl)
theorem s_imul {X : mX} {G : mG} {I : mI} (C : Cx X G I) {bc bs pc : Nat} (q : Nat) {L : List (Option Value)} {st : List Value} {M : mM} {x y : Int32} (d : decode I.2.1 pc = .ok (.imul, 1)) (e : pc + 1 = q)  (k : V X bc bs q L (.int (x * y) :: st) M) : V X bc bs pc L (.int y :: .int x :: st) M := by
  obtain ⟨p, e0, R, s, m, args, below, meth, c, Q, mc, ms, G'⟩ := X
  obtain ⟨rfl, hx, hb, hml, hr, hlk, hown, hts, hK, hroom, hini, hS0⟩ := C
  subst e
  intro H locs cells slots ls hR hc hs hl
  exact lv_imul hx hb d (k H locs cells slots ls hR hc hs hl)
theorem s_iand {X : mX} {G : mG} {I : mI} (C : Cx X G I) {bc bs pc : Nat} (q : Nat) {L : List (Option Value)} {st : List Value} {M : mM} {x y : Int32} (d : decode I.2.1 pc = .ok (.iand, 1)) (e : pc + 1 = q)  (k : V X bc bs q L (.int (x &&& y) :: st) M) : V X bc bs pc L (.int y :: .int x :: st) M := by
  obtain ⟨p, e0, R, s, m, args, below, meth, c, Q, mc, ms, G'⟩ := X
  obtain ⟨rfl, hx, hb, hml, hr, hlk, hown, hts, hK, hroom, hini, hS0⟩ := C
  subst e
  intro H locs cells slots ls hR hc hs hl
  exact lv_iand hx hb d (k H locs cells slots ls hR hc hs hl)
theorem s_ior {X : mX} {G : mG} {I : mI} (C : Cx X G I) {bc bs pc : Nat} (q : Nat) {L : List (Option Value)} {st : List Value} {M : mM} {x y : Int32} (d : decode I.2.1 pc = .ok (.ior, 1)) (e : pc + 1 = q)  (k : V X bc bs q L (.int (x ||| y) :: st) M) : V X bc bs pc L (.int y :: .int x :: st) M := by
  obtain ⟨p, e0, R, s, m, args, below, meth, c, Q, mc, ms, G'⟩ := X
  obtain ⟨rfl, hx, hb, hml, hr, hlk, hown, hts, hK, hroom, hini, hS0⟩ := C
  subst e
  intro H locs cells slots ls hR hc hs hl
  exact lv_ior hx hb d (k H locs cells slots ls hR hc hs hl)
theorem s_ishl {X : mX} {G : mG} {I : mI} (C : Cx X G I) {bc bs pc : Nat} (q : Nat) {L : List (Option Value)} {st : List Value} {M : mM} {x y : Int32} (d : decode I.2.1 pc = .ok (.ishl, 1)) (e : pc + 1 = q)  (k : V X bc bs q L (.int (x <<< (y &&& 31)) :: st) M) : V X bc bs pc L (.int y :: .int x :: st) M := by
  obtain ⟨p, e0, R, s, m, args, below, meth, c, Q, mc, ms, G'⟩ := X
  obtain ⟨rfl, hx, hb, hml, hr, hlk, hown, hts, hK, hroom, hini, hS0⟩ := C
  subst e
  intro H locs cells slots ls hR hc hs hl
  exact lv_ishl hx hb d (k H locs cells slots ls hR hc hs hl)
theorem s_ishr {X : mX} {G : mG} {I : mI} (C : Cx X G I) {bc bs pc : Nat} (q : Nat) {L : List (Option Value)} {st : List Value} {M : mM} {x y : Int32} (d : decode I.2.1 pc = .ok (.ishr, 1)) (e : pc + 1 = q)  (k : V X bc bs q L (.int (x >>> (y &&& 31)) :: st) M) : V X bc bs pc L (.int y :: .int x :: st) M := by
  obtain ⟨p, e0, R, s, m, args, below, meth, c, Q, mc, ms, G'⟩ := X
  obtain ⟨rfl, hx, hb, hml, hr, hlk, hown, hts, hK, hroom, hini, hS0⟩ := C
  subst e
  intro H locs cells slots ls hR hc hs hl
  exact lv_ishr hx hb d (k H locs cells slots ls hR hc hs hl)
theorem s_ladd {X : mX} {G : mG} {I : mI} (C : Cx X G I) {bc bs pc : Nat} (q : Nat) {L : List (Option Value)} {st : List Value} {M : mM} {x y : Int64} (d : decode I.2.1 pc = .ok (.ladd, 1)) (e : pc + 1 = q)  (k : V X bc bs q L (.long (x + y) :: st) M) : V X bc bs pc L (.long y :: .long x :: st) M := by
  obtain ⟨p, e0, R, s, m, args, below, meth, c, Q, mc, ms, G'⟩ := X
  obtain ⟨rfl, hx, hb, hml, hr, hlk, hown, hts, hK, hroom, hini, hS0⟩ := C
  subst e
  intro H locs cells slots ls hR hc hs hl
  exact lv_ladd hx hb d (k H locs cells slots ls hR hc hs hl)
theorem s_lmul {X : mX} {G : mG} {I : mI} (C : Cx X G I) {bc bs pc : Nat} (q : Nat) {L : List (Option Value)} {st : List Value} {M : mM} {x y : Int64} (d : decode I.2.1 pc = .ok (.lmul, 1)) (e : pc + 1 = q)  (k : V X bc bs q L (.long (x * y) :: st) M) : V X bc bs pc L (.long y :: .long x :: st) M := by
  obtain ⟨p, e0, R, s, m, args, below, meth, c, Q, mc, ms, G'⟩ := X
  obtain ⟨rfl, hx, hb, hml, hr, hlk, hown, hts, hK, hroom, hini, hS0⟩ := C
  subst e
  intro H locs cells slots ls hR hc hs hl
  exact lv_lmul hx hb d (k H locs cells slots ls hR hc hs hl)
theorem s_land {X : mX} {G : mG} {I : mI} (C : Cx X G I) {bc bs pc : Nat} (q : Nat) {L : List (Option Value)} {st : List Value} {M : mM} {x y : Int64} (d : decode I.2.1 pc = .ok (.land, 1)) (e : pc + 1 = q)  (k : V X bc bs q L (.long (x &&& y) :: st) M) : V X bc bs pc L (.long y :: .long x :: st) M := by
  obtain ⟨p, e0, R, s, m, args, below, meth, c, Q, mc, ms, G'⟩ := X
  obtain ⟨rfl, hx, hb, hml, hr, hlk, hown, hts, hK, hroom, hini, hS0⟩ := C
  subst e
  intro H locs cells slots ls hR hc hs hl
  exact lv_land hx hb d (k H locs cells slots ls hR hc hs hl)
theorem s_irem {X : mX} {G : mG} {I : mI} (C : Cx X G I) {bc bs pc : Nat} (q : Nat) {L : List (Option Value)} {st : List Value} {M : mM} {x y : Int32} (d : decode I.2.1 pc = .ok (.irem, 1)) (e : pc + 1 = q) (hne : ¬ y = 0) (k : V X bc bs q L (.int (x - x / y * y) :: st) M) : V X bc bs pc L (.int y :: .int x :: st) M := by
  obtain ⟨p, e0, R, s, m, args, below, meth, c, Q, mc, ms, G'⟩ := X
  obtain ⟨rfl, hx, hb, hml, hr, hlk, hown, hts, hK, hroom, hini, hS0⟩ := C
  subst e
  intro H locs cells slots ls hR hc hs hl
  exact lv_irem hx hb d hne (k H locs cells slots ls hR hc hs hl)
theorem s_i2l {X : mX} {G : mG} {I : mI} (C : Cx X G I) {bc bs pc : Nat} (q : Nat) {L : List (Option Value)} {st : List Value} {M : mM} {x : Int32} (d : decode I.2.1 pc = .ok (.i2l, 1)) (e : pc + 1 = q)  (k : V X bc bs q L (.long x.toInt64 :: st) M) : V X bc bs pc L (.int x :: st) M := by
  obtain ⟨p, e0, R, s, m, args, below, meth, c, Q, mc, ms, G'⟩ := X
  obtain ⟨rfl, hx, hb, hml, hr, hlk, hown, hts, hK, hroom, hini, hS0⟩ := C
  subst e
  intro H locs cells slots ls hR hc hs hl
  exact lv_i2l hx hb d rfl (k H locs cells slots ls hR hc hs hl)
theorem s_l2i {X : mX} {G : mG} {I : mI} (C : Cx X G I) {bc bs pc : Nat} (q : Nat) {L : List (Option Value)} {st : List Value} {M : mM} {x : Int64} (d : decode I.2.1 pc = .ok (.l2i, 1)) (e : pc + 1 = q)  (k : V X bc bs q L (.int x.toInt32 :: st) M) : V X bc bs pc L (.long x :: st) M := by
  obtain ⟨p, e0, R, s, m, args, below, meth, c, Q, mc, ms, G'⟩ := X
  obtain ⟨rfl, hx, hb, hml, hr, hlk, hown, hts, hK, hroom, hini, hS0⟩ := C
  subst e
  intro H locs cells slots ls hR hc hs hl
  exact lv_l2i hx hb d rfl (k H locs cells slots ls hR hc hs hl)
theorem s_i2c {X : mX} {G : mG} {I : mI} (C : Cx X G I) {bc bs pc : Nat} (q : Nat) {L : List (Option Value)} {st : List Value} {M : mM} {x v : Int32} (d : decode I.2.1 pc = .ok (.i2c, 1)) (e : pc + 1 = q) (hv : (x.toUInt32 % 65536).toInt32 = v) (k : V X bc bs q L (.int v :: st) M) : V X bc bs pc L (.int x :: st) M := by
  obtain ⟨p, e0, R, s, m, args, below, meth, c, Q, mc, ms, G'⟩ := X
  obtain ⟨rfl, hx, hb, hml, hr, hlk, hown, hts, hK, hroom, hini, hS0⟩ := C
  subst e
  intro H locs cells slots ls hR hc hs hl
  exact lv_i2c hx hb d hv (k H locs cells slots ls hR hc hs hl)
theorem s_lshr {X : mX} {G : mG} {I : mI} (C : Cx X G I) {bc bs pc : Nat} (q : Nat) {L : List (Option Value)} {st : List Value} {M : mM} {x : Int64} {y : Int32} (d : decode I.2.1 pc = .ok (.lshr, 1)) (e : pc + 1 = q)  (k : V X bc bs q L (.long (x >>> (y.toInt64 &&& 63)) :: st) M) : V X bc bs pc L (.int y :: .long x :: st) M := by
  obtain ⟨p, e0, R, s, m, args, below, meth, c, Q, mc, ms, G'⟩ := X
  obtain ⟨rfl, hx, hb, hml, hr, hlk, hown, hts, hK, hroom, hini, hS0⟩ := C
  subst e
  intro H locs cells slots ls hR hc hs hl
  exact lv_lshr hx hb d rfl (k H locs cells slots ls hR hc hs hl)
theorem s_lcmp {X : mX} {G : mG} {I : mI} (C : Cx X G I) {bc bs pc : Nat} (q : Nat) {L : List (Option Value)} {st : List Value} {M : mM} {x y : Int64} (d : decode I.2.1 pc = .ok (.lcmp, 1)) (e : pc + 1 = q)  (k : V X bc bs q L (.int (lg_cmp x y) :: st) M) : V X bc bs pc L (.long y :: .long x :: st) M := by
  obtain ⟨p, e0, R, s, m, args, below, meth, c, Q, mc, ms, G'⟩ := X
  obtain ⟨rfl, hx, hb, hml, hr, hlk, hown, hts, hK, hroom, hini, hS0⟩ := C
  subst e
  intro H locs cells slots ls hR hc hs hl
  exact W.lcmp hx hb d (k H locs cells slots ls hR hc hs hl)
theorem s_iaddN {X : mX} {G : mG} {I : mI} (C : Cx X G I) {bc bs pc : Nat} (q : Nat) {L : List (Option Value)} {st : List Value} {M : mM} {a b : Nat} (d : decode I.2.1 pc = .ok (.iadd, 1)) (e : pc + 1 = q)  (k : V X bc bs q L (.int (nI (a + b)) :: st) M) : V X bc bs pc L (.int (nI b) :: .int (nI a) :: st) M := by
  obtain ⟨p, e0, R, s, m, args, below, meth, c, Q, mc, ms, G'⟩ := X
  obtain ⟨rfl, hx, hb, hml, hr, hlk, hown, hts, hK, hroom, hini, hS0⟩ := C
  subst e
  intro H locs cells slots ls hR hc hs hl
  exact lv_iadd hx hb d (by rw [nI_add]; exact k H locs cells slots ls hR hc hs hl)
theorem s_isubN {X : mX} {G : mG} {I : mI} (C : Cx X G I) {bc bs pc : Nat} (q : Nat) {L : List (Option Value)} {st : List Value} {M : mM} {a b : Nat} (d : decode I.2.1 pc = .ok (.isub, 1)) (e : pc + 1 = q) (hle : b ≤ a) (k : V X bc bs q L (.int (nI (a - b)) :: st) M) : V X bc bs pc L (.int (nI b) :: .int (nI a) :: st) M := by
  obtain ⟨p, e0, R, s, m, args, below, meth, c, Q, mc, ms, G'⟩ := X
  obtain ⟨rfl, hx, hb, hml, hr, hlk, hown, hts, hK, hroom, hini, hS0⟩ := C
  subst e
  intro H locs cells slots ls hR hc hs hl
  exact lv_isub hx hb d (by rw [pk_sub hle]; exact k H locs cells slots ls hR hc hs hl)
theorem s_imulN {X : mX} {G : mG} {I : mI} (C : Cx X G I) {bc bs pc : Nat} (q : Nat) {L : List (Option Value)} {st : List Value} {M : mM} {a b : Nat} (d : decode I.2.1 pc = .ok (.imul, 1)) (e : pc + 1 = q)  (k : V X bc bs q L (.int (nI (a * b)) :: st) M) : V X bc bs pc L (.int (nI b) :: .int (nI a) :: st) M := by
  obtain ⟨p, e0, R, s, m, args, below, meth, c, Q, mc, ms, G'⟩ := X
  obtain ⟨rfl, hx, hb, hml, hr, hlk, hown, hts, hK, hroom, hini, hS0⟩ := C
  subst e
  intro H locs cells slots ls hR hc hs hl
  exact lv_imul hx hb d (by rw [pk_mul]; exact k H locs cells slots ls hR hc hs hl)
theorem s_dup {X : mX} {G : mG} {I : mI} (C : Cx X G I) {bc bs pc : Nat} (q : Nat) {L : List (Option Value)} {st : List Value} {M : mM} {va : Value} (d : decode I.2.1 pc = .ok (.dup, 1)) (e : pc + 1 = q) (hv : va.category = 1) (k : V X bc bs q L (va :: va :: st) M) : V X bc bs pc L (va :: st) M := by
  obtain ⟨p, e0, R, s, m, args, below, meth, c, Q, mc, ms, G'⟩ := X
  obtain ⟨rfl, hx, hb, hml, hr, hlk, hown, hts, hK, hroom, hini, hS0⟩ := C
  subst e
  intro H locs cells slots ls hR hc hs hl
  exact lv_dup hx hb d hv (k H locs cells slots ls hR hc hs hl)
theorem s_pop {X : mX} {G : mG} {I : mI} (C : Cx X G I) {bc bs pc : Nat} (q : Nat) {L : List (Option Value)} {st : List Value} {M : mM} {va : Value} (d : decode I.2.1 pc = .ok (.pop, 1)) (e : pc + 1 = q) (hv : va.category = 1) (k : V X bc bs q L (st) M) : V X bc bs pc L (va :: st) M := by
  obtain ⟨p, e0, R, s, m, args, below, meth, c, Q, mc, ms, G'⟩ := X
  obtain ⟨rfl, hx, hb, hml, hr, hlk, hown, hts, hK, hroom, hini, hS0⟩ := C
  subst e
  intro H locs cells slots ls hR hc hs hl
  exact lv_pop hx hb d hv (k H locs cells slots ls hR hc hs hl)
theorem s_dup_x1 {X : mX} {G : mG} {I : mI} (C : Cx X G I) {bc bs pc : Nat} (q : Nat) {L : List (Option Value)} {st : List Value} {M : mM} {va vb : Value} (d : decode I.2.1 pc = .ok (.dup_x1, 1)) (e : pc + 1 = q) (hv : va.category = 1) (hw : vb.category = 1) (k : V X bc bs q L (va :: vb :: va :: st) M) : V X bc bs pc L (va :: vb :: st) M := by
  obtain ⟨p, e0, R, s, m, args, below, meth, c, Q, mc, ms, G'⟩ := X
  obtain ⟨rfl, hx, hb, hml, hr, hlk, hown, hts, hK, hroom, hini, hS0⟩ := C
  subst e
  intro H locs cells slots ls hR hc hs hl
  exact lv_dup_x1 hx hb d hv hw (k H locs cells slots ls hR hc hs hl)
theorem s_dup2 {X : mX} {G : mG} {I : mI} (C : Cx X G I) {bc bs pc : Nat} (q : Nat) {L : List (Option Value)} {st : List Value} {M : mM} {va vb : Value} (d : decode I.2.1 pc = .ok (.dup2, 1)) (e : pc + 1 = q) (hv : va.category = 1) (hw : vb.category = 1) (k : V X bc bs q L (va :: vb :: va :: vb :: st) M) : V X bc bs pc L (va :: vb :: st) M := by
  obtain ⟨p, e0, R, s, m, args, below, meth, c, Q, mc, ms, G'⟩ := X
  obtain ⟨rfl, hx, hb, hml, hr, hlk, hown, hts, hK, hroom, hini, hS0⟩ := C
  subst e
  intro H locs cells slots ls hR hc hs hl
  exact lv_dup2_11 hx hb d hv hw (k H locs cells slots ls hR hc hs hl)
theorem s_goto {X : mX} {G : mG} {I : mI} (C : Cx X G I) {bc bs pc : Nat} (q : Nat) {L : List (Option Value)} {st : List Value} {M : mM} {off : Int} (d : decode I.2.1 pc = .ok (.goto off, 3)) (e : (pc : Int) + off = (q : Int)) (k : V X bc bs q L st M) : V X bc bs pc L st M := by
  obtain ⟨p, e0, R, s, m, args, below, meth, c, Q, mc, ms, G'⟩ := X
  obtain ⟨rfl, hx, hb, hml, hr, hlk, hown, hts, hK, hroom, hini, hS0⟩ := C
  intro H locs cells slots ls hR hc hs hl
  exact lv_goto hx hb d e (k H locs cells slots ls hR hc hs hl)
theorem s_icmp_lt {X : mX} {G : mG} {I : mI} (C : Cx X G I) {bc bs pc : Nat} (t q : Nat) {L : List (Option Value)} {st : List Value} {M : mM} {x y : Int32} {off : Int} (d : decode I.2.1 pc = .ok (.if_icmp .lt off, 3)) (e : (pc : Int) + off = (t : Int)) (e2 : pc + 3 = q)  (kt : x < y → V X bc bs t L st M) (kf : ¬ x < y → V X bc bs q L st M) : V X bc bs pc L (.int y :: .int x :: st) M := by
  obtain ⟨p, e0, R, s, m, args, below, meth, c, Q, mc, ms, G'⟩ := X
  obtain ⟨rfl, hx, hb, hml, hr, hlk, hown, hts, hK, hroom, hini, hS0⟩ := C
  subst e2
  intro H locs cells slots ls hR hc hs hl
  exact lv_icmp_lt hx hb d e (fun z => kt z H locs cells slots ls hR hc hs hl) (fun z => kf z H locs cells slots ls hR hc hs hl)
theorem s_if_lt {X : mX} {G : mG} {I : mI} (C : Cx X G I) {bc bs pc : Nat} (t q : Nat) {L : List (Option Value)} {st : List Value} {M : mM} {x : Int32} {off : Int} (d : decode I.2.1 pc = .ok (.ifCond .lt off, 3)) (e : (pc : Int) + off = (t : Int)) (e2 : pc + 3 = q)  (kt : x < 0 → V X bc bs t L st M) (kf : ¬ x < 0 → V X bc bs q L st M) : V X bc bs pc L (.int x :: st) M := by
  obtain ⟨p, e0, R, s, m, args, below, meth, c, Q, mc, ms, G'⟩ := X
  obtain ⟨rfl, hx, hb, hml, hr, hlk, hown, hts, hK, hroom, hini, hS0⟩ := C
  subst e2
  intro H locs cells slots ls hR hc hs hl
  exact lv_if_lt hx hb d e (fun z => kt z H locs cells slots ls hR hc hs hl) (fun z => kf z H locs cells slots ls hR hc hs hl)
theorem s_icmp_ge {X : mX} {G : mG} {I : mI} (C : Cx X G I) {bc bs pc : Nat} (t q : Nat) {L : List (Option Value)} {st : List Value} {M : mM} {x y : Int32} {off : Int} (d : decode I.2.1 pc = .ok (.if_icmp .ge off, 3)) (e : (pc : Int) + off = (t : Int)) (e2 : pc + 3 = q)  (kt : y ≤ x → V X bc bs t L st M) (kf : ¬ y ≤ x → V X bc bs q L st M) : V X bc bs pc L (.int y :: .int x :: st) M := by
  obtain ⟨p, e0, R, s, m, args, below, meth, c, Q, mc, ms, G'⟩ := X
  obtain ⟨rfl, hx, hb, hml, hr, hlk, hown, hts, hK, hroom, hini, hS0⟩ := C
  subst e2
  intro H locs cells slots ls hR hc hs hl
  exact lv_icmp_ge hx hb d e (fun z => kt z H locs cells slots ls hR hc hs hl) (fun z => kf z H locs cells slots ls hR hc hs hl)
theorem s_if_ge {X : mX} {G : mG} {I : mI} (C : Cx X G I) {bc bs pc : Nat} (t q : Nat) {L : List (Option Value)} {st : List Value} {M : mM} {x : Int32} {off : Int} (d : decode I.2.1 pc = .ok (.ifCond .ge off, 3)) (e : (pc : Int) + off = (t : Int)) (e2 : pc + 3 = q)  (kt : 0 ≤ x → V X bc bs t L st M) (kf : ¬ 0 ≤ x → V X bc bs q L st M) : V X bc bs pc L (.int x :: st) M := by
  obtain ⟨p, e0, R, s, m, args, below, meth, c, Q, mc, ms, G'⟩ := X
  obtain ⟨rfl, hx, hb, hml, hr, hlk, hown, hts, hK, hroom, hini, hS0⟩ := C
  subst e2
  intro H locs cells slots ls hR hc hs hl
  exact lv_if_ge hx hb d e (fun z => kt z H locs cells slots ls hR hc hs hl) (fun z => kf z H locs cells slots ls hR hc hs hl)
theorem s_icmp_gt {X : mX} {G : mG} {I : mI} (C : Cx X G I) {bc bs pc : Nat} (t q : Nat) {L : List (Option Value)} {st : List Value} {M : mM} {x y : Int32} {off : Int} (d : decode I.2.1 pc = .ok (.if_icmp .gt off, 3)) (e : (pc : Int) + off = (t : Int)) (e2 : pc + 3 = q)  (kt : y < x → V X bc bs t L st M) (kf : ¬ y < x → V X bc bs q L st M) : V X bc bs pc L (.int y :: .int x :: st) M := by
  obtain ⟨p, e0, R, s, m, args, below, meth, c, Q, mc, ms, G'⟩ := X
  obtain ⟨rfl, hx, hb, hml, hr, hlk, hown, hts, hK, hroom, hini, hS0⟩ := C
  subst e2
  intro H locs cells slots ls hR hc hs hl
  exact lv_icmp_gt hx hb d e (fun z => kt z H locs cells slots ls hR hc hs hl) (fun z => kf z H locs cells slots ls hR hc hs hl)
theorem s_if_gt {X : mX} {G : mG} {I : mI} (C : Cx X G I) {bc bs pc : Nat} (t q : Nat) {L : List (Option Value)} {st : List Value} {M : mM} {x : Int32} {off : Int} (d : decode I.2.1 pc = .ok (.ifCond .gt off, 3)) (e : (pc : Int) + off = (t : Int)) (e2 : pc + 3 = q)  (kt : 0 < x → V X bc bs t L st M) (kf : ¬ 0 < x → V X bc bs q L st M) : V X bc bs pc L (.int x :: st) M := by
  obtain ⟨p, e0, R, s, m, args, below, meth, c, Q, mc, ms, G'⟩ := X
  obtain ⟨rfl, hx, hb, hml, hr, hlk, hown, hts, hK, hroom, hini, hS0⟩ := C
  subst e2
  intro H locs cells slots ls hR hc hs hl
  exact lv_if_gt hx hb d e (fun z => kt z H locs cells slots ls hR hc hs hl) (fun z => kf z H locs cells slots ls hR hc hs hl)
theorem s_icmp_le {X : mX} {G : mG} {I : mI} (C : Cx X G I) {bc bs pc : Nat} (t q : Nat) {L : List (Option Value)} {st : List Value} {M : mM} {x y : Int32} {off : Int} (d : decode I.2.1 pc = .ok (.if_icmp .le off, 3)) (e : (pc : Int) + off = (t : Int)) (e2 : pc + 3 = q)  (kt : x ≤ y → V X bc bs t L st M) (kf : ¬ x ≤ y → V X bc bs q L st M) : V X bc bs pc L (.int y :: .int x :: st) M := by
  obtain ⟨p, e0, R, s, m, args, below, meth, c, Q, mc, ms, G'⟩ := X
  obtain ⟨rfl, hx, hb, hml, hr, hlk, hown, hts, hK, hroom, hini, hS0⟩ := C
  subst e2
  intro H locs cells slots ls hR hc hs hl
  exact lv_icmp_le hx hb d e (fun z => kt z H locs cells slots ls hR hc hs hl) (fun z => kf z H locs cells slots ls hR hc hs hl)
theorem s_if_le {X : mX} {G : mG} {I : mI} (C : Cx X G I) {bc bs pc : Nat} (t q : Nat) {L : List (Option Value)} {st : List Value} {M : mM} {x : Int32} {off : Int} (d : decode I.2.1 pc = .ok (.ifCond .le off, 3)) (e : (pc : Int) + off = (t : Int)) (e2 : pc + 3 = q)  (kt : x ≤ 0 → V X bc bs t L st M) (kf : ¬ x ≤ 0 → V X bc bs q L st M) : V X bc bs pc L (.int x :: st) M := by
  obtain ⟨p, e0, R, s, m, args, below, meth, c, Q, mc, ms, G'⟩ := X
  obtain ⟨rfl, hx, hb, hml, hr, hlk, hown, hts, hK, hroom, hini, hS0⟩ := C
  subst e2
  intro H locs cells slots ls hR hc hs hl
  exact lv_if_le hx hb d e (fun z => kt z H locs cells slots ls hR hc hs hl) (fun z => kf z H locs cells slots ls hR hc hs hl)
theorem s_icmp_eq {X : mX} {G : mG} {I : mI} (C : Cx X G I) {bc bs pc : Nat} (t q : Nat) {L : List (Option Value)} {st : List Value} {M : mM} {x y : Int32} {off : Int} (d : decode I.2.1 pc = .ok (.if_icmp .eq off, 3)) (e : (pc : Int) + off = (t : Int)) (e2 : pc + 3 = q)  (kt : x = y → V X bc bs t L st M) (kf : ¬ x = y → V X bc bs q L st M) : V X bc bs pc L (.int y :: .int x :: st) M := by
  obtain ⟨p, e0, R, s, m, args, below, meth, c, Q, mc, ms, G'⟩ := X
  obtain ⟨rfl, hx, hb, hml, hr, hlk, hown, hts, hK, hroom, hini, hS0⟩ := C
  subst e2
  intro H locs cells slots ls hR hc hs hl
  exact lv_icmp_eq hx hb d e (fun z => kt z H locs cells slots ls hR hc hs hl) (fun z => kf z H locs cells slots ls hR hc hs hl)
theorem s_if_eq {X : mX} {G : mG} {I : mI} (C : Cx X G I) {bc bs pc : Nat} (t q : Nat) {L : List (Option Value)} {st : List Value} {M : mM} {x : Int32} {off : Int} (d : decode I.2.1 pc = .ok (.ifCond .eq off, 3)) (e : (pc : Int) + off = (t : Int)) (e2 : pc + 3 = q)  (kt : x = 0 → V X bc bs t L st M) (kf : ¬ x = 0 → V X bc bs q L st M) : V X bc bs pc L (.int x :: st) M := by
  obtain ⟨p, e0, R, s, m, args, below, meth, c, Q, mc, ms, G'⟩ := X
  obtain ⟨rfl, hx, hb, hml, hr, hlk, hown, hts, hK, hroom, hini, hS0⟩ := C
  subst e2
  intro H locs cells slots ls hR hc hs hl
  exact lv_if_eq hx hb d e (fun z => kt z H locs cells slots ls hR hc hs hl) (fun z => kf z H locs cells slots ls hR hc hs hl)
theorem s_icmp_ne {X : mX} {G : mG} {I : mI} (C : Cx X G I) {bc bs pc : Nat} (t q : Nat) {L : List (Option Value)} {st : List Value} {M : mM} {x y : Int32} {off : Int} (d : decode I.2.1 pc = .ok (.if_icmp .ne off, 3)) (e : (pc : Int) + off = (t : Int)) (e2 : pc + 3 = q)  (kt : ¬ x = y → V X bc bs t L st M) (kf : x = y → V X bc bs q L st M) : V X bc bs pc L (.int y :: .int x :: st) M := by
  obtain ⟨p, e0, R, s, m, args, below, meth, c, Q, mc, ms, G'⟩ := X
  obtain ⟨rfl, hx, hb, hml, hr, hlk, hown, hts, hK, hroom, hini, hS0⟩ := C
  subst e2
  intro H locs cells slots ls hR hc hs hl
  exact lv_icmp_ne hx hb d e (fun z => kt z H locs cells slots ls hR hc hs hl) (fun z => kf z H locs cells slots ls hR hc hs hl)
theorem s_if_ne {X : mX} {G : mG} {I : mI} (C : Cx X G I) {bc bs pc : Nat} (t q : Nat) {L : List (Option Value)} {st : List Value} {M : mM} {x : Int32} {off : Int} (d : decode I.2.1 pc = .ok (.ifCond .ne off, 3)) (e : (pc : Int) + off = (t : Int)) (e2 : pc + 3 = q)  (kt : ¬ x = 0 → V X bc bs t L st M) (kf : x = 0 → V X bc bs q L st M) : V X bc bs pc L (.int x :: st) M := by
  obtain ⟨p, e0, R, s, m, args, below, meth, c, Q, mc, ms, G'⟩ := X
  obtain ⟨rfl, hx, hb, hml, hr, hlk, hown, hts, hK, hroom, hini, hS0⟩ := C
  subst e2
  intro H locs cells slots ls hR hc hs hl
  exact lv_if_ne hx hb d e (fun z => kt z H locs cells slots ls hR hc hs hl) (fun z => kf z H locs cells slots ls hR hc hs hl)
theorem s_icmp_ltN {X : mX} {G : mG} {I : mI} (C : Cx X G I) {bc bs pc : Nat} (t q : Nat) {L : List (Option Value)} {st : List Value} {M : mM} {a b : Nat} {off : Int} (d : decode I.2.1 pc = .ok (.if_icmp .lt off, 3)) (e : (pc : Int) + off = (t : Int)) (e2 : pc + 3 = q) (ha : a < 2 ^ 31) (hb2 : b < 2 ^ 31) (kt : a < b → V X bc bs t L st M) (kf : b ≤ a → V X bc bs q L st M) : V X bc bs pc L (.int (nI b) :: .int (nI a) :: st) M := by
  obtain ⟨p, e0, R, s, m, args, below, meth, c, Q, mc, ms, G'⟩ := X
  obtain ⟨rfl, hx, hb, hml, hr, hlk, hown, hts, hK, hroom, hini, hS0⟩ := C
  subst e2
  intro H locs cells slots ls hR hc hs hl
  exact lv_icmp_lt hx hb d e (fun z => kt ((nI_ltI ha hb2).mp z) H locs cells slots ls hR hc hs hl) (fun z => kf (Nat.le_of_not_lt (fun w => z ((nI_ltI ha hb2).mpr w))) H locs cells slots ls hR hc hs hl)
theorem s_icmp_geN {X : mX} {G : mG} {I : mI} (C : Cx X G I) {bc bs pc : Nat} (t q : Nat) {L : List (Option Value)} {st : List Value} {M : mM} {a b : Nat} {off : Int} (d : decode I.2.1 pc = .ok (.if_icmp .ge off, 3)) (e : (pc : Int) + off = (t : Int)) (e2 : pc + 3 = q) (ha : a < 2 ^ 31) (hb2 : b < 2 ^ 31) (kt : b ≤ a → V X bc bs t L st M) (kf : a < b → V X bc bs q L st M) : V X bc bs pc L (.int (nI b) :: .int (nI a) :: st) M := by
  obtain ⟨p, e0, R, s, m, args, below, meth, c, Q, mc, ms, G'⟩ := X
  obtain ⟨rfl, hx, hb, hml, hr, hlk, hown, hts, hK, hroom, hini, hS0⟩ := C
  subst e2
  intro H locs cells slots ls hR hc hs hl
  exact lv_icmp_ge hx hb d e (fun z => kt ((nI_leI hb2 ha).mp z) H locs cells slots ls hR hc hs hl) (fun z => kf (Nat.lt_of_not_le (fun w => z ((nI_leI hb2 ha).mpr w))) H locs cells slots ls hR hc hs hl)
theorem s_icmp_gtN {X : mX} {G : mG} {I : mI} (C : Cx X G I) {bc bs pc : Nat} (t q : Nat) {L : List (Option Value)} {st : List Value} {M : mM} {a b : Nat} {off : Int} (d : decode I.2.1 pc = .ok (.if_icmp .gt off, 3)) (e : (pc : Int) + off = (t : Int)) (e2 : pc + 3 = q) (ha : a < 2 ^ 31) (hb2 : b < 2 ^ 31) (kt : b < a → V X bc bs t L st M) (kf : a ≤ b → V X bc bs q L st M) : V X bc bs pc L (.int (nI b) :: .int (nI a) :: st) M := by
  obtain ⟨p, e0, R, s, m, args, below, meth, c, Q, mc, ms, G'⟩ := X
  obtain ⟨rfl, hx, hb, hml, hr, hlk, hown, hts, hK, hroom, hini, hS0⟩ := C
  subst e2
  intro H locs cells slots ls hR hc hs hl
  exact lv_icmp_gt hx hb d e (fun z => kt ((nI_ltI hb2 ha).mp z) H locs cells slots ls hR hc hs hl) (fun z => kf (Nat.le_of_not_lt (fun w => z ((nI_ltI hb2 ha).mpr w))) H locs cells slots ls hR hc hs hl)
theorem s_icmp_leN {X : mX} {G : mG} {I : mI} (C : Cx X G I) {bc bs pc : Nat} (t q : Nat) {L : List (Option Value)} {st : List Value} {M : mM} {a b : Nat} {off : Int} (d : decode I.2.1 pc = .ok (.if_icmp .le off, 3)) (e : (pc : Int) + off = (t : Int)) (e2 : pc + 3 = q) (ha : a < 2 ^ 31) (hb2 : b < 2 ^ 31) (kt : a ≤ b → V X bc bs t L st M) (kf : b < a → V X bc bs q L st M) : V X bc bs pc L (.int (nI b) :: .int (nI a) :: st) M := by
  obtain ⟨p, e0, R, s, m, args, below, meth, c, Q, mc, ms, G'⟩ := X
  obtain ⟨rfl, hx, hb, hml, hr, hlk, hown, hts, hK, hroom, hini, hS0⟩ := C
  subst e2
  intro H locs cells slots ls hR hc hs hl
  exact lv_icmp_le hx hb d e (fun z => kt ((nI_leI ha hb2).mp z) H locs cells slots ls hR hc hs hl) (fun z => kf (Nat.lt_of_not_le (fun w => z ((nI_leI ha hb2).mpr w))) H locs cells slots ls hR hc hs hl)
theorem s_icmp_eqN {X : mX} {G : mG} {I : mI} (C : Cx X G I) {bc bs pc : Nat} (t q : Nat) {L : List (Option Value)} {st : List Value} {M : mM} {a b : Nat} {off : Int} (d : decode I.2.1 pc = .ok (.if_icmp .eq off, 3)) (e : (pc : Int) + off = (t : Int)) (e2 : pc + 3 = q) (ha : a < 2 ^ 31) (hb2 : b < 2 ^ 31) (kt : a = b → V X bc bs t L st M) (kf : a ≠ b → V X bc bs q L st M) : V X bc bs pc L (.int (nI b) :: .int (nI a) :: st) M := by
  obtain ⟨p, e0, R, s, m, args, below, meth, c, Q, mc, ms, G'⟩ := X
  obtain ⟨rfl, hx, hb, hml, hr, hlk, hown, hts, hK, hroom, hini, hS0⟩ := C
  subst e2
  intro H locs cells slots ls hR hc hs hl
  exact lv_icmp_eq hx hb d e (fun z => kt ((nI_eq ha hb2).mp z) H locs cells slots ls hR hc hs hl) (fun z => kf (fun w => z ((nI_eq ha hb2).mpr w)) H locs cells slots ls hR hc hs hl)
theorem s_icmp_neN {X : mX} {G : mG} {I : mI} (C : Cx X G I) {bc bs pc : Nat} (t q : Nat) {L : List (Option Value)} {st : List Value} {M : mM} {a b : Nat} {off : Int} (d : decode I.2.1 pc = .ok (.if_icmp .ne off, 3)) (e : (pc : Int) + off = (t : Int)) (e2 : pc + 3 = q) (ha : a < 2 ^ 31) (hb2 : b < 2 ^ 31) (kt : a ≠ b → V X bc bs t L st M) (kf : a = b → V X bc bs q L st M) : V X bc bs pc L (.int (nI b) :: .int (nI a) :: st) M := by
  obtain ⟨p, e0, R, s, m, args, below, meth, c, Q, mc, ms, G'⟩ := X
  obtain ⟨rfl, hx, hb, hml, hr, hlk, hown, hts, hK, hroom, hini, hS0⟩ := C
  subst e2
  intro H locs cells slots ls hR hc hs hl
  exact lv_icmp_ne hx hb d e (fun z => kt (fun w => z ((nI_eq ha hb2).mpr w)) H locs cells slots ls hR hc hs hl) (fun z => kf ((nI_eq ha hb2).mp z) H locs cells slots ls hR hc hs hl)
theorem s_if_eqN {X : mX} {G : mG} {I : mI} (C : Cx X G I) {bc bs pc : Nat} (t q : Nat) {L : List (Option Value)} {st : List Value} {M : mM} {a : Nat} {off : Int} (d : decode I.2.1 pc = .ok (.ifCond .eq off, 3)) (e : (pc : Int) + off = (t : Int)) (e2 : pc + 3 = q) (ha : a < 2 ^ 31) (kt : a = 0 → V X bc bs t L st M) (kf : a ≠ 0 → V X bc bs q L st M) : V X bc bs pc L (.int (nI a) :: st) M := by
  obtain ⟨p, e0, R, s, m, args, below, meth, c, Q, mc, ms, G'⟩ := X
  obtain ⟨rfl, hx, hb, hml, hr, hlk, hown, hts, hK, hroom, hini, hS0⟩ := C
  subst e2
  intro H locs cells slots ls hR hc hs hl
  exact lv_if_eq hx hb d e (fun z => kt ((nI_eq ha (by omega)).mp (z.trans nI_0.symm)) H locs cells slots ls hR hc hs hl) (fun z => kf (fun w => z (by rw [w]; exact nI_0)) H locs cells slots ls hR hc hs hl)
theorem s_if_neN {X : mX} {G : mG} {I : mI} (C : Cx X G I) {bc bs pc : Nat} (t q : Nat) {L : List (Option Value)} {st : List Value} {M : mM} {a : Nat} {off : Int} (d : decode I.2.1 pc = .ok (.ifCond .ne off, 3)) (e : (pc : Int) + off = (t : Int)) (e2 : pc + 3 = q) (ha : a < 2 ^ 31) (kt : a ≠ 0 → V X bc bs t L st M) (kf : a = 0 → V X bc bs q L st M) : V X bc bs pc L (.int (nI a) :: st) M := by
  obtain ⟨p, e0, R, s, m, args, below, meth, c, Q, mc, ms, G'⟩ := X
  obtain ⟨rfl, hx, hb, hml, hr, hlk, hown, hts, hK, hroom, hini, hS0⟩ := C
  subst e2
  intro H locs cells slots ls hR hc hs hl
  exact lv_if_ne hx hb d e (fun z => kt (fun w => z (by rw [w]; exact nI_0)) H locs cells slots ls hR hc hs hl) (fun z => kf ((nI_eq ha (by omega)).mp (z.trans nI_0.symm)) H locs cells slots ls hR hc hs hl)
theorem s_if_gtN {X : mX} {G : mG} {I : mI} (C : Cx X G I) {bc bs pc : Nat} (t q : Nat) {L : List (Option Value)} {st : List Value} {M : mM} {a : Nat} {off : Int} (d : decode I.2.1 pc = .ok (.ifCond .gt off, 3)) (e : (pc : Int) + off = (t : Int)) (e2 : pc + 3 = q) (ha : a < 2 ^ 31) (kt : 0 < a → V X bc bs t L st M) (kf : a = 0 → V X bc bs q L st M) : V X bc bs pc L (.int (nI a) :: st) M := by
  obtain ⟨p, e0, R, s, m, args, below, meth, c, Q, mc, ms, G'⟩ := X
  obtain ⟨rfl, hx, hb, hml, hr, hlk, hown, hts, hK, hroom, hini, hS0⟩ := C
  subst e2
  intro H locs cells slots ls hR hc hs hl
  exact lv_if_gt hx hb d e (fun z => kt (Nat.pos_of_ne_zero (fun w => by rw [w, nI_0] at z; exact absurd z (by decide))) H locs cells slots ls hR hc hs hl) (fun z => kf (Nat.eq_zero_of_not_pos (fun w => z (by rw [← nI_0]; exact nI_lt w ha))) H locs cells slots ls hR hc hs hl)
theorem s_if_leN {X : mX} {G : mG} {I : mI} (C : Cx X G I) {bc bs pc : Nat} (t q : Nat) {L : List (Option Value)} {st : List Value} {M : mM} {a : Nat} {off : Int} (d : decode I.2.1 pc = .ok (.ifCond .le off, 3)) (e : (pc : Int) + off = (t : Int)) (e2 : pc + 3 = q) (ha : a < 2 ^ 31) (kt : a = 0 → V X bc bs t L st M) (kf : 0 < a → V X bc bs q L st M) : V X bc bs pc L (.int (nI a) :: st) M := by
  obtain ⟨p, e0, R, s, m, args, below, meth, c, Q, mc, ms, G'⟩ := X
  obtain ⟨rfl, hx, hb, hml, hr, hlk, hown, hts, hK, hroom, hini, hS0⟩ := C
  subst e2
  intro H locs cells slots ls hR hc hs hl
  exact lv_if_le hx hb d e (fun z => kt (Nat.eq_zero_of_not_pos (fun w => nI_nle w ha z)) H locs cells slots ls hR hc hs hl) (fun z => kf (Nat.pos_of_ne_zero (fun w => z (by rw [w, nI_0]; decide))) H locs cells slots ls hR hc hs hl)
theorem s_if_ltN {X : mX} {G : mG} {I : mI} (C : Cx X G I) {bc bs pc : Nat} (q : Nat) {L : List (Option Value)} {st : List Value} {M : mM} {a : Nat} {off : Int} {t : Nat} (d : decode I.2.1 pc = .ok (.ifCond .lt off, 3)) (e : (pc : Int) + off = (t : Int)) (e2 : pc + 3 = q) (ha : a < 2 ^ 31) (kf : V X bc bs q L st M) : V X bc bs pc L (.int (nI a) :: st) M := s_if_lt C t q d e e2 (fun z => absurd z (nI_pos ha)) (fun _ => kf)
theorem s_if_geN {X : mX} {G : mG} {I : mI} (C : Cx X G I) {bc bs pc : Nat} (t : Nat) {L : List (Option Value)} {st : List Value} {M : mM} {a : Nat} {off : Int} (d : decode I.2.1 pc = .ok (.ifCond .ge off, 3)) (e : (pc : Int) + off = (t : Int)) (ha : a < 2 ^ 31) (kt : V X bc bs t L st M) : V X bc bs pc L (.int (nI a) :: st) M := s_if_ge C t _ d e rfl (fun _ => kt) (fun z => absurd (nI_pos' ha) z)
def mB (b : Bool) : Int32 := cond b 1 0
theorem mB_0 {b : Bool} : mB b = 0 ↔ b = false := by cases b <;> decide
theorem mB_n {b : Bool} : ¬ mB b = 0 ↔ b = true := by cases b <;> decide
theorem mB_z (b : Bool) : narrow .boolean (.int (mB b)) = .int (mB b) := by cases b <;> decide
theorem s_if_eqB {X : mX} {G : mG} {I : mI} (C : Cx X G I) {bc bs pc : Nat} (t q : Nat) {L : List (Option Value)} {st : List Value} {M : mM} {b : Bool} {off : Int} (d : decode I.2.1 pc = .ok (.ifCond .eq off, 3)) (e : (pc : Int) + off = (t : Int)) (e2 : pc + 3 = q)  (kt : b = false → V X bc bs t L st M) (kf : b = true → V X bc bs q L st M) : V X bc bs pc L (.int (mB b) :: st) M := by
  obtain ⟨p, e0, R, s, m, args, below, meth, c, Q, mc, ms, G'⟩ := X
  obtain ⟨rfl, hx, hb, hml, hr, hlk, hown, hts, hK, hroom, hini, hS0⟩ := C
  subst e2
  intro H locs cells slots ls hR hc hs hl
  exact lv_if_eq hx hb d e (fun z => kt (mB_0.mp z) H locs cells slots ls hR hc hs hl) (fun z => kf (mB_n.mp z) H locs cells slots ls hR hc hs hl)
theorem s_if_neB {X : mX} {G : mG} {I : mI} (C : Cx X G I) {bc bs pc : Nat} (t q : Nat) {L : List (Option Value)} {st : List Value} {M : mM} {b : Bool} {off : Int} (d : decode I.2.1 pc = .ok (.ifCond .ne off, 3)) (e : (pc : Int) + off = (t : Int)) (e2 : pc + 3 = q)  (kt : b = true → V X bc bs t L st M) (kf : b = false → V X bc bs q L st M) : V X bc bs pc L (.int (mB b) :: st) M := by
  obtain ⟨p, e0, R, s, m, args, below, meth, c, Q, mc, ms, G'⟩ := X
  obtain ⟨rfl, hx, hb, hml, hr, hlk, hown, hts, hK, hroom, hini, hS0⟩ := C
  subst e2
  intro H locs cells slots ls hR hc hs hl
  exact lv_if_ne hx hb d e (fun z => kt (mB_n.mp z) H locs cells slots ls hR hc hs hl) (fun z => kf (mB_0.mp z) H locs cells slots ls hR hc hs hl)
theorem s_acmp_ne {X : mX} {G : mG} {I : mI} (C : Cx X G I) {bc bs pc : Nat} (t q : Nat) {L : List (Option Value)} {st : List Value} {M : mM} {x y : Nat} {off : Int} (d : decode I.2.1 pc = .ok (.if_acmp .ne off, 3)) (e : (pc : Int) + off = (t : Int)) (e2 : pc + 3 = q) (kt : ¬ x = y → V X bc bs t L st M) (kf : x = y → V X bc bs q L st M) : V X bc bs pc L (.ref y :: .ref x :: st) M := by
  obtain ⟨p, e0, R, s, m, args, below, meth, c, Q, mc, ms, G'⟩ := X
  obtain ⟨rfl, hx, hb, hml, hr, hlk, hown, hts, hK, hroom, hini, hS0⟩ := C
  subst e2
  intro H locs cells slots ls hR hc hs hl
  exact lv_acmp_ne (rx := some x) (ry := some y) hx hb d e (fun z => kt (fun w => z (by rw [w])) H locs cells slots ls hR hc hs hl) (fun z => kf (Option.some.inj z) H locs cells slots ls hR hc hs hl)
theorem s_istore_n {X : mX} {G : mG} {I : mI} (C : Cx X G I) {bc bs pc : Nat} (q : Nat) {L : List (Option Value)} {st : List Value} {M : mM} {k : Fin 4} {x : Int32} (d : decode I.2.1 pc = .ok (.istore_n k, 1)) (e : pc + 1 = q) (hk : mk2 L (k : Nat) = true) (hn0 : Nat.ble ((k : Nat) + 1) L.length = true) (k' : V X bc bs q (L.set (k : Nat) (some (.int x))) st M) : V X bc bs pc L (.int x :: st) M := by
  obtain ⟨p, e0, R, s, m, args, below, meth, c, Q, mc, ms, G'⟩ := X
  obtain ⟨rfl, hx, hb, hml, hr, hlk, hown, hts, hK, hroom, hini, hS0⟩ := C
  subst e
  intro H locs cells slots ls hR hc hs hl
  have hn := Nat.le_of_ble_eq_true hn0
  exact lv_istore_n hx hb d rfl hl hn rfl (fun ls' hl' => k' H locs cells slots ls' hR hc hs (mL_set hk hn hl'))
theorem s_istore {X : mX} {G : mG} {I : mI} (C : Cx X G I) {bc bs pc : Nat} (q : Nat) {L : List (Option Value)} {st : List Value} {M : mM} {i : Nat} {x : Int32} (d : decode I.2.1 pc = .ok (.istore i, 2)) (e : pc + 2 = q) (hk : mk2 L i = true) (hn0 : Nat.ble (i + 1) L.length = true) (k' : V X bc bs q (L.set i (some (.int x))) st M) : V X bc bs pc L (.int x :: st) M := by
  obtain ⟨p, e0, R, s, m, args, below, meth, c, Q, mc, ms, G'⟩ := X
  obtain ⟨rfl, hx, hb, hml, hr, hlk, hown, hts, hK, hroom, hini, hS0⟩ := C
  subst e
  intro H locs cells slots ls hR hc hs hl
  have hn := Nat.le_of_ble_eq_true hn0
  exact lv_istore hx hb d hl hn rfl (fun ls' hl' => k' H locs cells slots ls' hR hc hs (mL_set hk hn hl'))
theorem s_astore_n {X : mX} {G : mG} {I : mI} (C : Cx X G I) {bc bs pc : Nat} (q : Nat) {L : List (Option Value)} {st : List Value} {M : mM} {k : Fin 4} {x : Nat} (d : decode I.2.1 pc = .ok (.astore_n k, 1)) (e : pc + 1 = q) (hk : mk2 L (k : Nat) = true) (hn0 : Nat.ble ((k : Nat) + 1) L.length = true) (k' : V X bc bs q (L.set (k : Nat) (some (.ref x))) st M) : V X bc bs pc L (.ref x :: st) M := by
  obtain ⟨p, e0, R, s, m, args, below, meth, c, Q, mc, ms, G'⟩ := X
  obtain ⟨rfl, hx, hb, hml, hr, hlk, hown, hts, hK, hroom, hini, hS0⟩ := C
  subst e
  intro H locs cells slots ls hR hc hs hl
  have hn := Nat.le_of_ble_eq_true hn0
  exact lv_astore_n hx hb d rfl hl hn rfl (fun ls' hl' => k' H locs cells slots ls' hR hc hs (mL_set hk hn hl'))
theorem s_astore {X : mX} {G : mG} {I : mI} (C : Cx X G I) {bc bs pc : Nat} (q : Nat) {L : List (Option Value)} {st : List Value} {M : mM} {i : Nat} {x : Nat} (d : decode I.2.1 pc = .ok (.astore i, 2)) (e : pc + 2 = q) (hk : mk2 L i = true) (hn0 : Nat.ble (i + 1) L.length = true) (k' : V X bc bs q (L.set i (some (.ref x))) st M) : V X bc bs pc L (.ref x :: st) M := by
  obtain ⟨p, e0, R, s, m, args, below, meth, c, Q, mc, ms, G'⟩ := X
  obtain ⟨rfl, hx, hb, hml, hr, hlk, hown, hts, hK, hroom, hini, hS0⟩ := C
  subst e
  intro H locs cells slots ls hR hc hs hl
  have hn := Nat.le_of_ble_eq_true hn0
  exact lv_astore hx hb d hl hn rfl (fun ls' hl' => k' H locs cells slots ls' hR hc hs (mL_set hk hn hl'))
theorem s_lstore_n {X : mX} {G : mG} {I : mI} (C : Cx X G I) {bc bs pc : Nat} (q : Nat) {L : List (Option Value)} {st : List Value} {M : mM} {k : Fin 4} {x : Int64} (d : decode I.2.1 pc = .ok (.lstore_n k, 1)) (e : pc + 1 = q) (hk : mk2 L (k : Nat) = true) (hn0 : Nat.ble ((k : Nat) + 1 + 1) L.length = true) (k' : V X bc bs q ((L.set (k : Nat) (some (.long x))).set ((k : Nat) + 1) none) st M) : V X bc bs pc L (.long x :: st) M := by
  obtain ⟨p, e0, R, s, m, args, below, meth, c, Q, mc, ms, G'⟩ := X
  obtain ⟨rfl, hx, hb, hml, hr, hlk, hown, hts, hK, hroom, hini, hS0⟩ := C
  subst e
  intro H locs cells slots ls hR hc hs hl
  have hn := Nat.le_of_ble_eq_true hn0
  exact lv_lstore_n hx hb d rfl hl hn rfl (fun ls' hl' => k' H locs cells slots ls' hR hc hs (mL_set2 hk hn hl'))
theorem s_lstore {X : mX} {G : mG} {I : mI} (C : Cx X G I) {bc bs pc : Nat} (q : Nat) {L : List (Option Value)} {st : List Value} {M : mM} {i : Nat} {x : Int64} (d : decode I.2.1 pc = .ok (.lstore i, 2)) (e : pc + 2 = q) (hk : mk2 L i = true) (hn0 : Nat.ble (i + 1 + 1) L.length = true) (k' : V X bc bs q ((L.set i (some (.long x))).set (i + 1) none) st M) : V X bc bs pc L (.long x :: st) M := by
  obtain ⟨p, e0, R, s, m, args, below, meth, c, Q, mc, ms, G'⟩ := X
  obtain ⟨rfl, hx, hb, hml, hr, hlk, hown, hts, hK, hroom, hini, hS0⟩ := C
  subst e
  intro H locs cells slots ls hR hc hs hl
  have hn := Nat.le_of_ble_eq_true hn0
  exact lv_lstore hx hb d hl hn rfl (fun ls' hl' => k' H locs cells slots ls' hR hc hs (mL_set2 hk hn hl'))
theorem s_iinc {X : mX} {G : mG} {I : mI} (C : Cx X G I) {bc bs pc : Nat} (q : Nat) {L : List (Option Value)} {st : List Value} {M : mM} {i : Nat} {n : Int} {x : Int32} (v : Int32) (d : decode I.2.1 pc = .ok (.iinc i n, 3)) (e : pc + 3 = q) (hg : L[i]? = some (some (.int x))) (hv : x + Int32.ofInt n = v) (hk : mk2 L i = true) (k' : V X bc bs q (L.set i (some (.int v))) st M) : V X bc bs pc L st M := by
  obtain ⟨p, e0, R, s, m, args, below, meth, c, Q, mc, ms, G'⟩ := X
  obtain ⟨rfl, hx, hb, hml, hr, hlk, hown, hts, hK, hroom, hini, hS0⟩ := C
  subst e
  intro H locs cells slots ls hR hc hs hl
  have hn : i < L.length := (List.getElem?_eq_some_iff.mp hg).1
  obtain ⟨j, hj⟩ := List.mem_iff_getElem?.mp (mP_mem.mpr hg)
  exact lv_iinc hx hb d hl hj hv hn rfl (fun ls' hl' => k' H locs cells slots ls' hR hc hs (mL_set hk hn hl'))
theorem s_vret {X : mX} {G : mG} {I : mI} (C : Cx X G I) {bc bs pc : Nat} {L : List (Option Value)} {M : mM}  (d : decode I.2.1 pc = .ok (.return_, 1)) {post : Option Value → mM → Prop} (T : Rt X post) (hty : I.2.2.2.1 = none) (h : post (none) M) : V X bc bs pc L [] M := by
  obtain ⟨p, e0, R, s, m, args, below, meth, c, Q, mc, ms, G'⟩ := X
  obtain ⟨rfl, hx, hb, hml, hr, hlk, hown, hts, hK, hroom, hini, hS0⟩ := C
  have T : Q = _ := T
  subst T
  intro H locs cells slots ls hR hc hs hl
  refine W.widen (k := mc) (n := ms) (by omega) (by omega) ?_
  exact W.vret hx hb (hr.trans hty) (fun t ht _ => ⟨_, M, rfl, h, by rw [ht]; exact hR.ret⟩) hR.2.2.2.2 d hlk
theorem s_iret {X : mX} {G : mG} {I : mI} (C : Cx X G I) {bc bs pc : Nat} {L : List (Option Value)} {M : mM} {v : Int32} (d : decode I.2.1 pc = .ok (.ireturn, 1)) {post : Option Value → mM → Prop} (T : Rt X post) (hty : I.2.2.2.1 = some .int) (h : post (some (.int v)) M) : V X bc bs pc L [.int v] M := by
  obtain ⟨p, e0, R, s, m, args, below, meth, c, Q, mc, ms, G'⟩ := X
  obtain ⟨rfl, hx, hb, hml, hr, hlk, hown, hts, hK, hroom, hini, hS0⟩ := C
  have T : Q = _ := T
  subst T
  intro H locs cells slots ls hR hc hs hl
  refine W.widen (k := mc) (n := ms) (by omega) (by omega) ?_
  exact W.iret hx hb (hr.trans hty) (fun t ht _ => ⟨_, M, rfl, h, by rw [ht]; exact hR.ret⟩) hR.2.2.2.2 d hlk
theorem s_zret {X : mX} {G : mG} {I : mI} (C : Cx X G I) {bc bs pc : Nat} {L : List (Option Value)} {M : mM} {v : Int32} {ty : FieldType} (d : decode I.2.1 pc = .ok (.ireturn, 1)) {post : Option Value → mM → Prop} (T : Rt X post) (hty : I.2.2.2.1 = some ty) (hn : narrow ty (.int v) = .int v) (h : post (some (.int v)) M) : V X bc bs pc L [.int v] M := by
  obtain ⟨p, e0, R, s, m, args, below, meth, c, Q, mc, ms, G'⟩ := X
  obtain ⟨rfl, hx, hb, hml, hr, hlk, hown, hts, hK, hroom, hini, hS0⟩ := C
  have T : Q = _ := T
  subst T
  intro H locs cells slots ls hR hc hs hl
  refine W.widen (k := mc) (n := ms) (by omega) (by omega) ?_
  exact W.zret hx hb (hr.trans hty) hn (fun t ht _ => ⟨_, M, rfl, h, by rw [ht]; exact hR.ret⟩) hR.2.2.2.2 d hlk
theorem s_lret {X : mX} {G : mG} {I : mI} (C : Cx X G I) {bc bs pc : Nat} {L : List (Option Value)} {M : mM} {v : Int64} (d : decode I.2.1 pc = .ok (.lreturn, 1)) {post : Option Value → mM → Prop} (T : Rt X post) (hty : I.2.2.2.1 = some .long) (h : post (some (.long v)) M) : V X bc bs pc L [.long v] M := by
  obtain ⟨p, e0, R, s, m, args, below, meth, c, Q, mc, ms, G'⟩ := X
  obtain ⟨rfl, hx, hb, hml, hr, hlk, hown, hts, hK, hroom, hini, hS0⟩ := C
  have T : Q = _ := T
  subst T
  intro H locs cells slots ls hR hc hs hl
  refine W.widen (k := mc) (n := ms) (by omega) (by omega) ?_
  exact W.lret hx hb (hr.trans hty) (fun t ht _ => ⟨_, M, rfl, h, by rw [ht]; exact hR.ret⟩) hR.2.2.2.2 d hlk
theorem s_aret {X : mX} {G : mG} {I : mI} (C : Cx X G I) {bc bs pc : Nat} {L : List (Option Value)} {M : mM} {a : Nat} {ty : FieldType} (d : decode I.2.1 pc = .ok (.areturn, 1)) {post : Option Value → mM → Prop} (T : Rt X post) (hty : I.2.2.2.1 = some ty) (hrt : (∃ n, ty = .object n) ∨ ∃ t, ty = .array t) (h : post (some (.ref a)) M) : V X bc bs pc L [.ref a] M := by
  obtain ⟨p, e0, R, s, m, args, below, meth, c, Q, mc, ms, G'⟩ := X
  obtain ⟨rfl, hx, hb, hml, hr, hlk, hown, hts, hK, hroom, hini, hS0⟩ := C
  have T : Q = _ := T
  subst T
  intro H locs cells slots ls hR hc hs hl
  refine W.widen (k := mc) (n := ms) (by omega) (by omega) ?_
  exact W.aret hx hb (hr.trans hty) hrt (Or.inr ⟨a, rfl⟩) (fun t ht _ => ⟨_, M, rfl, h, by rw [ht]; exact hR.ret⟩) hR.2.2.2.2 d hlk
end RWS
/-! memory rows -/
/-- a field of the classes here, as a class of ours links it -/
def mF (own : String) (idx ci k : Nat) : Prop := ∃ r : vw_C, vwCl[ci]? = some r ∧ k < r.2.2 ∧ (∀ w ∈ u_ws r.1 r.2.1 r.2.2, w ∈ BIG) ∧ Cond.fieldLink own idx (r.2.1 k).1 (r.2.1 k).2.1 (r.2.1 k).2.2.1 ∈ BIG
theorem s_getf {X : mX} {G : mG} {I : mI} (C : Cx X G I) {bc bs pc : Nat} (q : Nat) {L : List (Option Value)} {st : List Value} {M : mM} {idx ci k a t : Nat} {fs : List Value} {v : Value} (d : decode I.2.1 pc = .ok (.getfield idx, 3)) (e : pc + 3 = q) (hf : mF I.1.cls idx ci k) (hM : M a = some (t, .inl (ci, fs))) (hv : fs[k]? = some v) (h : V X bc bs q L (v :: st) M) : V X bc bs pc L (.ref a :: st) M := by
  obtain ⟨p, e0, R, s, m, args, below, meth, c, Q, mc, ms, G'⟩ := X
  obtain ⟨rfl, hx, hb, hml, hr, hlk, hown, hts, hK, hroom, hini, hS0⟩ := C
  obtain ⟨r, h1, h2, h3, h4⟩ := hf
  subst e
  intro H locs cells slots ls hR hc hs hl
  exact va_get (ws := [(a, .inr (ci, fs))]) hx hb hts h3 hown hK.1 (fun k q hq => by
    cases k with
    | zero => cases hq; exact hR.1 a t _ hM
    | succ k => cases hq) 0 rfl h1 k h2 (hts _ h4) (fun _ h9 => h9) hv d (h H locs cells slots ls hR hc hs hl)
/-- a field that may be written: of type ty -/
def mFp (own : String) (idx ci k : Nat) (ty : FieldType) (fin : Bool) : Prop := ∃ (r : vw_C) (ty0 : Nat → FieldType), vwCl[ci]? = some r ∧ k < r.2.2 ∧ (∀ w ∈ u_ws r.1 r.2.1 r.2.2, w ∈ BIG) ∧ Cond.fieldLink own idx (r.2.1 k).1 (r.2.1 k).2.1 (r.2.1 k).2.2.1 ∈ BIG ∧ (∀ k, k < r.2.2 → parseFieldDescriptor (r.2.1 k).2.2.1 = some (ty0 k)) ∧ (∀ a, a < r.2.2 → ∀ b, b < r.2.2 → a ≠ b → (r.2.1 a).2.1 ≠ (r.2.1 b).2.1) ∧ ty0 k = ty ∧ (r.2.1 k).2.2.2 = fin ∧ (fin = true → (r.2.1 k).1 = own)
theorem s_putf {X : mX} {G : mG} {I : mI} (C : Cx X G I) {bc bs pc : Nat} (q : Nat) {L : List (Option Value)} {st : List Value} {M : mM} {idx ci k a t : Nat} {ty : FieldType} {fs : List Value} {v : Value} (d : decode I.2.1 pc = .ok (.putfield idx, 3)) (e : pc + 3 = q) (hf : mFp I.1.cls idx ci k ty false) (hM : M a = some (t, .inl (ci, fs))) (ht : t ≠ 0) (hn : narrow ty v = v) (hfit : fits ty v = true) (hlen0 : Nat.ble (k + 1) fs.length = true) (h : V X bc bs q L st (mup M a (t, .inl (ci, fs.set k v)))) : V X bc bs pc L (v :: .ref a :: st) M := by
  obtain ⟨p, e0, R, s, m, args, below, meth, c, Q, mc, ms, G'⟩ := X
  obtain ⟨rfl, hx, hb, hml, hr, hlk, hown, hts, hK, hroom, hini, hS0⟩ := C
  obtain ⟨r, ty0, h1, h2, h3, h4, h5, h6, h7, h8, -⟩ := hf
  have hlen := Nat.le_of_ble_eq_true hlen0
  subst e
  subst h7
  intro H locs cells slots ls hR hc hs hl
  refine va_put (ws := (a, .inr (ci, fs)) :: mWx G' M H a) hx hb hts h3 ty0 h5 h6 hown hK.1 (mWx_P hR hM) (mWx_D hR hM ht _) hR.2.2 0 rfl h1 k h2 (hts _ h4) (fun _ h9 => h9) h8 (h5 k h2) hn hfit hlen d (fun H1 locs1 hP _ hS => ?_)
  exact h H1 locs1 cells slots ls (mR_put (e' := .inl (ci, fs.set k v)) hR hM hP hS) hc hs hl
theorem s_putF {X : mX} {G : mG} {I : mI} (C : Cx X G I) {bc bs pc : Nat} (q : Nat) {L : List (Option Value)} {st : List Value} {M : mM} {idx ci k a t : Nat} {ty : FieldType} {fs : List Value} {v : Value} (d : decode I.2.1 pc = .ok (.putfield idx, 3)) (e : pc + 3 = q) (hf : mFp I.1.cls idx ci k ty true) (hI : I.1.name = "<init>") (hM : M a = some (t, .inl (ci, fs))) (ht : t ≠ 0) (hn : narrow ty v = v) (hfit : fits ty v = true) (hlen0 : Nat.ble (k + 1) fs.length = true) (h : V X bc bs q L st (mup M a (t, .inl (ci, fs.set k v)))) : V X bc bs pc L (v :: .ref a :: st) M := by
  obtain ⟨p, e0, R, s, m, args, below, meth, c, Q, mc, ms, G'⟩ := X
  obtain ⟨rfl, hx, hb, hml, hr, hlk, hown, hts, hK, hroom, hini, hS0⟩ := C
  obtain ⟨r, ty0, h1, h2, h3, h4, h5, h6, h7, h8, h9⟩ := hf
  have hlen := Nat.le_of_ble_eq_true hlen0
  subst e
  subst h7
  intro H locs cells slots ls hR hc hs hl
  refine va_putF (ws := (a, .inr (ci, fs)) :: mWx G' M H a) hx hb hts h3 ty0 h5 h6 hown hK.1 (mWx_P hR hM) (mWx_D hR hM ht _) hR.2.2 0 rfl h1 k h2 (hts _ h4) (fun _ h9 => h9) h8 (hini hI) (h9 rfl) (h5 k h2) hn hfit hlen d (fun H1 locs1 hP _ hS => ?_)
  exact h H1 locs1 cells slots ls (mR_put (e' := .inl (ci, fs.set k v)) hR hM hP hS) hc hs hl
/-- reading rows of ints (kind 0) and of chars (kind 1) -/
theorem s_iald {X : mX} {G : mG} {I : mI} (C : Cx X G I) {bc bs pc : Nat} (q : Nat) {L : List (Option Value)} {st : List Value} {M : mM} {a t n : Nat} {f : Nat → Int32} {i : Nat} (d : decode I.2.1 pc = .ok (.iaload, 1)) (e : pc + 1 = q) (hM : M a = some (t, .inr (0, n, .inl f))) (hi : i < n) (hn : n < 2 ^ 31) (h : V X bc bs q L (.int (f i) :: st) M) : V X bc bs pc L (.int (nI i) :: .ref a :: st) M := by
  obtain ⟨p, e0, R, s, m, args, below, meth, c, Q, mc, ms, G'⟩ := X
  obtain ⟨rfl, hx, hb, hml, hr, hlk, hown, hts, hK, hroom, hini, hS0⟩ := C
  subst e
  intro H locs cells slots ls hR hc hs hl
  refine va_iald (ws := [(a, .inl (G'.2.2.2.1 0, n, .inl f))]) hx hb hK.1 (fun k q hq => by
    cases k with
    | zero => cases hq; exact hR.1 a t _ hM
    | succ k => cases hq) 0 0 rfl rfl (vp_in_nI hi hn) d ?_
  rw [nI_clamp (by omega)]
  exact h H locs cells slots ls hR hc hs hl
theorem s_cald {X : mX} {G : mG} {I : mI} (C : Cx X G I) {bc bs pc : Nat} (q : Nat) {L : List (Option Value)} {st : List Value} {M : mM} {a t n : Nat} {f : Nat → Int32} {i : Nat} (d : decode I.2.1 pc = .ok (.caload, 1)) (e : pc + 1 = q) (hM : M a = some (t, .inr (1, n, .inl f))) (hi : i < n) (hn : n < 2 ^ 31) (h : V X bc bs q L (.int (f i) :: st) M) : V X bc bs pc L (.int (nI i) :: .ref a :: st) M := by
  obtain ⟨p, e0, R, s, m, args, below, meth, c, Q, mc, ms, G'⟩ := X
  obtain ⟨rfl, hx, hb, hml, hr, hlk, hown, hts, hK, hroom, hini, hS0⟩ := C
  subst e
  intro H locs cells slots ls hR hc hs hl
  refine va_cald (ws := [(a, .inl (G'.2.2.2.1 1, n, .inl f))]) hx hb hK.1 (fun k q hq => by
    cases k with
    | zero => cases hq; exact hR.1 a t _ hM
    | succ k => cases hq) 0 1 rfl rfl (vp_in_nI hi hn) d ?_
  rw [nI_clamp (by omega)]
  exact h H locs cells slots ls hR hc hs hl
/-- reading rows of references: of objects (kinds 2, 3), of rows (kind 4) -/
theorem s_aald {X : mX} {G : mG} {I : mI} (C : Cx X G I) {bc bs pc : Nat} (q : Nat) {L : List (Option Value)} {st : List Value} {M : mM} {a t n kd : Nat} {f : Nat → Option Nat} {i : Nat} (d : decode I.2.1 pc = .ok (.aaload, 1)) (e : pc + 1 = q) (hM : M a = some (t, .inr (kd, n, .inr f))) (hkd : kd = 2 ∨ kd = 3 ∨ kd = 4) (hi : i < n) (hn : n < 2 ^ 31) (h : V X bc bs q L (va_rf (f i) :: st) M) : V X bc bs pc L (.int (nI i) :: .ref a :: st) M := by
  obtain ⟨p, e0, R, s, m, args, below, meth, c, Q, mc, ms, G'⟩ := X
  obtain ⟨rfl, hx, hb, hml, hr, hlk, hown, hts, hK, hroom, hini, hS0⟩ := C
  subst e
  intro H locs cells slots ls hR hc hs hl
  have hcell : H[a]? = some (vp_cell (G'.2.2.2.1 kd) (n, .inr (.inr (.inr (.inr f))))) := hR.1 a t _ hM
  have hv : (f (nI i).toNatClampNeg) = f i := by rw [nI_clamp (by omega)]
  have hlt : (nI i).toNatClampNeg < n := by rw [nI_clamp (by omega)]; exact hi
  have go : ∀ (ty : FieldType), ArrOfT s (G'.2.2.2.1 kd) ty → ty.isReference = true → W p G'.1 e0 R s m args below meth c H locs cells slots Q (F0 m pc ls (.int (nI i) :: .ref a :: st)) := by
    intro ty hA hty
    exact W.aald (v := va_rf (f i)) (ty := ty) hx hb hcell (hA n (fun j => va_rf (f j))) hty (fun q => by cases q) (by show ¬ (nI i < 0 ∨ (arrV _ _ _).slots.size ≤ _); rw [arrV_size]; exact vp_in_nI hi hn) (by show (arrV _ _ _).slots[_]? = _; rw [arrV_read _ _ hlt, hv]) rfl rfl d (h H locs cells slots ls hR hc hs hl)
  rcases hkd with rfl | rfl | rfl
  · exact go (.object "java/lang/Object") (hK.1.2 2 _ rfl).1 rfl
  · exact go (.object "TitleFinder$State") (hK.1.2 3 _ rfl).1 rfl
  · exact go (.array .int) (hK.1.2 4 _ rfl).1 rfl
theorem s_alen {X : mX} {G : mG} {I : mI} (C : Cx X G I) {bc bs pc : Nat} (q : Nat) {L : List (Option Value)} {st : List Value} {M : mM} {a t n kd : Nat} {f : (Nat → Int32) ⊕ (Nat → Option Nat)} (d : decode I.2.1 pc = .ok (.arraylength, 1)) (e : pc + 1 = q) (hM : M a = some (t, .inr (kd, n, f))) (hkd : kd < 6) (h : V X bc bs q L (.int (nI n) :: st) M) : V X bc bs pc L (.ref a :: st) M := by
  obtain ⟨p, e0, R, s, m, args, below, meth, c, Q, mc, ms, G'⟩ := X
  obtain ⟨rfl, hx, hb, hml, hr, hlk, hown, hts, hK, hroom, hini, hS0⟩ := C
  subst e
  intro H locs cells slots ls hR hc hs hl
  have hty : ∃ ty, (tysK G'.2.2.2.1)[kd]? = some (G'.2.2.2.1 kd, ty) := by
    match kd, hkd with
    | 0, _ => exact ⟨_, rfl⟩
    | 1, _ => exact ⟨_, rfl⟩
    | 2, _ => exact ⟨_, rfl⟩
    | 3, _ => exact ⟨_, rfl⟩
    | 4, _ => exact ⟨_, rfl⟩
    | 5, _ => exact ⟨_, rfl⟩
  obtain ⟨ty, hty⟩ := hty
  cases f with
  | inl f =>
    exact va_alen (ws := [(a, .inl (G'.2.2.2.1 kd, n, .inl f))]) hx hb hK.1 (fun k q hq => by
      cases k with
      | zero => cases hq; exact hR.1 a t _ hM
      | succ k => cases hq) 0 kd rfl hty rfl d (h H locs cells slots ls hR hc hs hl)
  | inr f =>
    exact va_alen (ws := [(a, .inl (G'.2.2.2.1 kd, n, .inr (.inr (.inr (.inr f)))))]) hx hb hK.1 (fun k q hq => by
      cases k with
      | zero => cases hq; exact hR.1 a t _ hM
      | succ k => cases hq) 0 kd rfl hty rfl d (h H locs cells slots ls hR hc hs hl)
theorem s_iast {X : mX} {G : mG} {I : mI} (C : Cx X G I) {bc bs pc : Nat} (q : Nat) {L : List (Option Value)} {st : List Value} {M : mM} {a t n : Nat} {f : Nat → Int32} {i : Nat} {x : Int32} (d : decode I.2.1 pc = .ok (.iastore, 1)) (e : pc + 1 = q) (hM : M a = some (t, .inr (0, n, .inl f))) (ht : t ≠ 0) (hi : i < n) (hn : n < 2 ^ 31) (h : V X bc bs q L st (mup M a (t, .inr (0, n, .inl (upd f i x))))) : V X bc bs pc L (.int x :: .int (nI i) :: .ref a :: st) M := by
  obtain ⟨p, e0, R, s, m, args, below, meth, c, Q, mc, ms, G'⟩ := X
  obtain ⟨rfl, hx, hb, hml, hr, hlk, hown, hts, hK, hroom, hini, hS0⟩ := C
  subst e
  intro H locs cells slots ls hR hc hs hl
  refine va_iast (ws := (a, .inl (G'.2.2.2.1 0, n, .inl f)) :: mWx G' M H a) hx hb hK.1 (mWx_P hR hM) (mWx_D hR hM ht _) hR.2.2 0 0 rfl rfl (vp_in_nI hi hn) d (fun H1 locs1 hP _ hS => ?_)
  rw [nI_clamp (by omega)] at hP
  exact h H1 locs1 cells slots ls (mR_put (e' := .inr (0, n, .inl (upd f i x))) hR hM hP hS) hc hs hl
theorem s_cast {X : mX} {G : mG} {I : mI} (C : Cx X G I) {bc bs pc : Nat} (q : Nat) {L : List (Option Value)} {st : List Value} {M : mM} {a t n : Nat} {f : Nat → Int32} {i : Nat} {x : Int32} (d : decode I.2.1 pc = .ok (.castore, 1)) (e : pc + 1 = q) (hM : M a = some (t, .inr (1, n, .inl f))) (ht : t ≠ 0) (hi : i < n) (hn : n < 2 ^ 31) (hx0 : vp_nar .char x = x) (h : V X bc bs q L st (mup M a (t, .inr (1, n, .inl (upd f i x))))) : V X bc bs pc L (.int x :: .int (nI i) :: .ref a :: st) M := by
  obtain ⟨p, e0, R, s, m, args, below, meth, c, Q, mc, ms, G'⟩ := X
  obtain ⟨rfl, hx, hb, hml, hr, hlk, hown, hts, hK, hroom, hini, hS0⟩ := C
  subst e
  intro H locs cells slots ls hR hc hs hl
  refine va_cast (ws := (a, .inl (G'.2.2.2.1 1, n, .inl f)) :: mWx G' M H a) hx hb hK.1 (mWx_P hR hM) (mWx_D hR hM ht _) hR.2.2 0 1 rfl rfl (vp_in_nI hi hn) d (fun H1 locs1 hP _ hS => ?_)
  rw [nI_clamp (by omega), hx0] at hP
  exact h H1 locs1 cells slots ls (mR_put (e' := .inr (1, n, .inl (upd f i x))) hR hM hP hS) hc hs hl
/-- an object (class cv) into a row of objects of class E -/
theorem s_aast {X : mX} {G : mG} {I : mI} (C : Cx X G I) {bc bs pc : Nat} (q : Nat) {L : List (Option Value)} {st : List Value} {M : mM} {a t n kd v tv ci : Nat} {f : Nat → Option Nat} {vs : List Value} {i : Nat} {E : String} {r : vw_C} (d : decode I.2.1 pc = .ok (.aastore, 1)) (e : pc + 1 = q) (hM : M a = some (t, .inr (kd, n, .inr f))) (ht : t ≠ 0) (hkd : kd = 2 ∧ E = "java/lang/Object" ∨ kd = 3 ∧ E = "TitleFinder$State") (hv : M v = some (tv, .inl (ci, vs))) (hci : vwCl[ci]? = some r) (hcs : r.1 = "TitleFinder$Title" ∧ E = "java/lang/Object" ∨ r.1 = E) (hi : i < n) (hn : n < 2 ^ 31) (h : V X bc bs q L st (mup M a (t, .inr (kd, n, .inr (va_up f i (some v)))))) : V X bc bs pc L (.ref v :: .int (nI i) :: .ref a :: st) M := by
  obtain ⟨p, e0, R, s, m, args, below, meth, c, Q, mc, ms, G'⟩ := X
  obtain ⟨rfl, hx, hb, hml, hr, hlk, hown, hts, hK, hroom, hini, hS0⟩ := C
  subst e
  intro H locs cells slots ls hR hc hs hl
  have hva : a ≠ v := by
    intro h
    subst h
    rw [hM] at hv
    cases hv
  have hvt : tv ≠ 0 ∨ tv = 0 := (Classical.em _).symm
  obtain ⟨r', hr', cellV, g1, g2, g3, -⟩ := hR.1 v tv _ hv
  have : r' = r := Option.some.inj (hr'.symm.trans hci)
  subst this
  have hcls := (hK.1.1 ci r' hci).2
  have hAny : va_Any E s H v := by
    obtain ⟨kC, hkC, -⟩ := hcls.2
    refine ⟨cellV, g1, by rw [g3]; rfl, ⟨kC, by rw [g2]; exact hkC⟩, fun comp hcomp => ?_⟩
    rw [g2]
    rcases hcs with ⟨e1, e2⟩ | e1
    · have hn := hK.2.2.2.2.2.2.2.2.2.2.1
      rw [← e1, ← e2] at hn
      unfold va_Nw at hn
      simp [Cond.before, Cond.holds, Cond.value, hcls.1, hcomp] at hn
      exact hn
    · rw [← e1] at hcomp
      have : comp = G'.2.2.1.1 ci := Option.some.inj (hcomp.symm.trans hcls.1)
      rw [this]
      exact va_assign hcls
  rcases hkd with ⟨rfl, rfl⟩ | ⟨rfl, rfl⟩
  · refine va_astqM (ws := (a, .inl (G'.2.2.2.1 2, n, .inr (.inr (.inr (.inr f))))) :: mWx G' M H a) hx hb hK.1 (mWx_P hR hM) (mWx_D hR hM ht _) hR.2.2 0 2 rfl rfl hAny (vp_in_nI hi hn) d (fun H1 locs1 hP _ hS => ?_)
    rw [nI_clamp (by omega)] at hP
    exact h H1 locs1 cells slots ls (mR_put (e' := .inr (2, n, .inr (va_up f i (some v)))) hR hM hP hS) hc hs hl
  · refine va_astqM (ws := (a, .inl (G'.2.2.2.1 3, n, .inr (.inr (.inr (.inr f))))) :: mWx G' M H a) hx hb hK.1 (mWx_P hR hM) (mWx_D hR hM ht _) hR.2.2 0 3 rfl rfl hAny (vp_in_nI hi hn) d (fun H1 locs1 hP _ hS => ?_)
    rw [nI_clamp (by omega)] at hP
    exact h H1 locs1 cells slots ls (mR_put (e' := .inr (3, n, .inr (va_up f i (some v)))) hR hM hP hS) hc hs hl
/-- null into a row of objects -/
theorem s_aastN {X : mX} {G : mG} {I : mI} (C : Cx X G I) {bc bs pc : Nat} (q : Nat) {L : List (Option Value)} {st : List Value} {M : mM} {a t n : Nat} {f : Nat → Option Nat} {i : Nat} (d : decode I.2.1 pc = .ok (.aastore, 1)) (e : pc + 1 = q) (hM : M a = some (t, .inr (2, n, .inr f))) (ht : t ≠ 0) (hi : i < n) (hn : n < 2 ^ 31) (h : V X bc bs q L st (mup M a (t, .inr (2, n, .inr (va_up f i none))))) : V X bc bs pc L (.null :: .int (nI i) :: .ref a :: st) M := by
  obtain ⟨p, e0, R, s, m, args, below, meth, c, Q, mc, ms, G'⟩ := X
  obtain ⟨rfl, hx, hb, hml, hr, hlk, hown, hts, hK, hroom, hini, hS0⟩ := C
  subst e
  intro H locs cells slots ls hR hc hs hl
  refine va_astqN (ws := (a, .inl (G'.2.2.2.1 2, n, .inr (.inr (.inr (.inr f))))) :: mWx G' M H a) hx hb hK.1 (mWx_P hR hM) (mWx_D hR hM ht _) hR.2.2 0 2 rfl rfl (vp_in_nI hi hn) d (fun H1 locs1 hP _ hS => ?_)
  rw [nI_clamp (by omega)] at hP
  exact h H1 locs1 cells slots ls (mR_put (e' := .inr (2, n, .inr (va_up f i none))) hR hM hP hS) hc hs hl
/-- making an object -/
def mN (own : String) (idx ci : Nat) (fs : List Value) : Prop := ∃ (r : vw_C) (ty0 : Nat → FieldType), vwCl[ci]? = some r ∧ (∀ w ∈ u_ws r.1 r.2.1 r.2.2, w ∈ BIG) ∧ (∀ k, k < r.2.2 → parseFieldDescriptor (r.2.1 k).2.2.1 = some (ty0 k)) ∧ Cond.classLink own idx r.1 ∈ BIG ∧ Cond.instantiable r.1 r.2.2 ∈ BIG ∧ Cond.initialized r.1 ∈ BIG ∧ (∀ j, j < r.2.2 → defaultValue (ty0 j) = vp_V fs j) ∧ r.2.2 = fs.length
theorem s_new {X : mX} {G : mG} {I : mI} (C : Cx X G I) {bc bs pc : Nat} (q bc' bs' tag : Nat) {L : List (Option Value)} {st : List Value} {M : mM} {idx ci : Nat} {fs : List Value} (d : decode I.2.1 pc = .ok (.new idx, 3)) (e : pc + 3 = q) (hn : mN I.1.cls idx ci fs) (ht : tag ≠ 0) (hbc : bc' + 1 ≤ bc) (hbs : bs' + fs.length ≤ bs) (h : ∀ a, M a = none → G.2.1.size ≤ a → V X bc' bs' q L (.ref a :: st) (mup M a (tag, .inl (ci, fs)))) : V X bc bs pc L st M := by
  obtain ⟨p, e0, R, s, m, args, below, meth, c, Q, mc, ms, G'⟩ := X
  obtain ⟨rfl, hx, hb, hml, hr, hlk, hown, hts, hK, hroom, hini, hS0⟩ := C
  obtain ⟨r, ty0, h1, h2, h3, h4, h5, h6, h7, h8⟩ := hn
  subst e
  intro H locs cells slots ls hR hc hs hl
  refine va_new (ws := mW G'.2.2.2.1 M H.size (fun _ => true)) (fs := fs) hx hb hts h2 ty0 h3 hown (hts _ h4) (hts _ h5) (hts _ h6) hK.1 (mW_P hR) (mW_D hR) hR.2.2 (fun q h => h) h1 h7 (by omega) (by omega) d (fun a H1 hP hD hS => ?_)
  obtain ⟨g1, g2, g3⟩ := mR_new (e := .inl (ci, fs)) hR ht hP hD hS
  exact h a g1 g2 H1 locs _ _ ls g3 (by omega) (by omega) hl
/-- making a row of ints or of chars -/
theorem s_newa {X : mX} {G : mG} {I : mI} (C : Cx X G I) {bc bs pc : Nat} (q bc' bs' tag : Nat) {L : List (Option Value)} {st : List Value} {M : mM} {at0 : ArrayType} {kd n : Nat} (d : decode I.2.1 pc = .ok (.newarray at0, 2)) (e : pc + 2 = q) (hkd : at0 = .int ∧ kd = 0 ∧ Cond.arrayClass .int ∈ BIG ∨ at0 = .char ∧ kd = 1 ∧ Cond.arrayClass .char ∈ BIG) (hn : n ≤ 100000) (ht : tag ≠ 0) (hbc : bc' + 1 ≤ bc) (hbs : bs' + n ≤ bs) (h : ∀ a, M a = none → G.2.1.size ≤ a → V X bc' bs' q L (.ref a :: st) (mup M a (tag, .inr (kd, n, .inl (fun _ => 0))))) : V X bc bs pc L (.int (nI n) :: st) M := by
  obtain ⟨p, e0, R, s, m, args, below, meth, c, Q, mc, ms, G'⟩ := X
  obtain ⟨rfl, hx, hb, hml, hr, hlk, hown, hts, hK, hroom, hini, hS0⟩ := C
  subst e
  intro H locs cells slots ls hR hc hs hl
  have hz : (nI n).toNatClampNeg = n := nI_clamp (by omega)
  rcases hkd with ⟨rfl, rfl, hw⟩ | ⟨rfl, rfl, hw⟩
  · refine va_newaK hx hb (atype := .int) (hts _ hw) rfl d rfl (nI_pos (by omega)) hz (by show n * 4 ≤ _; omega) (by omega) (by omega) rfl (fun H1 cA e1 z1 o1 hAr hNm => ?_)
    have hcA : cA = G'.2.2.2.1 0 := Option.some.inj (hNm.symm.trans (hK.1.2 0 _ rfl).2)
    subst hcA
    have hk : ∀ (k : Nat) (x : Nat × va_E), (mW G'.2.2.2.1 M H.size (fun _ => true))[k]? = some x → H1[x.1]? = H[x.1]? := fun k x hx => o1 x.1 ((mW_P hR k x hx).lt)
    obtain ⟨g1, g2, g3⟩ := mR_new (q := H.size) (e := .inr (0, n, .inl (fun _ => 0))) hR ht (((mW_P hR).kept hk).app (fun k x hx => by
      cases k with
      | zero => cases hx; exact e1
      | succ k => cases hx)) ((mW_D hR).push (mW_P hR) rfl hR.2.2.1) ⟨Nat.le_trans hR.2.2.1 (by omega), fun x h1 h2 => (o1 x (Nat.lt_of_lt_of_le h1 hR.2.2.1)).trans (hR.2.2.2.1 x h1 h2), hR.2.2.2.2⟩
    exact h H.size g1 g2 H1 locs _ _ ls g3 (by omega) (by omega) hl
  · refine va_newaK hx hb (atype := .char) (hts _ hw) rfl d rfl (nI_pos (by omega)) hz (by show n * 2 ≤ _; omega) (by omega) (by omega) rfl (fun H1 cA e1 z1 o1 hAr hNm => ?_)
    have hcA : cA = G'.2.2.2.1 1 := Option.some.inj (hNm.symm.trans (hK.1.2 1 _ rfl).2)
    subst hcA
    have hk : ∀ (k : Nat) (x : Nat × va_E), (mW G'.2.2.2.1 M H.size (fun _ => true))[k]? = some x → H1[x.1]? = H[x.1]? := fun k x hx => o1 x.1 ((mW_P hR k x hx).lt)
    obtain ⟨g1, g2, g3⟩ := mR_new (q := H.size) (e := .inr (1, n, .inl (fun _ => 0))) hR ht (((mW_P hR).kept hk).app (fun k x hx => by
      cases k with
      | zero => cases hx; exact e1
      | succ k => cases hx)) ((mW_D hR).push (mW_P hR) rfl hR.2.2.1) ⟨Nat.le_trans hR.2.2.1 (by omega), fun x h1 h2 => (o1 x (Nat.lt_of_lt_of_le h1 hR.2.2.1)).trans (hR.2.2.2.1 x h1 h2), hR.2.2.2.2⟩
    exact h H.size g1 g2 H1 locs _ _ ls g3 (by omega) (by omega) hl
/-- a ghost tag changes -/
theorem s_tag {X : mX} {bc bs pc : Nat} {L : List (Option Value)} {st : List Value} {M : mM} (a t t' : Nat) {e : mE} (ha : M a = some (t, e)) (ht : t ≠ 0) (ht' : t' ≠ 0) (h : V X bc bs pc L st (mup M a (t', e))) : V X bc bs pc L st M := by
  obtain ⟨p, e0, R, s, m, args, below, meth, c, Q, mc, ms, G⟩ := X
  intro H locs cells slots ls hR hc hs hl
  exact h H locs cells slots ls (mR_tag hR ha ht ht') hc hs hl
/-! calls -/
/-- who may be called on: an object of class cls -/
def mRv (G : mG) (M : mM) (cls : String) (b : Nat) : Prop := ∀ (s : State) (H : Heap) (locs : List Loc), mK G s → mR G M H locs → ∃ cellB : Cell, H[b]? = some cellB ∧ cellB.vm.isStatics = false ∧ s.vm.findClass cls = some cellB.cls
theorem mRv_of {G : mG} {M : mM} {b t ci : Nat} {fs : List Value} {cls : String} (hM : M b = some (t, .inl (ci, fs))) (hc : (vwCl[ci]?).map (fun r => r.1) = some cls) : mRv G M cls b := by
  intro s H locs hK hR
  obtain ⟨r, h1, cell, g1, g2, g3, -⟩ := hR.1 b t _ hM
  have h1 : vwCl[ci]? = some r := h1
  rw [h1] at hc
  have hc : r.1 = cls := Option.some.inj hc
  subst hc
  exact ⟨cell, g1, by rw [g3]; rfl, by rw [g2]; exact (hK.1.1 ci r h1).2.1⟩
def mCB (own : String) (idx : Nat) (J : mI) (n : Nat) : Prop := Cond.code J.1 J.2.1 J.2.2.1 J.2.2.2.1 ∈ BIG ∧ Cond.initialized J.1.cls ∈ BIG ∧ (J.1.cls ≠ "java/lang/invoke/MethodHandle" ∧ J.1.cls ≠ "java/lang/invoke/VarHandle") ∧ (parseMethodDescriptor J.1.desc).map (fun d => d.parameters.length) = some n
/-- a call of a method on an object, of a static method, of a constructor, of a nest mate's constructor -/
def mCv (own : String) (idx : Nat) (J : mI) (n : Nat) : Prop := mCB own idx J n ∧ Cond.methodLink own idx J.1 ∈ BIG ∧ Cond.instanceMethod J.1 ∈ BIG ∧ Cond.selects J.1.cls J.1 J.1 ∈ BIG
def mCs (own : String) (idx : Nat) (J : mI) (n : Nat) : Prop := mCB own idx J n ∧ Cond.methodLink own idx J.1 ∈ BIG ∧ Cond.static J.1 ∈ BIG
def mCi (own : String) (idx : Nat) (J : mI) (n : Nat) : Prop := mCB own idx J n ∧ Cond.methodLink own idx J.1 ∈ BIG ∧ Cond.instanceMethod J.1 ∈ BIG ∧ J.1.name = "<init>" ∧ J.2.2.2.1 = none
def mCn (own : String) (idx : Nat) (J : mI) (n : Nat) : Prop := mCB own idx J n ∧ (∃ host, Cond.methodLinkNest own idx J.1 host ∈ mNest) ∧ Cond.instanceMethod J.1 ∈ BIG ∧ J.1.name = "<init>" ∧ J.2.2.2.1 = none
/-- the callee's room lies in the caller's -/
def mH (I J : mI) : Prop := J.2.2.2.2 + 1 ≤ I.2.2.2.2 ∧ 8 + (J.2.2.1 + 11) + 32 * J.2.2.2.2 ≤ 32 * I.2.2.2.2
theorem mblind {G : mG} {M : mM} {As : List Value} : FrameBlind (fun v U => v = As.toArray ∧ mR G M U.heap [] ∧ mK G U) := fun a U g mk h => ⟨h.1, h.2.1, mK.same (u := U) (U := U.calling g mk a) rfl h.2.2⟩
theorem V_back {p : Program} {e0 : Env} {R : Room} {s : State} {m : MethodId} {args : Array Value} {below : List Frame} {meth : Method} {c : Code} {Q : State → Prop} {mc ms : Nat} {G : mG} {H : Heap} {locs : List Loc} {cells slots mc' ms' bc' bs' pc : Nat} {ls : Array Slot} {L : List (Option Value)} {st rest : List Value} {post : Option Value → mM → Prop}
    (hS : va_S (mAf G.2.1) G.2.1 H locs) (hc : cells + mc' + bc' ≤ mc) (hs : slots + ms' + bs' ≤ ms) (hl : mL ls L)
    (hr : va_Run p G.1 e0 R s m args below meth c H locs cells slots mc' ms' (F0 m pc ls st) rest (fun _ o t => ∃ r M', o = .returned r ∧ post r M' ∧ mR G M' t.heap []) (mAf G.2.1))
    (k : ∀ r M', post r M' → V (p, e0, R, s, m, args, below, meth, c, Q, mc, ms, G) bc' bs' (pc + 3) L (r.toList ++ rest) M') : W p G.1 e0 R s m args below meth c H locs cells slots Q (F0 m pc ls st) := by
  intro T hT X0
  obtain ⟨v, st₀, t, T', Lc, h0, X', hL, e1, e2, ⟨r, M', hv, hp, hm⟩, stp⟩ := hr T hT X0
  cases hv
  have hR' : mR G M' T'.heap (locs ++ Lc) := by
    rw [e1]
    refine ⟨hm.1, hm.2.1, hm.2.2.1, hm.2.2.2.1, fun l hl => ?_⟩
    rcases List.mem_append.mp hl with h | h
    · exact hS.2.2 l h
    · exact hL l h
  obtain ⟨t2, a1, b1⟩ := k v M' hp T'.heap (locs ++ Lc) (cells + mc') (slots + ms') ls hR' hc hs hl T' rfl X'
  exact ⟨t2, stp t2 a1, b1⟩
theorem s_invV {X : mX} {G : mG} {I : mI} (C : Cx X G I) {bc bs pc : Nat} (q bc' bs' : Nat) {L : List (Option Value)} {st : List Value} (rest : List Value) {M : mM} {idx mc' ms' : Nat} {J : mI} {post : Option Value → mM → Prop} {n : Nat} {As : List Value} {b : Nat} (hrv : mRv G M J.1.cls b) (d : decode I.2.1 pc = .ok (.invokevirtual idx, 3)) (e : pc + 3 = q) (hm : mCv I.1.cls idx J n) (hct : CC G J mc' ms' (.ref b :: As) M post) (hst : st = As.reverse ++ .ref b :: rest) (hn : As.length = n) (hL : L.length = I.2.2.1) (hh : mH I J) (hw : (rest.map fun v => v.category).sum ≤ 8) (hbc : bc' + mc' ≤ bc) (hbs : bs' + ms' ≤ bs) (k : ∀ r M', post r M' → V X bc' bs' q L (r.toList ++ rest) M') : V X bc bs pc L st M := by
  obtain ⟨p, e0, R, s, m, args, below, meth, c, Q, mc, ms, G'⟩ := X
  obtain ⟨rfl, hx, hb, hml, hr, hlk, hown, hts, hK, hroom, hini, hS0⟩ := C
  obtain ⟨⟨w1, w2, w3, w4⟩, CC0⟩ := hm
  subst e
  intro H locs cells slots ls hR hc hs hl
  have hCB : ∀ w ∈ (Cond.code J.1 J.2.1 J.2.2.1 J.2.2.2.1 :: BIG), ∀ (a' : Array Value) (U : State), s.WarmedH U.vm → w.before a' U = true := by
    intro w hw a' U hW
    have hw : w ∈ BIG := (List.mem_cons.mp hw).elim (fun e => by rw [e]; exact w1) id
    exact word_at hW (big_good w hw) (hts w hw)
  have hsig : ∀ sig, parseMethodDescriptor J.1.desc = some sig → n = sig.parameters.length := by
    intro sig h
    rw [h] at w4
    exact (Option.some.inj w4).symm
  have hro : (mRoom J.2.2.2.2 mc' ms').frames + 1 ≤ R.frames ∧ 8 + (J.2.2.1 + 11) + (mRoom J.2.2.2.2 mc' ms').locals ≤ R.locals := ⟨Nat.le_trans hh.1 hroom.1, Nat.le_trans hh.2 hroom.2.1⟩
  obtain ⟨w5, w6, w7⟩ := CC0
  exact V_back hR.2.2 (by omega) (by omega) hl (va_runV (As := As) (rest := rest) ⟨hx, hb, hml, hown, hts⟩ hct ⟨⟨rfl, rfl, hro.1, hro.2, hCB, List.mem_cons_self, hts _ w1, hts _ w2, w3, hsig, hts _ w5⟩, hts _ w6, hts _ w7⟩ ⟨mblind, hrv s H locs hK hR, fun U hU hW => ⟨rfl, by rw [hU]; exact hR.ret, mK.warm hW hK⟩⟩ rfl hn (hl.1.trans hL) hst (lv_room hw) d ⟨by omega, by omega⟩) k
theorem s_invS {X : mX} {G : mG} {I : mI} (C : Cx X G I) {bc bs pc : Nat} (q bc' bs' : Nat) {L : List (Option Value)} {st : List Value} (rest : List Value) {M : mM} {idx mc' ms' : Nat} {J : mI} {post : Option Value → mM → Prop} {n : Nat} {As : List Value}  (d : decode I.2.1 pc = .ok (.invokestatic idx, 3)) (e : pc + 3 = q) (hm : mCs I.1.cls idx J n) (hct : CC G J mc' ms' (As) M post) (hst : st = As.reverse ++ rest) (hn : As.length = n) (hL : L.length = I.2.2.1) (hh : mH I J) (hw : (rest.map fun v => v.category).sum ≤ 8) (hbc : bc' + mc' ≤ bc) (hbs : bs' + ms' ≤ bs) (k : ∀ r M', post r M' → V X bc' bs' q L (r.toList ++ rest) M') : V X bc bs pc L st M := by
  obtain ⟨p, e0, R, s, m, args, below, meth, c, Q, mc, ms, G'⟩ := X
  obtain ⟨rfl, hx, hb, hml, hr, hlk, hown, hts, hK, hroom, hini, hS0⟩ := C
  obtain ⟨⟨w1, w2, w3, w4⟩, CC0⟩ := hm
  subst e
  intro H locs cells slots ls hR hc hs hl
  have hCB : ∀ w ∈ (Cond.code J.1 J.2.1 J.2.2.1 J.2.2.2.1 :: BIG), ∀ (a' : Array Value) (U : State), s.WarmedH U.vm → w.before a' U = true := by
    intro w hw a' U hW
    have hw : w ∈ BIG := (List.mem_cons.mp hw).elim (fun e => by rw [e]; exact w1) id
    exact word_at hW (big_good w hw) (hts w hw)
  have hsig : ∀ sig, parseMethodDescriptor J.1.desc = some sig → n = sig.parameters.length := by
    intro sig h
    rw [h] at w4
    exact (Option.some.inj w4).symm
  have hro : (mRoom J.2.2.2.2 mc' ms').frames + 1 ≤ R.frames ∧ 8 + (J.2.2.1 + 11) + (mRoom J.2.2.2.2 mc' ms').locals ≤ R.locals := ⟨Nat.le_trans hh.1 hroom.1, Nat.le_trans hh.2 hroom.2.1⟩
  obtain ⟨w5, w6⟩ := CC0
  exact V_back hR.2.2 (by omega) (by omega) hl (va_runS (As := As) (rest := rest) ⟨hx, hb, hml, hown, hts⟩ hct ⟨⟨rfl, rfl, hro.1, hro.2, hCB, List.mem_cons_self, hts _ w1, hts _ w2, w3, hsig, hts _ w5⟩, hts _ w6⟩ ⟨mblind, fun U hU hW => ⟨rfl, by rw [hU]; exact hR.ret, mK.warm hW hK⟩⟩ rfl hn (hl.1.trans hL) hst (lv_room hw) d ⟨by omega, by omega⟩) k
theorem s_invI {X : mX} {G : mG} {I : mI} (C : Cx X G I) {bc bs pc : Nat} (q bc' bs' : Nat) {L : List (Option Value)} {st : List Value} (rest : List Value) {M : mM} {idx mc' ms' : Nat} {J : mI} {post : Option Value → mM → Prop} {n : Nat} {As : List Value} {b : Nat} (d : decode I.2.1 pc = .ok (.invokespecial idx, 3)) (e : pc + 3 = q) (hm : mCi I.1.cls idx J n) (hct : CC G J mc' ms' (.ref b :: As) M post) (hst : st = As.reverse ++ .ref b :: rest) (hn : As.length = n) (hL : L.length = I.2.2.1) (hh : mH I J) (hw : (rest.map fun v => v.category).sum ≤ 8) (hbc : bc' + mc' ≤ bc) (hbs : bs' + ms' ≤ bs) (k : ∀ r M', post r M' → V X bc' bs' q L (r.toList ++ rest) M') : V X bc bs pc L st M := by
  obtain ⟨p, e0, R, s, m, args, below, meth, c, Q, mc, ms, G'⟩ := X
  obtain ⟨rfl, hx, hb, hml, hr, hlk, hown, hts, hK, hroom, hini, hS0⟩ := C
  obtain ⟨⟨w1, w2, w3, w4⟩, CC0⟩ := hm
  subst e
  intro H locs cells slots ls hR hc hs hl
  have hCB : ∀ w ∈ (Cond.code J.1 J.2.1 J.2.2.1 J.2.2.2.1 :: BIG), ∀ (a' : Array Value) (U : State), s.WarmedH U.vm → w.before a' U = true := by
    intro w hw a' U hW
    have hw : w ∈ BIG := (List.mem_cons.mp hw).elim (fun e => by rw [e]; exact w1) id
    exact word_at hW (big_good w hw) (hts w hw)
  have hsig : ∀ sig, parseMethodDescriptor J.1.desc = some sig → n = sig.parameters.length := by
    intro sig h
    rw [h] at w4
    exact (Option.some.inj w4).symm
  have hro : (mRoom J.2.2.2.2 mc' ms').frames + 1 ≤ R.frames ∧ 8 + (J.2.2.1 + 11) + (mRoom J.2.2.2.2 mc' ms').locals ≤ R.locals := ⟨Nat.le_trans hh.1 hroom.1, Nat.le_trans hh.2 hroom.2.1⟩
  obtain ⟨w5, w6, w7, w8⟩ := CC0
  rw [CC] at hct
  rw [w8] at hct hCB w1
  exact V_back hR.2.2 (by omega) (by omega) hl (va_runI (As := As) (rest := rest) ⟨hx, hb, hml, hown, hts⟩ hct ⟨⟨rfl, rfl, hro.1, hro.2, hCB, List.mem_cons_self, hts _ w1, hts _ w2, w3, hsig, hts _ w5⟩, w7, hts _ w6⟩ ⟨mblind, fun U hU hW => ⟨rfl, by rw [hU]; exact hR.ret, mK.warm hW hK⟩⟩ rfl hn (hl.1.trans hL) hst (lv_room hw) d ⟨by omega, by omega⟩) k
theorem s_invN {X : mX} {G : mG} {I : mI} (C : Cx X G I) {bc bs pc : Nat} (q bc' bs' : Nat) {L : List (Option Value)} {st : List Value} (rest : List Value) {M : mM} {idx mc' ms' : Nat} {J : mI} {post : Option Value → mM → Prop} {n : Nat} {As : List Value} {b : Nat} (d : decode I.2.1 pc = .ok (.invokespecial idx, 3)) (e : pc + 3 = q) (hm : mCn I.1.cls idx J n) (hct : CC G J mc' ms' (.ref b :: As) M post) (hst : st = As.reverse ++ .ref b :: rest) (hn : As.length = n) (hL : L.length = I.2.2.1) (hh : mH I J) (hw : (rest.map fun v => v.category).sum ≤ 8) (hbc : bc' + mc' ≤ bc) (hbs : bs' + ms' ≤ bs) (k : ∀ r M', post r M' → V X bc' bs' q L (r.toList ++ rest) M') : V X bc bs pc L st M := by
  obtain ⟨p, e0, R, s, m, args, below, meth, c, Q, mc, ms, G'⟩ := X
  obtain ⟨rfl, hx, hb, hml, hr, hlk, hown, hts, hK, hroom, hini, hS0⟩ := C
  obtain ⟨⟨w1, w2, w3, w4⟩, CC0⟩ := hm
  subst e
  intro H locs cells slots ls hR hc hs hl
  have hCB : ∀ w ∈ (Cond.code J.1 J.2.1 J.2.2.1 J.2.2.2.1 :: BIG), ∀ (a' : Array Value) (U : State), s.WarmedH U.vm → w.before a' U = true := by
    intro w hw a' U hW
    have hw : w ∈ BIG := (List.mem_cons.mp hw).elim (fun e => by rw [e]; exact w1) id
    exact word_at hW (big_good w hw) (hts w hw)
  have hsig : ∀ sig, parseMethodDescriptor J.1.desc = some sig → n = sig.parameters.length := by
    intro sig h
    rw [h] at w4
    exact (Option.some.inj w4).symm
  have hro : (mRoom J.2.2.2.2 mc' ms').frames + 1 ≤ R.frames ∧ 8 + (J.2.2.1 + 11) + (mRoom J.2.2.2.2 mc' ms').locals ≤ R.locals := ⟨Nat.le_trans hh.1 hroom.1, Nat.le_trans hh.2 hroom.2.1⟩
  obtain ⟨⟨host, w5⟩, w6, w7, w8⟩ := CC0
  rw [CC] at hct
  rw [w8] at hct hCB w1
  have hnw : va_Nw (.methodLinkNest I.1.cls idx J.1 host) s := hK.2.2.2.2.2.2.2.2.2.1 _ w5
  exact V_back hR.2.2 (by omega) (by omega) hl (va_runIN (As := As) (rest := rest) ⟨hx, hb, hml, hown, hts⟩ hct ⟨va_cnB n hts (ws' := BIG) (fun w hw => ⟨(List.mem_cons.mp hw).elim (fun e => by rw [e]; exact w1) id, big_good w ((List.mem_cons.mp hw).elim (fun e => by rw [e]; exact w1) id)⟩) rfl rfl rfl hnw (hts _ w2) ⟨w3.1, w3.2, w4⟩ hro, w7, hts _ w6⟩ ⟨mblind, fun U hU hW => ⟨rfl, by rw [hU]; exact hR.ret, mK.warm hW hK⟩⟩ rfl hn (hl.1.trans hL) hst (lv_room hw) d ⟨by omega, by omega⟩) k
/-! more rows -/
theorem s_ldc2 {X : mX} {G : mG} {I : mI} (C : Cx X G I) {bc bs pc : Nat} (q : Nat) {L : List (Option Value)} {st : List Value} {M : mM} {idx : Nat} (v : Int64) (d : decode I.2.1 pc = .ok (.ldc2_w idx, 3)) (e : pc + 3 = q) (hc : Cond.constantLong I.1.cls idx v ∈ BIG) (k : V X bc bs q L (.long v :: st) M) : V X bc bs pc L st M := by
  obtain ⟨p, e0, R, s, m, args, below, meth, c, Q, mc, ms, G'⟩ := X
  obtain ⟨rfl, hx, hb, hml, hr, hlk, hown, hts, hK, hroom, hini, hS0⟩ := C
  subst e
  intro H locs cells slots ls hR hc' hs hl
  exact lv_ldc2 hx hb hown (hts _ hc) d (k H locs cells slots ls hR hc' hs hl)
theorem s_ldci {X : mX} {G : mG} {I : mI} (C : Cx X G I) {bc bs pc : Nat} (q : Nat) {L : List (Option Value)} {st : List Value} {M : mM} {idx : Nat} (v : Int32) (d : decode I.2.1 pc = .ok (.ldc idx, 2)) (e : pc + 2 = q) (hc : Cond.constant I.1.cls idx v ∈ BIG) (k : V X bc bs q L (.int v :: st) M) : V X bc bs pc L st M := by
  obtain ⟨p, e0, R, s, m, args, below, meth, c, Q, mc, ms, G'⟩ := X
  obtain ⟨rfl, hx, hb, hml, hr, hlk, hown, hts, hK, hroom, hini, hS0⟩ := C
  subst e
  intro H locs cells slots ls hR hc' hs hl
  exact lv_ldc hx hb hown (hts _ hc) d (k H locs cells slots ls hR hc' hs hl)
theorem s_tabI {X : mX} {G : mG} {I : mI} (C : Cx X G I) {bc bs pc : Nat} (t : Nat) {L : List (Option Value)} {st : List Value} {M : mM} {dflt lo hi off : Int} {offs : Array Int} {len : Nat} {x : Int32} (d : decode I.2.1 pc = .ok (.tableswitch dflt lo hi offs, len)) (h1 : ¬ x.toInt < lo) (h2 : ¬ hi < x.toInt) (ho : offs[(x.toInt - lo).toNat]? = some off) (ht : (pc : Int) + off = (t : Int)) (k : V X bc bs t L st M) : V X bc bs pc L (.int x :: st) M := by
  obtain ⟨p, e0, R, s, m, args, below, meth, c, Q, mc, ms, G'⟩ := X
  obtain ⟨rfl, hx, hb, hml, hr, hlk, hown, hts, hK, hroom, hini, hS0⟩ := C
  intro H locs cells slots ls hR hc' hs hl
  exact lv_tableIn hx hb d h1 h2 ho ht (k H locs cells slots ls hR hc' hs hl)
theorem s_tabO {X : mX} {G : mG} {I : mI} (C : Cx X G I) {bc bs pc : Nat} (t : Nat) {L : List (Option Value)} {st : List Value} {M : mM} {dflt lo hi : Int} {offs : Array Int} {len : Nat} {x : Int32} (d : decode I.2.1 pc = .ok (.tableswitch dflt lo hi offs, len)) (h : x.toInt < lo ∨ hi < x.toInt) (ht : (pc : Int) + dflt = (t : Int)) (k : V X bc bs t L st M) : V X bc bs pc L (.int x :: st) M := by
  obtain ⟨p, e0, R, s, m, args, below, meth, c, Q, mc, ms, G'⟩ := X
  obtain ⟨rfl, hx, hb, hml, hr, hlk, hown, hts, hK, hroom, hini, hS0⟩ := C
  intro H locs cells slots ls hR hc' hs hl
  exact lv_tableOut hx hb d h ht (k H locs cells slots ls hR hc' hs hl)
theorem s_look {X : mX} {G : mG} {I : mI} (C : Cx X G I) {bc bs pc : Nat} (t : Nat) {L : List (Option Value)} {st : List Value} {M : mM} {dflt off : Int} {ps : Array (Int × Int)} {len : Nat} {x : Int32} (d : decode I.2.1 pc = .ok (.lookupswitch dflt ps, len)) (hp : (ps.toList.zip (ps.toList.drop 1)).all (fun (a, next) => a.1 < next.1) = true) (ho : Op.lookupswitch.offset ps.toList dflt x.toInt = off) (ht : (pc : Int) + off = (t : Int)) (k : V X bc bs t L st M) : V X bc bs pc L (.int x :: st) M := by
  obtain ⟨p, e0, R, s, m, args, below, meth, c, Q, mc, ms, G'⟩ := X
  obtain ⟨rfl, hx, hb, hml, hr, hlk, hown, hts, hK, hroom, hini, hS0⟩ := C
  intro H locs cells slots ls hR hc' hs hl
  exact lv_lookup hx hb d hp ho ht (k H locs cells slots ls hR hc' hs hl)
/-- Math.max, Math.min -/
def mMath (own : String) (idx : Nat) (y : MethodName) (b : ByteArray) : Prop := Cond.methodLink own idx y ∈ BIG ∧ Cond.static y ∈ BIG ∧ Cond.initialized "java/lang/Math" ∈ BIG ∧ Cond.code y b 2 (some .int) ∈ BIG
theorem s_max {X : mX} {G : mG} {I : mI} (C : Cx X G I) {bc bs pc : Nat} (q : Nat) {L : List (Option Value)} {st : List Value} {M : mM} {idx : Nat} {x y : Int32} (d : decode I.2.1 pc = .ok (.invokestatic idx, 3)) (e : pc + 3 = q) (hm : mMath I.1.cls idx Lib.Math.max.name Lib.Math.max.code) (hL : L.length = I.2.2.1) (hI : 1 ≤ I.2.2.2.2) (hw : (st.map fun v => v.category).sum ≤ 8) (k : V X bc bs q L (.int (if x < y then y else x) :: st) M) : V X bc bs pc L (.int y :: .int x :: st) M := by
  obtain ⟨p, e0, R, s, m, args, below, meth, c, Q, mc, ms, G'⟩ := X
  obtain ⟨rfl, hx, hb, hml, hr, hlk, hown, hts, hK, hroom, hini, hS0⟩ := C
  obtain ⟨w1, w2, w3, w4⟩ := hm
  subst e
  intro H locs cells slots ls hR hc' hs hl
  exact va_mmax hx hb (hml.trans (hL.symm.trans hl.1.symm)) hown (hts _ w1) (hts _ w2) (hts _ w3) (hts _ w4) (by omega) (by omega) (by omega) (by omega) d (k H locs cells slots ls hR hc' hs hl)
theorem s_min {X : mX} {G : mG} {I : mI} (C : Cx X G I) {bc bs pc : Nat} (q : Nat) {L : List (Option Value)} {st : List Value} {M : mM} {idx : Nat} {x y : Int32} (d : decode I.2.1 pc = .ok (.invokestatic idx, 3)) (e : pc + 3 = q) (hm : mMath I.1.cls idx Lib.Math.min.name Lib.Math.min.code) (hL : L.length = I.2.2.1) (hI : 1 ≤ I.2.2.2.2) (hw : (st.map fun v => v.category).sum ≤ 8) (k : V X bc bs q L (.int (if y < x then y else x) :: st) M) : V X bc bs pc L (.int y :: .int x :: st) M := by
  obtain ⟨p, e0, R, s, m, args, below, meth, c, Q, mc, ms, G'⟩ := X
  obtain ⟨rfl, hx, hb, hml, hr, hlk, hown, hts, hK, hroom, hini, hS0⟩ := C
  obtain ⟨w1, w2, w3, w4⟩ := hm
  subst e
  intro H locs cells slots ls hR hc' hs hl
  exact va_mmin hx hb (hml.trans (hL.symm.trans hl.1.symm)) hown (hts _ w1) (hts _ w2) (hts _ w3) (hts _ w4) (by omega) (by omega) (by omega) (by omega) d (k H locs cells slots ls hR hc' hs hl)
theorem s_maxN {X : mX} {G : mG} {I : mI} (C : Cx X G I) {bc bs pc : Nat} (q : Nat) {L : List (Option Value)} {st : List Value} {M : mM} {idx : Nat} {x y : Nat} (d : decode I.2.1 pc = .ok (.invokestatic idx, 3)) (e : pc + 3 = q) (hm : mMath I.1.cls idx Lib.Math.max.name Lib.Math.max.code) (hL : L.length = I.2.2.1) (hI : 1 ≤ I.2.2.2.2) (hw : (st.map fun v => v.category).sum ≤ 8) (hx0 : x < 2 ^ 31) (hy0 : y < 2 ^ 31) (k : V X bc bs q L (.int (nI (max x y)) :: st) M) : V X bc bs pc L (.int (nI y) :: .int (nI x) :: st) M := by
  refine s_max C q d e hm hL hI hw ?_
  have : (if nI x < nI y then nI y else nI x) = nI (max x y) := by
    by_cases h : x < y
    · rw [if_pos ((nI_ltI hx0 hy0).mpr h), Nat.max_eq_right (by omega)]
    · rw [if_neg (fun z => h ((nI_ltI hx0 hy0).mp z)), Nat.max_eq_left (by omega)]
  rw [this]
  exact k
theorem s_minN {X : mX} {G : mG} {I : mI} (C : Cx X G I) {bc bs pc : Nat} (q : Nat) {L : List (Option Value)} {st : List Value} {M : mM} {idx : Nat} {x y : Nat} (d : decode I.2.1 pc = .ok (.invokestatic idx, 3)) (e : pc + 3 = q) (hm : mMath I.1.cls idx Lib.Math.min.name Lib.Math.min.code) (hL : L.length = I.2.2.1) (hI : 1 ≤ I.2.2.2.2) (hw : (st.map fun v => v.category).sum ≤ 8) (hx0 : x < 2 ^ 31) (hy0 : y < 2 ^ 31) (k : V X bc bs q L (.int (nI (min x y)) :: st) M) : V X bc bs pc L (.int (nI y) :: .int (nI x) :: st) M := by
  refine s_min C q d e hm hL hI hw ?_
  have : (if nI y < nI x then nI y else nI x) = nI (min x y) := by
    by_cases h : y < x
    · rw [if_pos ((nI_ltI hy0 hx0).mpr h), Nat.min_eq_right (by omega)]
    · rw [if_neg (fun z => h ((nI_ltI hy0 hx0).mp z)), Nat.min_eq_left (by omega)]
  rw [this]
  exact k
/-- a cast of an object to its own class -/
theorem s_castT {X : mX} {G : mG} {I : mI} (C : Cx X G I) {bc bs pc : Nat} (q : Nat) {L : List (Option Value)} {st : List Value} {M : mM} {idx a t ci : Nat} {fs : List Value} {r : vw_C} (d : decode I.2.1 pc = .ok (.checkcast idx, 3)) (e : pc + 3 = q) (hM : M a = some (t, .inl (ci, fs))) (hci : vwCl[ci]? = some r) (hc : Cond.classLink I.1.cls idx r.1 ∈ BIG) (k : V X bc bs q L (.ref a :: st) M) : V X bc bs pc L (.ref a :: st) M := by
  obtain ⟨p, e0, R, s, m, args, below, meth, c, Q, mc, ms, G'⟩ := X
  obtain ⟨rfl, hx, hb, hml, hr, hlk, hown, hts, hK, hroom, hini, hS0⟩ := C
  subst e
  intro H locs cells slots ls hR hc' hs hl
  obtain ⟨r', h1, cell, g1, g2, g3, -⟩ := hR.1 a t _ hM
  have : r' = r := Option.some.inj (h1.symm.trans hci)
  subst this
  have hcls := (hK.1.1 ci r' hci).2
  have hnw : va_Nw (.castable r'.1 r'.1) s := by
    unfold va_Nw
    simp [Cond.before, Cond.holds, Cond.value, hcls.1, va_assign hcls]
  exact va_castY hx hb hown (hts _ hc) hnw ⟨cell, g1, by rw [g3]; rfl, by rw [g2]; exact hcls.1⟩ d (k H locs cells slots ls hR hc' hs hl)
end
section
abbrev iX0_init : mI := (yX0_init, cX0_init, 2, none, 5)
abbrev iX0_save : mI := (yX0_save, cX0_save, 2, none, 8)
abbrev iX0_restore : mI := (yX0_restore, cX0_restore, 2, none, 8)
abbrev iX1_init : mI := (yX1_init, cX1_init, 1, none, 1)
abbrev iX1_rank : mI := (yX1_rank, cX1_rank, 4, none, 6)
abbrev iX1_insert : mI := (yX1_insert, cX1_insert, 5, none, 5)
abbrev iX1_has : mI := (yX1_has, cX1_has, 2, (some .boolean), 0)
abbrev iX1_titleAt : mI := (yX1_titleAt, cX1_titleAt, 2, (some .int), 1)
abbrev iX1_placeAt : mI := (yX1_placeAt, cX1_placeAt, 2, (some .int), 1)
abbrev iX2_init : mI := (yX2_init, cX2_init, 1, none, 4)
abbrev iX2_copyFrom : mI := (yX2_copyFrom, cX2_copyFrom, 3, none, 7)
abbrev iX2_has : mI := (yX2_has, cX2_has, 2, (some .boolean), 1)
abbrev iX2_refusal : mI := (yX2_refusal, cX2_refusal, 3, (some .int), 4)
abbrev iX2_appendToQuery : mI := (yX2_appendToQuery, cX2_appendToQuery, 2, none, 0)
abbrev iX2_queryEndsWithLetter : mI := (yX2_queryEndsWithLetter, cX2_queryEndsWithLetter, 1, (some .boolean), 0)
abbrev iX2_placeOfMatch : mI := (yX2_placeOfMatch, cX2_placeOfMatch, 3, (some .int), 4)
abbrev iX2_comesBefore : mI := (yX2_comesBefore, cX2_comesBefore, 7, (some .boolean), 4)
abbrev iX3_init : mI := (yX3_init, cX3_init, 1, none, 1)
abbrev iX3_look : mI := (yX3_look, cX3_look, 6, none, 7)
abbrev iX3_hasKey : mI := (yX3_hasKey, cX3_hasKey, 1, (some .boolean), 0)
abbrev iX3_hasShortcut : mI := (yX3_hasShortcut, cX3_hasShortcut, 1, (some .boolean), 0)
abbrev iX3_lookAtPiecesFrom : mI := (yX3_lookAtPiecesFrom, cX3_lookAtPiecesFrom, 7, none, 6)
abbrev iX3_longestWanted : mI := (yX3_longestWanted, cX3_longestWanted, 1, (some .int), 1)
abbrev iX3_findPlaces : mI := (yX3_findPlaces, cX3_findPlaces, 10, none, 1)
abbrev iX3_isKnownBy : mI := (yX3_isKnownBy, cX3_isKnownBy, 5, (some .boolean), 1)
abbrev iX3_isFirstFor : mI := (yX3_isFirstFor, cX3_isFirstFor, 7, (some .boolean), 5)
abbrev iX3_placeOf : mI := (yX3_placeOf, cX3_placeOf, 3, (some .int), 0)
abbrev iX4_init : mI := (yX4_init, cX4_init, 1, none, 1)
abbrev iX4_append : mI := (yX4_append, cX4_append, 2, (some .boolean), 0)
abbrev iX4_makeEmpty : mI := (yX4_makeEmpty, cX4_makeEmpty, 1, none, 0)
abbrev iX4_rewind : mI := (yX4_rewind, cX4_rewind, 1, none, 0)
abbrev iX4_findFault : mI := (yX4_findFault, cX4_findFault, 2, (some .int), 10)
abbrev iX4_isTitle : mI := (yX4_isTitle, cX4_isTitle, 1, (some .boolean), 3)
abbrev iX4_passCommand : mI := (yX4_passCommand, cX4_passCommand, 1, (some .boolean), 9)
abbrev iX4_passSemicolon : mI := (yX4_passSemicolon, cX4_passSemicolon, 1, (some .boolean), 1)
abbrev iX4_passTitle : mI := (yX4_passTitle, cX4_passTitle, 4, (some .boolean), 2)
abbrev iX4_passNumber : mI := (yX4_passNumber, cX4_passNumber, 2, (some .boolean), 1)
abbrev iX4_passName : mI := (yX4_passName, cX4_passName, 4, (some .boolean), 8)
abbrev iX4_passOneOf : mI := (yX4_passOneOf, cX4_passOneOf, 7, (some .int), 7)
abbrev iX4_sameLength : mI := (yX4_sameLength, cX4_sameLength, 3, (some .int), 6)
abbrev iX4_hasSign : mI := (yX4_hasSign, cX4_hasSign, 1, (some .boolean), 0)
abbrev iX4_word : mI := (yX4_word, cX4_word, 1, (some (.object "java/lang/String")), 1)
abbrev iX4_name : mI := (yX4_name, cX4_name, 1, (some (.object "java/lang/String")), 0)
abbrev iX4_isLetter : mI := (yX4_isLetter, cX4_isLetter, 1, (some .boolean), 1)
abbrev iX4_isDigit : mI := (yX4_isDigit, cX4_isDigit, 1, (some .boolean), 0)
abbrev iX4_passedTitle : mI := (yX4_passedTitle, cX4_passedTitle, 3, (some (.object "TitleFinder$Title")), 3)
abbrev iX4_copyPassed : mI := (yX4_copyPassed, cX4_copyPassed, 3, none, 1)
abbrev iX5_init : mI := (yX5_init, cX5_init, 4, none, 1)
abbrev iX5_unused : mI := (yX5_unused, cX5_unused, 1, (some (.object "TitleFinder$Title")), 2)
abbrev iX5_initialsOf : mI := (yX5_initialsOf, cX5_initialsOf, 4, (some (.array .char)), 1)
abbrev iX5_wordCount : mI := (yX5_wordCount, cX5_wordCount, 3, (some .int), 0)
abbrev iX5_usedOnceMore : mI := (yX5_usedOnceMore, cX5_usedOnceMore, 1, (some (.object "TitleFinder$Title")), 2)
abbrev iX5_run : mI := (yX5_run, cX5_run, 2, (some (.array .char)), 0)
abbrev iX5_startsPiece : mI := (yX5_startsPiece, cX5_startsPiece, 3, (some .boolean), 0)
abbrev iX5_placeOf : mI := (yX5_placeOf, cX5_placeOf, 6, (some .int), 1)
abbrev iX5_commonRun : mI := (yX5_commonRun, cX5_commonRun, 5, (some .int), 1)
abbrev iX5_hasLettersOf : mI := (yX5_hasLettersOf, cX5_hasLettersOf, 2, (some .boolean), 1)
abbrev iX5_comesByNameBefore : mI := (yX5_comesByNameBefore, cX5_comesByNameBefore, 3, (some .boolean), 0)
abbrev iX5_sameLength : mI := (yX5_sameLength, cX5_sameLength, 6, (some .int), 0)
abbrev iX6_init : mI := (yX6_init, cX6_init, 1, none, 6)
abbrev iX6_type : mI := (yX6_type, cX6_type, 2, (some .int), 1)
abbrev iX6_clearText : mI := (yX6_clearText, cX6_clearText, 2, (some .int), 1)
abbrev iX6_syntaxError : mI := (yX6_syntaxError, cX6_syntaxError, 1, (some .int), 11)
abbrev iX6_carryOut : mI := (yX6_carryOut, cX6_carryOut, 2, (some .int), 11)
abbrev iX6_obeyed : mI := (yX6_obeyed, cX6_obeyed, 1, (some .boolean), 8)
abbrev iX6_add : mI := (yX6_add, cX6_add, 3, (some .int), 9)
abbrev iX6_addIfPossible : mI := (yX6_addIfPossible, cX6_addIfPossible, 3, (some .int), 7)
abbrev iX6_drop : mI := (yX6_drop, cX6_drop, 2, (some .int), 9)
abbrev iX6_dropIfThere : mI := (yX6_dropIfThere, cX6_dropIfThere, 2, (some .boolean), 4)
abbrev iX6_titles : mI := (yX6_titles, cX6_titles, 1, (some .int), 1)
abbrev iX6_character : mI := (yX6_character, cX6_character, 4, (some .int), 4)
abbrev iX6_of : mI := (yX6_of, cX6_of, 3, (some .int), 8)
abbrev iX6_studiedNumber : mI := (yX6_studiedNumber, cX6_studiedNumber, 3, (some .int), 1)
abbrev iX6_common : mI := (yX6_common, cX6_common, 3, (some .int), 4)
abbrev iX6_closest : mI := (yX6_closest, cX6_closest, 7, (some .int), 4)
abbrev iX6_unknown : mI := (yX6_unknown, cX6_unknown, 3, (some .int), 8)
abbrev iX6_hardest : mI := (yX6_hardest, cX6_hardest, 4, (some .int), 8)
abbrev iX6_ifAdded : mI := (yX6_ifAdded, cX6_ifAdded, 5, (some .int), 9)
abbrev iX6_keyWouldChange : mI := (yX6_keyWouldChange, cX6_keyWouldChange, 4, (some .boolean), 8)
abbrev iX6_setMode : mI := (yX6_setMode, cX6_setMode, 3, (some .int), 9)
abbrev iX6_setOrder : mI := (yX6_setOrder, cX6_setOrder, 3, (some .int), 9)
abbrev iX6_mode : mI := (yX6_mode, cX6_mode, 1, (some .int), 0)
abbrev iX6_order : mI := (yX6_order, cX6_order, 1, (some .int), 0)
abbrev iX6_ask : mI := (yX6_ask, cX6_ask, 2, (some .int), 9)
abbrev iX6_erase : mI := (yX6_erase, cX6_erase, 1, (some .int), 9)
abbrev iX6_queryLength : mI := (yX6_queryLength, cX6_queryLength, 1, (some .int), 0)
abbrev iX6_queryCharacter : mI := (yX6_queryCharacter, cX6_queryCharacter, 2, (some .int), 0)
abbrev iX6_results : mI := (yX6_results, cX6_results, 1, (some .int), 7)
abbrev iX6_result : mI := (yX6_result, cX6_result, 2, (some .int), 7)
abbrev iX6_matchPlace : mI := (yX6_matchPlace, cX6_matchPlace, 2, (some .int), 7)
abbrev iX6_pick : mI := (yX6_pick, cX6_pick, 2, (some .int), 9)
abbrev iX6_pickIfThere : mI := (yX6_pickIfThere, cX6_pickIfThere, 3, (some .int), 7)
abbrev iX6_undo : mI := (yX6_undo, cX6_undo, 1, (some .int), 9)
abbrev iX6_digest : mI := (yX6_digest, cX6_digest, 4, (some .long), 9)
abbrev iX6_hashWithTitle : mI := (yX6_hashWithTitle, cX6_hashWithTitle, 8, (some .long), 8)
abbrev iX6_hashWithResults : mI := (yX6_hashWithResults, cX6_hashWithResults, 6, (some .long), 8)
abbrev iX6_hashWith : mI := (yX6_hashWith, cX6_hashWith, 3, (some .long), 0)
abbrev iX7_init : mI := (yX7_init, cX7_init, 1, none, 1)
abbrev iX7_within : mI := (yX7_within, cX7_within, 3, (some .boolean), 0)
abbrev iX7_record : mI := (yX7_record, cX7_record, 2, none, 0)
abbrev iX7_isTitle : mI := (yX7_isTitle, cX7_isTitle, 2, (some .boolean), 1)
abbrev iX7_part : mI := (yX7_part, cX7_part, 3, (some .int), 0)
abbrev iX7_lengthOf : mI := (yX7_lengthOf, cX7_lengthOf, 2, (some .int), 1)
abbrev iX7_characterOf : mI := (yX7_characterOf, cX7_characterOf, 3, (some .int), 1)
abbrev iX7_isLetter : mI := (yX7_isLetter, cX7_isLetter, 1, (some .boolean), 1)
abbrev iX7_beginsWord : mI := (yX7_beginsWord, cX7_beginsWord, 3, (some .boolean), 2)
abbrev iX7_findSources : mI := (yX7_findSources, cX7_findSources, 4, none, 3)
abbrev iX7_sourceAt : mI := (yX7_sourceAt, cX7_sourceAt, 3, (some .int), 0)
abbrev iX7_canStart : mI := (yX7_canStart, cX7_canStart, 3, (some .boolean), 3)
abbrev iX7_isPiece : mI := (yX7_isPiece, cX7_isPiece, 4, (some .boolean), 4)
abbrev iX7_asks : mI := (yX7_asks, cX7_asks, 5, none, 1)
abbrev iX7_placeIn : mI := (yX7_placeIn, cX7_placeIn, 5, (some .int), 5)
abbrev iX7_isAheadByName : mI := (yX7_isAheadByName, cX7_isAheadByName, 4, (some .boolean), 2)
abbrev iX7_isAheadByPlace : mI := (yX7_isAheadByPlace, cX7_isAheadByPlace, 3, (some .boolean), 2)
abbrev iX7_isAhead : mI := (yX7_isAhead, cX7_isAhead, 3, (some .boolean), 3)
abbrev iX7_findPlaces : mI := (yX7_findPlaces, cX7_findPlaces, 2, none, 6)
abbrev iX7_findResults : mI := (yX7_findResults, cX7_findResults, 3, none, 7)
abbrev iX7_isAlone : mI := (yX7_isAlone, cX7_isAlone, 4, (some .boolean), 6)
abbrev iX7_isFirst : mI := (yX7_isFirst, cX7_isFirst, 4, (some .boolean), 7)
abbrev iX7_findPiece : mI := (yX7_findPiece, cX7_findPiece, 5, none, 8)
abbrev iX7_findKeys : mI := (yX7_findKeys, cX7_findKeys, 2, none, 9)
abbrev iX7_unknownNow : mI := (yX7_unknownNow, cX7_unknownNow, 3, (some .int), 0)
abbrev iX7_hardestNow : mI := (yX7_hardestNow, cX7_hardestNow, 3, (some .int), 0)
abbrev iX7_type : mI := (yX7_type, cX7_type, 2, (some .int), 1)
abbrev iX7_clearText : mI := (yX7_clearText, cX7_clearText, 2, (some .int), 0)
abbrev iX7_typedAt : mI := (yX7_typedAt, cX7_typedAt, 2, (some .int), 0)
abbrev iX7_isNext : mI := (yX7_isNext, cX7_isNext, 3, (some .boolean), 1)
abbrev iX7_readsWord : mI := (yX7_readsWord, cX7_readsWord, 6, (some .boolean), 2)
abbrev iX7_readsTitle : mI := (yX7_readsTitle, cX7_readsTitle, 5, (some .boolean), 2)
abbrev iX7_readsNumber : mI := (yX7_readsNumber, cX7_readsNumber, 2, (some .boolean), 1)
abbrev iX7_readsMode : mI := (yX7_readsMode, cX7_readsMode, 2, (some .boolean), 3)
abbrev iX7_readsOrder : mI := (yX7_readsOrder, cX7_readsOrder, 2, (some .boolean), 3)
abbrev iX7_readsAddOrAsk : mI := (yX7_readsAddOrAsk, cX7_readsAddOrAsk, 1, (some .boolean), 3)
abbrev iX7_readsCommand : mI := (yX7_readsCommand, cX7_readsCommand, 1, (some .boolean), 4)
abbrev iX7_findError : mI := (yX7_findError, cX7_findError, 1, (some .int), 5)
abbrev iX7_syntaxError : mI := (yX7_syntaxError, cX7_syntaxError, 1, (some .int), 6)
abbrev iX7_isThere : mI := (yX7_isThere, cX7_isThere, 7, (some .boolean), 2)
abbrev iX7_whyNotAdded : mI := (yX7_whyNotAdded, cX7_whyNotAdded, 3, (some .int), 3)
abbrev iX7_adds : mI := (yX7_adds, cX7_adds, 6, (some .int), 0)
abbrev iX7_drops : mI := (yX7_drops, cX7_drops, 3, (some .int), 0)
abbrev iX7_clearsQuery : mI := (yX7_clearsQuery, cX7_clearsQuery, 2, none, 0)
abbrev iX7_picks : mI := (yX7_picks, cX7_picks, 3, (some .int), 1)
abbrev iX7_isRank : mI := (yX7_isRank, cX7_isRank, 2, (some .boolean), 8)
abbrev iX7_mayDo : mI := (yX7_mayDo, cX7_mayDo, 1, (some .boolean), 9)
abbrev iX7_does : mI := (yX7_does, cX7_does, 2, none, 2)
abbrev iX7_carryOut : mI := (yX7_carryOut, cX7_carryOut, 3, (some .int), 10)
abbrev iX7_whyNotTyped : mI := (yX7_whyNotTyped, cX7_whyNotTyped, 1, (some .int), 4)
abbrev iX7_add : mI := (yX7_add, cX7_add, 3, (some .int), 5)
abbrev iX7_drop : mI := (yX7_drop, cX7_drop, 2, (some .int), 2)
abbrev iX7_titles : mI := (yX7_titles, cX7_titles, 1, (some .int), 0)
abbrev iX7_character : mI := (yX7_character, cX7_character, 3, (some .int), 2)
abbrev iX7_words : mI := (yX7_words, cX7_words, 4, (some .int), 3)
abbrev iX7_ofTitle : mI := (yX7_ofTitle, cX7_ofTitle, 3, (some .int), 9)
abbrev iX7_of : mI := (yX7_of, cX7_of, 3, (some .int), 10)
abbrev iX7_longestRun : mI := (yX7_longestRun, cX7_longestRun, 6, (some .int), 2)
abbrev iX7_common : mI := (yX7_common, cX7_common, 3, (some .int), 3)
abbrev iX7_closest : mI := (yX7_closest, cX7_closest, 6, (some .int), 3)
abbrev iX7_unknown : mI := (yX7_unknown, cX7_unknown, 1, (some .int), 10)
abbrev iX7_hardest : mI := (yX7_hardest, cX7_hardest, 1, (some .int), 10)
abbrev iX7_ifAdded : mI := (yX7_ifAdded, cX7_ifAdded, 5, (some .int), 10)
abbrev iX7_setMode : mI := (yX7_setMode, cX7_setMode, 3, (some .int), 1)
abbrev iX7_setOrder : mI := (yX7_setOrder, cX7_setOrder, 3, (some .int), 1)
abbrev iX7_mode : mI := (yX7_mode, cX7_mode, 1, (some .int), 0)
abbrev iX7_order : mI := (yX7_order, cX7_order, 1, (some .int), 0)
abbrev iX7_resultsMany : mI := (yX7_resultsMany, cX7_resultsMany, 1, (some .int), 8)
abbrev iX7_ask : mI := (yX7_ask, cX7_ask, 3, (some .int), 9)
abbrev iX7_erase : mI := (yX7_erase, cX7_erase, 1, (some .int), 9)
abbrev iX7_queryLength : mI := (yX7_queryLength, cX7_queryLength, 1, (some .int), 0)
abbrev iX7_queryCharacter : mI := (yX7_queryCharacter, cX7_queryCharacter, 2, (some .int), 1)
abbrev iX7_results : mI := (yX7_results, cX7_results, 1, (some .int), 9)
abbrev iX7_result : mI := (yX7_result, cX7_result, 2, (some .int), 9)
abbrev iX7_matchPlace : mI := (yX7_matchPlace, cX7_matchPlace, 2, (some .int), 9)
abbrev iX7_pick : mI := (yX7_pick, cX7_pick, 2, (some .int), 9)
abbrev iX7_undo : mI := (yX7_undo, cX7_undo, 2, (some .int), 0)
abbrev iX7_digest : mI := (yX7_digest, cX7_digest, 5, (some .long), 10)
abbrev iJ9_max_7cf53 : mI := (yJ9_max_7cf53, cJ9_max_7cf53, 2, (some .int), 0)
abbrev iJ9_min_7cf53 : mI := (yJ9_min_7cf53, cJ9_min_7cf53, 2, (some .int), 0)
abbrev iJ0_length_8abf5 : mI := (yJ0_length_8abf5, cJ0_length_8abf5, 1, (some .int), 1)
abbrev iJ0_charAt_5068e : mI := (yJ0_charAt_5068e, cJ0_charAt_5068e, 2, (some .char), 5)
abbrev iJ0_coder_7d493 : mI := (yJ0_coder_7d493, cJ0_coder_7d493, 1, (some .byte), 0)
abbrev iJ0_isLatin1_aae02 : mI := (yJ0_isLatin1_aae02, cJ0_isLatin1_aae02, 1, (some .boolean), 0)
abbrev iJ0_checkIndex_df160 : mI := (yJ0_checkIndex_df160, cJ0_checkIndex_df160, 2, none, 2)
abbrev iJ1_charAt_3b067 : mI := (yJ1_charAt_3b067, cJ1_charAt_3b067, 2, (some .char), 3)
abbrev iJ2_getChar_3b067 : mI := (yJ2_getChar_3b067, cJ2_getChar_3b067, 2, (some .char), 1)
abbrev iJ2_length_9d52b : mI := (yJ2_length_9d52b, cJ2_length_9d52b, 1, (some .int), 0)
abbrev iJ2_charAt_3b067 : mI := (yJ2_charAt_3b067, cJ2_charAt_3b067, 2, (some .char), 4)
abbrev iJ2_checkIndex_2214a : mI := (yJ2_checkIndex_2214a, cJ2_checkIndex_2214a, 2, none, 3)
abbrev iJxa1e45_init_da8c8 : mI := (yJxa1e45_init_da8c8, cJxa1e45_init_da8c8, 1, none, 1)
abbrev iJxc12de_init_da8c8 : mI := (yJxc12de_init_da8c8, cJxc12de_init_da8c8, 1, none, 2)
abbrev iJx4a65c_init_da8c8 : mI := (yJx4a65c_init_da8c8, cJx4a65c_init_da8c8, 1, none, 3)
abbrev iJx4a65c_grow_92f84 : mI := (yJx4a65c_grow_92f84, cJx4a65c_grow_92f84, 4, (some (.array (.object "java/lang/Object"))), 3)
abbrev iJx4a65c_grow_d5877 : mI := (yJx4a65c_grow_d5877, cJx4a65c_grow_d5877, 1, (some (.array (.object "java/lang/Object"))), 4)
abbrev iJx4a65c_size_8abf5 : mI := (yJx4a65c_size_8abf5, cJx4a65c_size_8abf5, 1, (some .int), 0)
abbrev iJx4a65c_elementData_915e3 : mI := (yJx4a65c_elementData_915e3, cJx4a65c_elementData_915e3, 2, (some (.object "java/lang/Object")), 0)
abbrev iJx4a65c_get_915e3 : mI := (yJx4a65c_get_915e3, cJx4a65c_get_915e3, 2, (some (.object "java/lang/Object")), 3)
abbrev iJx4a65c_set_bcc79 : mI := (yJx4a65c_set_bcc79, cJx4a65c_set_bcc79, 4, (some (.object "java/lang/Object")), 3)
abbrev iJx4a65c_add_72be8 : mI := (yJx4a65c_add_72be8, cJx4a65c_add_72be8, 4, none, 5)
abbrev iJx4a65c_add_9ea2d : mI := (yJx4a65c_add_9ea2d, cJx4a65c_add_9ea2d, 2, (some .boolean), 6)
abbrev iJx4a65c_remove_915e3 : mI := (yJx4a65c_remove_915e3, cJx4a65c_remove_915e3, 4, (some (.object "java/lang/Object")), 3)
abbrev iJx4a65c_fastRemove_b59b0 : mI := (yJx4a65c_fastRemove_b59b0, cJx4a65c_fastRemove_b59b0, 4, none, 1)
abbrev iJx4a65c_clear_da8c8 : mI := (yJx4a65c_clear_da8c8, cJx4a65c_clear_da8c8, 4, none, 0)
abbrev iJ7_copyOf_1904c : mI := (yJ7_copyOf_1904c, cJ7_copyOf_1904c, 2, (some (.array (.object "java/lang/Object"))), 2)
abbrev iJ7_copyOf_6403c : mI := (yJ7_copyOf_6403c, cJ7_copyOf_6403c, 4, (some (.array (.object "java/lang/Object"))), 1)
abbrev iJ15_checkIndex_7cf53 : mI := (yJ15_checkIndex_7cf53, cJ15_checkIndex_7cf53, 2, (some .int), 2)
abbrev iJ8_newLength_cabcc : mI := (yJ8_newLength_cabcc, cJ8_newLength_cabcc, 4, (some .int), 2)
abbrev iJ8_hugeLength_7cf53 : mI := (yJ8_hugeLength_7cf53, cJ8_hugeLength_7cf53, 3, (some .int), 1)
abbrev iJ3_checkIndex_8e157 : mI := (yJ3_checkIndex_8e157, cJ3_checkIndex_8e157, 3, (some .int), 1)
set_option maxRecDepth 20000 in
theorem cw_Jx4a65c : ∀ w ∈ u_ws RJx4a65c TJx4a65c 3, w ∈ BIG := by
  intro w hw
  obtain ⟨k, hk, rfl⟩ := List.mem_map.mp hw
  have hk := List.mem_range.mp hk
  match k, hk with
  | 0, _ => exact bw 129 (by decide +kernel) rfl
  | 1, _ => exact bw 125 (by decide +kernel) rfl
  | 2, _ => exact bw 127 (by decide +kernel) rfl
set_option maxRecDepth 20000 in
theorem cw_X0 : ∀ w ∈ u_ws RX0 TX0 3, w ∈ BIG := by
  intro w hw
  obtain ⟨k, hk, rfl⟩ := List.mem_map.mp hw
  have hk := List.mem_range.mp hk
  match k, hk with
  | 0, _ => exact bw 171 (by decide +kernel) rfl
  | 1, _ => exact bw 173 (by decide +kernel) rfl
  | 2, _ => exact bw 175 (by decide +kernel) rfl
set_option maxRecDepth 20000 in
theorem cw_X1 : ∀ w ∈ u_ws RX1 TX1 3, w ∈ BIG := by
  intro w hw
  obtain ⟨k, hk, rfl⟩ := List.mem_map.mp hw
  have hk := List.mem_range.mp hk
  match k, hk with
  | 0, _ => exact bw 219 (by decide +kernel) rfl
  | 1, _ => exact bw 221 (by decide +kernel) rfl
  | 2, _ => exact bw 223 (by decide +kernel) rfl
set_option maxRecDepth 20000 in
theorem cw_X2 : ∀ w ∈ u_ws RX2 TX2 5, w ∈ BIG := by
  intro w hw
  obtain ⟨k, hk, rfl⟩ := List.mem_map.mp hw
  have hk := List.mem_range.mp hk
  match k, hk with
  | 0, _ => exact bw 146 (by decide +kernel) rfl
  | 1, _ => exact bw 148 (by decide +kernel) rfl
  | 2, _ => exact bw 150 (by decide +kernel) rfl
  | 3, _ => exact bw 152 (by decide +kernel) rfl
  | 4, _ => exact bw 154 (by decide +kernel) rfl
set_option maxRecDepth 20000 in
theorem cw_X3 : ∀ w ∈ u_ws RX3 TX3 5, w ∈ BIG := by
  intro w hw
  obtain ⟨k, hk, rfl⟩ := List.mem_map.mp hw
  have hk := List.mem_range.mp hk
  match k, hk with
  | 0, _ => exact bw 244 (by decide +kernel) rfl
  | 1, _ => exact bw 246 (by decide +kernel) rfl
  | 2, _ => exact bw 248 (by decide +kernel) rfl
  | 3, _ => exact bw 250 (by decide +kernel) rfl
  | 4, _ => exact bw 252 (by decide +kernel) rfl
set_option maxRecDepth 20000 in
theorem cw_X4 : ∀ w ∈ u_ws RX4 TX4 7, w ∈ BIG := by
  intro w hw
  obtain ⟨k, hk, rfl⟩ := List.mem_map.mp hw
  have hk := List.mem_range.mp hk
  match k, hk with
  | 0, _ => exact bw 194 (by decide +kernel) rfl
  | 1, _ => exact bw 196 (by decide +kernel) rfl
  | 2, _ => exact bw 198 (by decide +kernel) rfl
  | 3, _ => exact bw 200 (by decide +kernel) rfl
  | 4, _ => exact bw 202 (by decide +kernel) rfl
  | 5, _ => exact bw 204 (by decide +kernel) rfl
  | 6, _ => exact bw 206 (by decide +kernel) rfl
set_option maxRecDepth 20000 in
theorem cw_X5 : ∀ w ∈ u_ws RX5 TX5 3, w ∈ BIG := by
  intro w hw
  obtain ⟨k, hk, rfl⟩ := List.mem_map.mp hw
  have hk := List.mem_range.mp hk
  match k, hk with
  | 0, _ => exact bw 533 (by decide +kernel) rfl
  | 1, _ => exact bw 535 (by decide +kernel) rfl
  | 2, _ => exact bw 537 (by decide +kernel) rfl
set_option maxRecDepth 20000 in
theorem cw_X6 : ∀ w ∈ u_ws RX6 TX6 6, w ∈ BIG := by
  intro w hw
  obtain ⟨k, hk, rfl⟩ := List.mem_map.mp hw
  have hk := List.mem_range.mp hk
  match k, hk with
  | 0, _ => exact bw 261 (by decide +kernel) rfl
  | 1, _ => exact bw 263 (by decide +kernel) rfl
  | 2, _ => exact bw 265 (by decide +kernel) rfl
  | 3, _ => exact bw 267 (by decide +kernel) rfl
  | 4, _ => exact bw 269 (by decide +kernel) rfl
  | 5, _ => exact bw 271 (by decide +kernel) rfl
set_option maxRecDepth 20000 in
theorem cw_X7 : ∀ w ∈ u_ws RX7 TX7 22, w ∈ BIG := by
  intro w hw
  obtain ⟨k, hk, rfl⟩ := List.mem_map.mp hw
  have hk := List.mem_range.mp hk
  match k, hk with
  | 0, _ => exact bw 864 (by decide +kernel) rfl
  | 1, _ => exact bw 866 (by decide +kernel) rfl
  | 2, _ => exact bw 868 (by decide +kernel) rfl
  | 3, _ => exact bw 870 (by decide +kernel) rfl
  | 4, _ => exact bw 872 (by decide +kernel) rfl
  | 5, _ => exact bw 874 (by decide +kernel) rfl
  | 6, _ => exact bw 876 (by decide +kernel) rfl
  | 7, _ => exact bw 878 (by decide +kernel) rfl
  | 8, _ => exact bw 880 (by decide +kernel) rfl
  | 9, _ => exact bw 882 (by decide +kernel) rfl
  | 10, _ => exact bw 884 (by decide +kernel) rfl
  | 11, _ => exact bw 886 (by decide +kernel) rfl
  | 12, _ => exact bw 888 (by decide +kernel) rfl
  | 13, _ => exact bw 890 (by decide +kernel) rfl
  | 14, _ => exact bw 892 (by decide +kernel) rfl
  | 15, _ => exact bw 894 (by decide +kernel) rfl
  | 16, _ => exact bw 896 (by decide +kernel) rfl
  | 17, _ => exact bw 898 (by decide +kernel) rfl
  | 18, _ => exact bw 900 (by decide +kernel) rfl
  | 19, _ => exact bw 902 (by decide +kernel) rfl
  | 20, _ => exact bw 904 (by decide +kernel) rfl
  | 21, _ => exact bw 906 (by decide +kernel) rfl
  | z + 22, h => exact absurd h (by omega)
set_option maxRecDepth 20000 in
theorem f_Jx4a65c_9 : mF RJx4a65c 9 0 1 := ⟨_, rfl, by decide, cw_Jx4a65c, bw 120 (by decide +kernel) rfl⟩
set_option maxRecDepth 20000 in
theorem p_Jx4a65c_9 : mFp RJx4a65c 9 0 1 (.array (.object "java/lang/Object")) false := ⟨_, tyJx4a65c, rfl, by decide, cw_Jx4a65c, bw 120 (by decide +kernel) rfl, tyJx4a65c_ok, nmJx4a65c, rfl, rfl, fun h => by first | rfl | exact absurd h (by decide)⟩
set_option maxRecDepth 20000 in
theorem f_Jx4a65c_48 : mF RJx4a65c 48 0 2 := ⟨_, rfl, by decide, cw_Jx4a65c, bw 121 (by decide +kernel) rfl⟩
set_option maxRecDepth 20000 in
theorem p_Jx4a65c_48 : mFp RJx4a65c 48 0 2 (.int) false := ⟨_, tyJx4a65c, rfl, by decide, cw_Jx4a65c, bw 121 (by decide +kernel) rfl, tyJx4a65c_ok, nmJx4a65c, rfl, rfl, fun h => by first | rfl | exact absurd h (by decide)⟩
set_option maxRecDepth 20000 in
theorem f_X0_11 : mF RX0 11 1 0 := ⟨_, rfl, by decide, cw_X0, bw 167 (by decide +kernel) rfl⟩
set_option maxRecDepth 20000 in
theorem p_X0_11 : mFp RX0 11 1 0 (.array (.object "TitleFinder$State")) true := ⟨_, tyX0, rfl, by decide, cw_X0, bw 167 (by decide +kernel) rfl, tyX0_ok, nmX0, rfl, rfl, fun h => by first | rfl | exact absurd h (by decide)⟩
set_option maxRecDepth 20000 in
theorem f_X0_18 : mF RX0 18 1 1 := ⟨_, rfl, by decide, cw_X0, bw 168 (by decide +kernel) rfl⟩
set_option maxRecDepth 20000 in
theorem p_X0_18 : mFp RX0 18 1 1 (.int) false := ⟨_, tyX0, rfl, by decide, cw_X0, bw 168 (by decide +kernel) rfl, tyX0_ok, nmX0, rfl, rfl, fun h => by first | rfl | exact absurd h (by decide)⟩
set_option maxRecDepth 20000 in
theorem f_X0_26 : mF RX0 26 1 2 := ⟨_, rfl, by decide, cw_X0, bw 169 (by decide +kernel) rfl⟩
set_option maxRecDepth 20000 in
theorem p_X0_26 : mFp RX0 26 1 2 (.int) false := ⟨_, tyX0, rfl, by decide, cw_X0, bw 169 (by decide +kernel) rfl, tyX0_ok, nmX0, rfl, rfl, fun h => by first | rfl | exact absurd h (by decide)⟩
set_option maxRecDepth 20000 in
theorem f_X1_9 : mF RX1 9 2 0 := ⟨_, rfl, by decide, cw_X1, bw 215 (by decide +kernel) rfl⟩
set_option maxRecDepth 20000 in
theorem p_X1_9 : mFp RX1 9 2 0 (.array .int) true := ⟨_, tyX1, rfl, by decide, cw_X1, bw 215 (by decide +kernel) rfl, tyX1_ok, nmX1, rfl, rfl, fun h => by first | rfl | exact absurd h (by decide)⟩
set_option maxRecDepth 20000 in
theorem f_X1_15 : mF RX1 15 2 1 := ⟨_, rfl, by decide, cw_X1, bw 216 (by decide +kernel) rfl⟩
set_option maxRecDepth 20000 in
theorem p_X1_15 : mFp RX1 15 2 1 (.array .int) true := ⟨_, tyX1, rfl, by decide, cw_X1, bw 216 (by decide +kernel) rfl, tyX1_ok, nmX1, rfl, rfl, fun h => by first | rfl | exact absurd h (by decide)⟩
set_option maxRecDepth 20000 in
theorem f_X1_18 : mF RX1 18 2 2 := ⟨_, rfl, by decide, cw_X1, bw 217 (by decide +kernel) rfl⟩
set_option maxRecDepth 20000 in
theorem p_X1_18 : mFp RX1 18 2 2 (.int) false := ⟨_, tyX1, rfl, by decide, cw_X1, bw 217 (by decide +kernel) rfl, tyX1_ok, nmX1, rfl, rfl, fun h => by first | rfl | exact absurd h (by decide)⟩
set_option maxRecDepth 20000 in
theorem f_X1_22 : mF RX1 22 3 0 := ⟨_, rfl, by decide, cw_X2, bw 133 (by decide +kernel) rfl⟩
set_option maxRecDepth 20000 in
theorem f_X2_12 : mF RX2 12 3 0 := ⟨_, rfl, by decide, cw_X2, bw 132 (by decide +kernel) rfl⟩
set_option maxRecDepth 20000 in
theorem p_X2_12 : mFp RX2 12 3 0 (.object "java/util/ArrayList") true := ⟨_, tyX2, rfl, by decide, cw_X2, bw 132 (by decide +kernel) rfl, tyX2_ok, nmX2, rfl, rfl, fun h => by first | rfl | exact absurd h (by decide)⟩
set_option maxRecDepth 20000 in
theorem f_X2_18 : mF RX2 18 3 1 := ⟨_, rfl, by decide, cw_X2, bw 136 (by decide +kernel) rfl⟩
set_option maxRecDepth 20000 in
theorem p_X2_18 : mFp RX2 18 3 1 (.array .char) true := ⟨_, tyX2, rfl, by decide, cw_X2, bw 136 (by decide +kernel) rfl, tyX2_ok, nmX2, rfl, rfl, fun h => by first | rfl | exact absurd h (by decide)⟩
set_option maxRecDepth 20000 in
theorem f_X2_39 : mF RX2 39 3 2 := ⟨_, rfl, by decide, cw_X2, bw 138 (by decide +kernel) rfl⟩
set_option maxRecDepth 20000 in
theorem p_X2_39 : mFp RX2 39 3 2 (.int) false := ⟨_, tyX2, rfl, by decide, cw_X2, bw 138 (by decide +kernel) rfl, tyX2_ok, nmX2, rfl, rfl, fun h => by first | rfl | exact absurd h (by decide)⟩
set_option maxRecDepth 20000 in
theorem f_X2_43 : mF RX2 43 3 3 := ⟨_, rfl, by decide, cw_X2, bw 142 (by decide +kernel) rfl⟩
set_option maxRecDepth 20000 in
theorem p_X2_43 : mFp RX2 43 3 3 (.int) false := ⟨_, tyX2, rfl, by decide, cw_X2, bw 142 (by decide +kernel) rfl, tyX2_ok, nmX2, rfl, rfl, fun h => by first | rfl | exact absurd h (by decide)⟩
set_option maxRecDepth 20000 in
theorem f_X2_46 : mF RX2 46 3 4 := ⟨_, rfl, by decide, cw_X2, bw 144 (by decide +kernel) rfl⟩
set_option maxRecDepth 20000 in
theorem p_X2_46 : mFp RX2 46 3 4 (.int) false := ⟨_, tyX2, rfl, by decide, cw_X2, bw 144 (by decide +kernel) rfl, tyX2_ok, nmX2, rfl, rfl, fun h => by first | rfl | exact absurd h (by decide)⟩
set_option maxRecDepth 20000 in
theorem f_X2_64 : mF RX2 64 6 2 := ⟨_, rfl, by decide, cw_X5, bw 531 (by decide +kernel) rfl⟩
set_option maxRecDepth 20000 in
theorem f_X2_67 : mF RX2 67 6 0 := ⟨_, rfl, by decide, cw_X5, bw 526 (by decide +kernel) rfl⟩
set_option maxRecDepth 20000 in
theorem f_X3_11 : mF RX3 11 4 0 := ⟨_, rfl, by decide, cw_X3, bw 235 (by decide +kernel) rfl⟩
set_option maxRecDepth 20000 in
theorem p_X3_11 : mFp RX3 11 4 0 (.array (.array .int)) true := ⟨_, tyX3, rfl, by decide, cw_X3, bw 235 (by decide +kernel) rfl, tyX3_ok, nmX3, rfl, rfl, fun h => by first | rfl | exact absurd h (by decide)⟩
set_option maxRecDepth 20000 in
theorem p_X3_16 : mFp RX3 16 4 1 (.int) false := ⟨_, tyX3, rfl, by decide, cw_X3, bw 236 (by decide +kernel) rfl, tyX3_ok, nmX3, rfl, rfl, fun h => by first | rfl | exact absurd h (by decide)⟩
set_option maxRecDepth 20000 in
theorem f_X3_20 : mF RX3 20 4 2 := ⟨_, rfl, by decide, cw_X3, bw 238 (by decide +kernel) rfl⟩
set_option maxRecDepth 20000 in
theorem p_X3_20 : mFp RX3 20 4 2 (.int) false := ⟨_, tyX3, rfl, by decide, cw_X3, bw 238 (by decide +kernel) rfl, tyX3_ok, nmX3, rfl, rfl, fun h => by first | rfl | exact absurd h (by decide)⟩
set_option maxRecDepth 20000 in
theorem p_X3_23 : mFp RX3 23 4 3 (.int) false := ⟨_, tyX3, rfl, by decide, cw_X3, bw 240 (by decide +kernel) rfl, tyX3_ok, nmX3, rfl, rfl, fun h => by first | rfl | exact absurd h (by decide)⟩
set_option maxRecDepth 20000 in
theorem f_X3_26 : mF RX3 26 4 4 := ⟨_, rfl, by decide, cw_X3, bw 242 (by decide +kernel) rfl⟩
set_option maxRecDepth 20000 in
theorem p_X3_26 : mFp RX3 26 4 4 (.int) false := ⟨_, tyX3, rfl, by decide, cw_X3, bw 242 (by decide +kernel) rfl, tyX3_ok, nmX3, rfl, rfl, fun h => by first | rfl | exact absurd h (by decide)⟩
set_option maxRecDepth 20000 in
theorem f_X3_35 : mF RX3 35 3 0 := ⟨_, rfl, by decide, cw_X2, bw 134 (by decide +kernel) rfl⟩
set_option maxRecDepth 20000 in
theorem f_X3_47 : mF RX3 47 3 3 := ⟨_, rfl, by decide, cw_X2, bw 141 (by decide +kernel) rfl⟩
set_option maxRecDepth 20000 in
theorem f_X4_9 : mF RX4 9 5 0 := ⟨_, rfl, by decide, cw_X4, bw 184 (by decide +kernel) rfl⟩
set_option maxRecDepth 20000 in
theorem p_X4_9 : mFp RX4 9 5 0 (.array .char) true := ⟨_, tyX4, rfl, by decide, cw_X4, bw 184 (by decide +kernel) rfl, tyX4_ok, nmX4, rfl, rfl, fun h => by first | rfl | exact absurd h (by decide)⟩
set_option maxRecDepth 20000 in
theorem f_X4_15 : mF RX4 15 5 1 := ⟨_, rfl, by decide, cw_X4, bw 185 (by decide +kernel) rfl⟩
set_option maxRecDepth 20000 in
theorem p_X4_15 : mFp RX4 15 5 1 (.int) false := ⟨_, tyX4, rfl, by decide, cw_X4, bw 185 (by decide +kernel) rfl, tyX4_ok, nmX4, rfl, rfl, fun h => by first | rfl | exact absurd h (by decide)⟩
set_option maxRecDepth 20000 in
theorem f_X4_19 : mF RX4 19 5 2 := ⟨_, rfl, by decide, cw_X4, bw 187 (by decide +kernel) rfl⟩
set_option maxRecDepth 20000 in
theorem p_X4_19 : mFp RX4 19 5 2 (.int) false := ⟨_, tyX4, rfl, by decide, cw_X4, bw 187 (by decide +kernel) rfl, tyX4_ok, nmX4, rfl, rfl, fun h => by first | rfl | exact absurd h (by decide)⟩
set_option maxRecDepth 20000 in
theorem f_X4_39 : mF RX4 39 5 3 := ⟨_, rfl, by decide, cw_X4, bw 189 (by decide +kernel) rfl⟩
set_option maxRecDepth 20000 in
theorem p_X4_39 : mFp RX4 39 5 3 (.int) false := ⟨_, tyX4, rfl, by decide, cw_X4, bw 189 (by decide +kernel) rfl, tyX4_ok, nmX4, rfl, rfl, fun h => by first | rfl | exact absurd h (by decide)⟩
set_option maxRecDepth 20000 in
theorem f_X4_52 : mF RX4 52 5 5 := ⟨_, rfl, by decide, cw_X4, bw 192 (by decide +kernel) rfl⟩
set_option maxRecDepth 20000 in
theorem p_X4_52 : mFp RX4 52 5 5 (.int) false := ⟨_, tyX4, rfl, by decide, cw_X4, bw 192 (by decide +kernel) rfl, tyX4_ok, nmX4, rfl, rfl, fun h => by first | rfl | exact absurd h (by decide)⟩
set_option maxRecDepth 20000 in
theorem f_X4_59 : mF RX4 59 5 6 := ⟨_, rfl, by decide, cw_X4, bw 193 (by decide +kernel) rfl⟩
set_option maxRecDepth 20000 in
theorem p_X4_59 : mFp RX4 59 5 6 (.int) false := ⟨_, tyX4, rfl, by decide, cw_X4, bw 193 (by decide +kernel) rfl, tyX4_ok, nmX4, rfl, rfl, fun h => by first | rfl | exact absurd h (by decide)⟩
set_option maxRecDepth 20000 in
theorem f_X4_62 : mF RX4 62 5 4 := ⟨_, rfl, by decide, cw_X4, bw 191 (by decide +kernel) rfl⟩
set_option maxRecDepth 20000 in
theorem p_X4_62 : mFp RX4 62 5 4 (.int) false := ⟨_, tyX4, rfl, by decide, cw_X4, bw 191 (by decide +kernel) rfl, tyX4_ok, nmX4, rfl, rfl, fun h => by first | rfl | exact absurd h (by decide)⟩
set_option maxRecDepth 20000 in
theorem p_X4_125 : mFp RX4 125 3 2 (.int) false := ⟨_, tyX2, rfl, by decide, cw_X2, bw 140 (by decide +kernel) rfl, tyX2_ok, nmX2, rfl, rfl, fun h => by first | rfl | exact absurd h (by decide)⟩
set_option maxRecDepth 20000 in
theorem f_X5_9 : mF RX5 9 6 0 := ⟨_, rfl, by decide, cw_X5, bw 525 (by decide +kernel) rfl⟩
set_option maxRecDepth 20000 in
theorem p_X5_9 : mFp RX5 9 6 0 (.array .char) true := ⟨_, tyX5, rfl, by decide, cw_X5, bw 525 (by decide +kernel) rfl, tyX5_ok, nmX5, rfl, rfl, fun h => by first | rfl | exact absurd h (by decide)⟩
set_option maxRecDepth 20000 in
theorem f_X5_15 : mF RX5 15 6 1 := ⟨_, rfl, by decide, cw_X5, bw 528 (by decide +kernel) rfl⟩
set_option maxRecDepth 20000 in
theorem p_X5_15 : mFp RX5 15 6 1 (.array .char) true := ⟨_, tyX5, rfl, by decide, cw_X5, bw 528 (by decide +kernel) rfl, tyX5_ok, nmX5, rfl, rfl, fun h => by first | rfl | exact absurd h (by decide)⟩
set_option maxRecDepth 20000 in
theorem f_X5_18 : mF RX5 18 6 2 := ⟨_, rfl, by decide, cw_X5, bw 530 (by decide +kernel) rfl⟩
set_option maxRecDepth 20000 in
theorem p_X5_18 : mFp RX5 18 6 2 (.int) true := ⟨_, tyX5, rfl, by decide, cw_X5, bw 530 (by decide +kernel) rfl, tyX5_ok, nmX5, rfl, rfl, fun h => by first | rfl | exact absurd h (by decide)⟩
set_option maxRecDepth 20000 in
theorem f_X6_10 : mF RX6 10 7 0 := ⟨_, rfl, by decide, cw_X6, bw 255 (by decide +kernel) rfl⟩
set_option maxRecDepth 20000 in
theorem p_X6_10 : mFp RX6 10 7 0 (.object "TitleFinder$State") true := ⟨_, tyX6, rfl, by decide, cw_X6, bw 255 (by decide +kernel) rfl, tyX6_ok, nmX6, rfl, rfl, fun h => by first | rfl | exact absurd h (by decide)⟩
set_option maxRecDepth 20000 in
theorem f_X6_16 : mF RX6 16 7 1 := ⟨_, rfl, by decide, cw_X6, bw 256 (by decide +kernel) rfl⟩
set_option maxRecDepth 20000 in
theorem p_X6_16 : mFp RX6 16 7 1 (.object "TitleFinder$State") true := ⟨_, tyX6, rfl, by decide, cw_X6, bw 256 (by decide +kernel) rfl, tyX6_ok, nmX6, rfl, rfl, fun h => by first | rfl | exact absurd h (by decide)⟩
set_option maxRecDepth 20000 in
theorem f_X6_22 : mF RX6 22 7 2 := ⟨_, rfl, by decide, cw_X6, bw 257 (by decide +kernel) rfl⟩
set_option maxRecDepth 20000 in
theorem p_X6_22 : mFp RX6 22 7 2 (.object "TitleFinder$History") true := ⟨_, tyX6, rfl, by decide, cw_X6, bw 257 (by decide +kernel) rfl, tyX6_ok, nmX6, rfl, rfl, fun h => by first | rfl | exact absurd h (by decide)⟩
set_option maxRecDepth 20000 in
theorem f_X6_29 : mF RX6 29 7 3 := ⟨_, rfl, by decide, cw_X6, bw 258 (by decide +kernel) rfl⟩
set_option maxRecDepth 20000 in
theorem p_X6_29 : mFp RX6 29 7 3 (.object "TitleFinder$Text") true := ⟨_, tyX6, rfl, by decide, cw_X6, bw 258 (by decide +kernel) rfl, tyX6_ok, nmX6, rfl, rfl, fun h => by first | rfl | exact absurd h (by decide)⟩
set_option maxRecDepth 20000 in
theorem f_X6_36 : mF RX6 36 7 4 := ⟨_, rfl, by decide, cw_X6, bw 259 (by decide +kernel) rfl⟩
set_option maxRecDepth 20000 in
theorem p_X6_36 : mFp RX6 36 7 4 (.object "TitleFinder$Ranking") true := ⟨_, tyX6, rfl, by decide, cw_X6, bw 259 (by decide +kernel) rfl, tyX6_ok, nmX6, rfl, rfl, fun h => by first | rfl | exact absurd h (by decide)⟩
set_option maxRecDepth 20000 in
theorem f_X6_43 : mF RX6 43 7 5 := ⟨_, rfl, by decide, cw_X6, bw 260 (by decide +kernel) rfl⟩
set_option maxRecDepth 20000 in
theorem p_X6_43 : mFp RX6 43 7 5 (.object "TitleFinder$Study") true := ⟨_, tyX6, rfl, by decide, cw_X6, bw 260 (by decide +kernel) rfl, tyX6_ok, nmX6, rfl, rfl, fun h => by first | rfl | exact absurd h (by decide)⟩
set_option maxRecDepth 20000 in
theorem f_X6_51 : mF RX6 51 5 1 := ⟨_, rfl, by decide, cw_X4, bw 186 (by decide +kernel) rfl⟩
set_option maxRecDepth 20000 in
theorem f_X6_79 : mF RX6 79 5 3 := ⟨_, rfl, by decide, cw_X4, bw 188 (by decide +kernel) rfl⟩
set_option maxRecDepth 20000 in
theorem f_X6_90 : mF RX6 90 5 4 := ⟨_, rfl, by decide, cw_X4, bw 190 (by decide +kernel) rfl⟩
set_option maxRecDepth 20000 in
theorem f_X6_97 : mF RX6 97 3 3 := ⟨_, rfl, by decide, cw_X2, bw 143 (by decide +kernel) rfl⟩
set_option maxRecDepth 20000 in
theorem p_X6_97 : mFp RX6 97 3 3 (.int) false := ⟨_, tyX2, rfl, by decide, cw_X2, bw 143 (by decide +kernel) rfl, tyX2_ok, nmX2, rfl, rfl, fun h => by first | rfl | exact absurd h (by decide)⟩
set_option maxRecDepth 20000 in
theorem f_X6_100 : mF RX6 100 3 4 := ⟨_, rfl, by decide, cw_X2, bw 145 (by decide +kernel) rfl⟩
set_option maxRecDepth 20000 in
theorem p_X6_100 : mFp RX6 100 3 4 (.int) false := ⟨_, tyX2, rfl, by decide, cw_X2, bw 145 (by decide +kernel) rfl, tyX2_ok, nmX2, rfl, rfl, fun h => by first | rfl | exact absurd h (by decide)⟩
set_option maxRecDepth 20000 in
theorem f_X6_110 : mF RX6 110 3 2 := ⟨_, rfl, by decide, cw_X2, bw 139 (by decide +kernel) rfl⟩
set_option maxRecDepth 20000 in
theorem p_X6_110 : mFp RX6 110 3 2 (.int) false := ⟨_, tyX2, rfl, by decide, cw_X2, bw 139 (by decide +kernel) rfl, tyX2_ok, nmX2, rfl, rfl, fun h => by first | rfl | exact absurd h (by decide)⟩
set_option maxRecDepth 20000 in
theorem f_X6_119 : mF RX6 119 3 0 := ⟨_, rfl, by decide, cw_X2, bw 135 (by decide +kernel) rfl⟩
set_option maxRecDepth 20000 in
theorem f_X6_144 : mF RX6 144 6 0 := ⟨_, rfl, by decide, cw_X5, bw 527 (by decide +kernel) rfl⟩
set_option maxRecDepth 20000 in
theorem f_X6_156 : mF RX6 156 6 1 := ⟨_, rfl, by decide, cw_X5, bw 529 (by decide +kernel) rfl⟩
set_option maxRecDepth 20000 in
theorem f_X6_159 : mF RX6 159 6 2 := ⟨_, rfl, by decide, cw_X5, bw 532 (by decide +kernel) rfl⟩
set_option maxRecDepth 20000 in
theorem f_X6_165 : mF RX6 165 4 1 := ⟨_, rfl, by decide, cw_X3, bw 237 (by decide +kernel) rfl⟩
set_option maxRecDepth 20000 in
theorem f_X6_168 : mF RX6 168 4 2 := ⟨_, rfl, by decide, cw_X3, bw 239 (by decide +kernel) rfl⟩
set_option maxRecDepth 20000 in
theorem f_X6_174 : mF RX6 174 4 3 := ⟨_, rfl, by decide, cw_X3, bw 241 (by decide +kernel) rfl⟩
set_option maxRecDepth 20000 in
theorem f_X6_177 : mF RX6 177 4 4 := ⟨_, rfl, by decide, cw_X3, bw 243 (by decide +kernel) rfl⟩
set_option maxRecDepth 20000 in
theorem f_X6_202 : mF RX6 202 3 1 := ⟨_, rfl, by decide, cw_X2, bw 137 (by decide +kernel) rfl⟩
set_option maxRecDepth 20000 in
theorem f_X6_208 : mF RX6 208 2 2 := ⟨_, rfl, by decide, cw_X1, bw 218 (by decide +kernel) rfl⟩
set_option maxRecDepth 20000 in
theorem f_X6_225 : mF RX6 225 1 2 := ⟨_, rfl, by decide, cw_X0, bw 170 (by decide +kernel) rfl⟩
set_option maxRecDepth 20000 in
theorem f_X7_7 : mF RX7 7 8 0 := ⟨_, rfl, by decide, cw_X7, bw 842 (by decide +kernel) rfl⟩
set_option maxRecDepth 20000 in
theorem p_X7_7 : mFp RX7 7 8 0 (.array .int) true := ⟨_, tyX7, rfl, by decide, cw_X7, bw 842 (by decide +kernel) rfl, tyX7_ok, nmX7, rfl, rfl, fun h => by first | rfl | exact absurd h (by decide)⟩
set_option maxRecDepth 20000 in
theorem f_X7_13 : mF RX7 13 8 1 := ⟨_, rfl, by decide, cw_X7, bw 843 (by decide +kernel) rfl⟩
set_option maxRecDepth 20000 in
theorem p_X7_13 : mFp RX7 13 8 1 (.array .int) true := ⟨_, tyX7, rfl, by decide, cw_X7, bw 843 (by decide +kernel) rfl, tyX7_ok, nmX7, rfl, rfl, fun h => by first | rfl | exact absurd h (by decide)⟩
set_option maxRecDepth 20000 in
theorem f_X7_16 : mF RX7 16 8 3 := ⟨_, rfl, by decide, cw_X7, bw 845 (by decide +kernel) rfl⟩
set_option maxRecDepth 20000 in
theorem p_X7_16 : mFp RX7 16 8 3 (.array .int) true := ⟨_, tyX7, rfl, by decide, cw_X7, bw 845 (by decide +kernel) rfl, tyX7_ok, nmX7, rfl, rfl, fun h => by first | rfl | exact absurd h (by decide)⟩
set_option maxRecDepth 20000 in
theorem f_X7_19 : mF RX7 19 8 5 := ⟨_, rfl, by decide, cw_X7, bw 847 (by decide +kernel) rfl⟩
set_option maxRecDepth 20000 in
theorem p_X7_19 : mFp RX7 19 8 5 (.array .int) true := ⟨_, tyX7, rfl, by decide, cw_X7, bw 847 (by decide +kernel) rfl, tyX7_ok, nmX7, rfl, rfl, fun h => by first | rfl | exact absurd h (by decide)⟩
set_option maxRecDepth 20000 in
theorem f_X7_22 : mF RX7 22 8 6 := ⟨_, rfl, by decide, cw_X7, bw 848 (by decide +kernel) rfl⟩
set_option maxRecDepth 20000 in
theorem p_X7_22 : mFp RX7 22 8 6 (.array .int) true := ⟨_, tyX7, rfl, by decide, cw_X7, bw 848 (by decide +kernel) rfl, tyX7_ok, nmX7, rfl, rfl, fun h => by first | rfl | exact absurd h (by decide)⟩
set_option maxRecDepth 20000 in
theorem f_X7_25 : mF RX7 25 8 7 := ⟨_, rfl, by decide, cw_X7, bw 849 (by decide +kernel) rfl⟩
set_option maxRecDepth 20000 in
theorem p_X7_25 : mFp RX7 25 8 7 (.array .int) true := ⟨_, tyX7, rfl, by decide, cw_X7, bw 849 (by decide +kernel) rfl, tyX7_ok, nmX7, rfl, rfl, fun h => by first | rfl | exact absurd h (by decide)⟩
set_option maxRecDepth 20000 in
theorem f_X7_28 : mF RX7 28 8 9 := ⟨_, rfl, by decide, cw_X7, bw 851 (by decide +kernel) rfl⟩
set_option maxRecDepth 20000 in
theorem p_X7_28 : mFp RX7 28 8 9 (.array .int) true := ⟨_, tyX7, rfl, by decide, cw_X7, bw 851 (by decide +kernel) rfl, tyX7_ok, nmX7, rfl, rfl, fun h => by first | rfl | exact absurd h (by decide)⟩
set_option maxRecDepth 20000 in
theorem f_X7_31 : mF RX7 31 8 11 := ⟨_, rfl, by decide, cw_X7, bw 853 (by decide +kernel) rfl⟩
set_option maxRecDepth 20000 in
theorem p_X7_31 : mFp RX7 31 8 11 (.array .int) true := ⟨_, tyX7, rfl, by decide, cw_X7, bw 853 (by decide +kernel) rfl, tyX7_ok, nmX7, rfl, rfl, fun h => by first | rfl | exact absurd h (by decide)⟩
set_option maxRecDepth 20000 in
theorem f_X7_34 : mF RX7 34 8 14 := ⟨_, rfl, by decide, cw_X7, bw 856 (by decide +kernel) rfl⟩
set_option maxRecDepth 20000 in
theorem p_X7_34 : mFp RX7 34 8 14 (.array .int) true := ⟨_, tyX7, rfl, by decide, cw_X7, bw 856 (by decide +kernel) rfl, tyX7_ok, nmX7, rfl, rfl, fun h => by first | rfl | exact absurd h (by decide)⟩
set_option maxRecDepth 20000 in
theorem f_X7_37 : mF RX7 37 8 15 := ⟨_, rfl, by decide, cw_X7, bw 857 (by decide +kernel) rfl⟩
set_option maxRecDepth 20000 in
theorem p_X7_37 : mFp RX7 37 8 15 (.array .int) true := ⟨_, tyX7, rfl, by decide, cw_X7, bw 857 (by decide +kernel) rfl, tyX7_ok, nmX7, rfl, rfl, fun h => by first | rfl | exact absurd h (by decide)⟩
set_option maxRecDepth 20000 in
theorem f_X7_40 : mF RX7 40 8 16 := ⟨_, rfl, by decide, cw_X7, bw 858 (by decide +kernel) rfl⟩
set_option maxRecDepth 20000 in
theorem p_X7_40 : mFp RX7 40 8 16 (.array .int) true := ⟨_, tyX7, rfl, by decide, cw_X7, bw 858 (by decide +kernel) rfl, tyX7_ok, nmX7, rfl, rfl, fun h => by first | rfl | exact absurd h (by decide)⟩
set_option maxRecDepth 20000 in
theorem f_X7_43 : mF RX7 43 8 2 := ⟨_, rfl, by decide, cw_X7, bw 844 (by decide +kernel) rfl⟩
set_option maxRecDepth 20000 in
theorem p_X7_43 : mFp RX7 43 8 2 (.int) false := ⟨_, tyX7, rfl, by decide, cw_X7, bw 844 (by decide +kernel) rfl, tyX7_ok, nmX7, rfl, rfl, fun h => by first | rfl | exact absurd h (by decide)⟩
set_option maxRecDepth 20000 in
theorem f_X7_72 : mF RX7 72 8 8 := ⟨_, rfl, by decide, cw_X7, bw 850 (by decide +kernel) rfl⟩
set_option maxRecDepth 20000 in
theorem p_X7_72 : mFp RX7 72 8 8 (.int) false := ⟨_, tyX7, rfl, by decide, cw_X7, bw 850 (by decide +kernel) rfl, tyX7_ok, nmX7, rfl, rfl, fun h => by first | rfl | exact absurd h (by decide)⟩
set_option maxRecDepth 20000 in
theorem f_X7_93 : mF RX7 93 8 10 := ⟨_, rfl, by decide, cw_X7, bw 852 (by decide +kernel) rfl⟩
set_option maxRecDepth 20000 in
theorem p_X7_93 : mFp RX7 93 8 10 (.int) false := ⟨_, tyX7, rfl, by decide, cw_X7, bw 852 (by decide +kernel) rfl, tyX7_ok, nmX7, rfl, rfl, fun h => by first | rfl | exact absurd h (by decide)⟩
set_option maxRecDepth 20000 in
theorem f_X7_110 : mF RX7 110 8 12 := ⟨_, rfl, by decide, cw_X7, bw 854 (by decide +kernel) rfl⟩
set_option maxRecDepth 20000 in
theorem p_X7_110 : mFp RX7 110 8 12 (.int) false := ⟨_, tyX7, rfl, by decide, cw_X7, bw 854 (by decide +kernel) rfl, tyX7_ok, nmX7, rfl, rfl, fun h => by first | rfl | exact absurd h (by decide)⟩
set_option maxRecDepth 20000 in
theorem f_X7_113 : mF RX7 113 8 13 := ⟨_, rfl, by decide, cw_X7, bw 855 (by decide +kernel) rfl⟩
set_option maxRecDepth 20000 in
theorem p_X7_113 : mFp RX7 113 8 13 (.int) false := ⟨_, tyX7, rfl, by decide, cw_X7, bw 855 (by decide +kernel) rfl, tyX7_ok, nmX7, rfl, rfl, fun h => by first | rfl | exact absurd h (by decide)⟩
set_option maxRecDepth 20000 in
theorem f_X7_120 : mF RX7 120 8 4 := ⟨_, rfl, by decide, cw_X7, bw 846 (by decide +kernel) rfl⟩
set_option maxRecDepth 20000 in
theorem p_X7_120 : mFp RX7 120 8 4 (.int) false := ⟨_, tyX7, rfl, by decide, cw_X7, bw 846 (by decide +kernel) rfl, tyX7_ok, nmX7, rfl, rfl, fun h => by first | rfl | exact absurd h (by decide)⟩
set_option maxRecDepth 20000 in
theorem f_X7_123 : mF RX7 123 8 17 := ⟨_, rfl, by decide, cw_X7, bw 859 (by decide +kernel) rfl⟩
set_option maxRecDepth 20000 in
theorem p_X7_123 : mFp RX7 123 8 17 (.int) false := ⟨_, tyX7, rfl, by decide, cw_X7, bw 859 (by decide +kernel) rfl, tyX7_ok, nmX7, rfl, rfl, fun h => by first | rfl | exact absurd h (by decide)⟩
set_option maxRecDepth 20000 in
theorem f_X7_134 : mF RX7 134 8 20 := ⟨_, rfl, by decide, cw_X7, bw 862 (by decide +kernel) rfl⟩
set_option maxRecDepth 20000 in
theorem p_X7_134 : mFp RX7 134 8 20 (.int) false := ⟨_, tyX7, rfl, by decide, cw_X7, bw 862 (by decide +kernel) rfl, tyX7_ok, nmX7, rfl, rfl, fun h => by first | rfl | exact absurd h (by decide)⟩
set_option maxRecDepth 20000 in
theorem f_X7_140 : mF RX7 140 8 21 := ⟨_, rfl, by decide, cw_X7, bw 863 (by decide +kernel) rfl⟩
set_option maxRecDepth 20000 in
theorem p_X7_140 : mFp RX7 140 8 21 (.int) false := ⟨_, tyX7, rfl, by decide, cw_X7, bw 863 (by decide +kernel) rfl, tyX7_ok, nmX7, rfl, rfl, fun h => by first | rfl | exact absurd h (by decide)⟩
set_option maxRecDepth 20000 in
theorem f_X7_143 : mF RX7 143 8 19 := ⟨_, rfl, by decide, cw_X7, bw 861 (by decide +kernel) rfl⟩
set_option maxRecDepth 20000 in
theorem p_X7_143 : mFp RX7 143 8 19 (.int) false := ⟨_, tyX7, rfl, by decide, cw_X7, bw 861 (by decide +kernel) rfl, tyX7_ok, nmX7, rfl, rfl, fun h => by first | rfl | exact absurd h (by decide)⟩
set_option maxRecDepth 20000 in
theorem f_X7_164 : mF RX7 164 8 18 := ⟨_, rfl, by decide, cw_X7, bw 860 (by decide +kernel) rfl⟩
set_option maxRecDepth 20000 in
theorem p_X7_164 : mFp RX7 164 8 18 (.int) false := ⟨_, tyX7, rfl, by decide, cw_X7, bw 860 (by decide +kernel) rfl, tyX7_ok, nmX7, rfl, rfl, fun h => by first | rfl | exact absurd h (by decide)⟩
set_option maxRecDepth 20000 in
theorem n_X0_9 : mN RX0 9 3 [.null, .null, .int 0, .int 0, .int 0] := ⟨_, tyX2, rfl, cw_X2, tyX2_ok, bw 164 (by decide +kernel) rfl, bw 101 (by decide +kernel) rfl, bw 73 (by decide +kernel) rfl, by decide +kernel, rfl⟩
set_option maxRecDepth 20000 in
theorem n_X2_9 : mN RX2 9 0 [.int 0, .null, .int 0] := ⟨_, tyJx4a65c, rfl, cw_Jx4a65c, tyJx4a65c_ok, bw 106 (by decide +kernel) rfl, bw 107 (by decide +kernel) rfl, bw 76 (by decide +kernel) rfl, by decide +kernel, rfl⟩
set_option maxRecDepth 20000 in
theorem n_X5_10 : mN RX5 10 6 [.null, .null, .int 0] := ⟨_, tyX5, rfl, cw_X5, tyX5_ok, bw 513 (by decide +kernel) rfl, bw 514 (by decide +kernel) rfl, bw 91 (by decide +kernel) rfl, by decide +kernel, rfl⟩
set_option maxRecDepth 20000 in
theorem n_X6_7 : mN RX6 7 3 [.null, .null, .int 0, .int 0, .int 0] := ⟨_, tyX2, rfl, cw_X2, tyX2_ok, bw 100 (by decide +kernel) rfl, bw 101 (by decide +kernel) rfl, bw 73 (by decide +kernel) rfl, by decide +kernel, rfl⟩
set_option maxRecDepth 20000 in
theorem n_X6_19 : mN RX6 19 1 [.null, .int 0, .int 0] := ⟨_, tyX0, rfl, cw_X0, tyX0_ok, bw 158 (by decide +kernel) rfl, bw 159 (by decide +kernel) rfl, bw 77 (by decide +kernel) rfl, by decide +kernel, rfl⟩
set_option maxRecDepth 20000 in
theorem n_X6_26 : mN RX6 26 5 [.null, .int 0, .int 0, .int 0, .int 0, .int 0, .int 0] := ⟨_, tyX4, rfl, cw_X4, tyX4_ok, bw 178 (by decide +kernel) rfl, bw 179 (by decide +kernel) rfl, bw 78 (by decide +kernel) rfl, by decide +kernel, rfl⟩
set_option maxRecDepth 20000 in
theorem n_X6_33 : mN RX6 33 2 [.null, .null, .int 0] := ⟨_, tyX1, rfl, cw_X1, tyX1_ok, bw 209 (by decide +kernel) rfl, bw 210 (by decide +kernel) rfl, bw 79 (by decide +kernel) rfl, by decide +kernel, rfl⟩
set_option maxRecDepth 20000 in
theorem n_X6_40 : mN RX6 40 4 [.null, .int 0, .int 0, .int 0, .int 0] := ⟨_, tyX3, rfl, cw_X3, tyX3_ok, bw 227 (by decide +kernel) rfl, bw 228 (by decide +kernel) rfl, bw 80 (by decide +kernel) rfl, by decide +kernel, rfl⟩
set_option maxRecDepth 20000 in
theorem n_L_7 : mN RL 7 7 [.null, .null, .null, .null, .null, .null] := ⟨_, tyX6, rfl, cw_X6, tyX6_ok, bw 92 (by decide +kernel) rfl, bw 93 (by decide +kernel) rfl, bw 72 (by decide +kernel) rfl, by decide +kernel, rfl⟩
set_option maxRecDepth 20000 in
theorem n_L_10 : mN RL 10 8 [.null, .null, .int 0, .null, .int 0, .null, .null, .null, .int 0, .null, .int 0, .null, .int 0, .int 0, .null, .null, .null, .int 0, .int 0, .int 0, .int 0, .int 0] := ⟨_, tyX7, rfl, cw_X7, tyX7_ok, bw 836 (by decide +kernel) rfl, bw 837 (by decide +kernel) rfl, bw 81 (by decide +kernel) rfl, by decide +kernel, rfl⟩
set_option maxRecDepth 20000 in
theorem m_X0_17 : mCn RX0 17 iX2_init 0 := ⟨⟨bw 104 (by decide +kernel) rfl, bw 73 (by decide +kernel) rfl, ⟨by decide +kernel, by decide +kernel⟩, by decide +kernel⟩, ⟨"TitleFinder", by decide +kernel⟩, bw 103 (by decide +kernel) rfl, rfl, rfl⟩
set_option maxRecDepth 20000 in
theorem m_X0_22 : mCv RX0 22 iX2_copyFrom 1 := ⟨⟨bw 423 (by decide +kernel) rfl, bw 73 (by decide +kernel) rfl, ⟨by decide +kernel, by decide +kernel⟩, by decide +kernel⟩, bw 420 (by decide +kernel) rfl, bw 421 (by decide +kernel) rfl, bw 422 (by decide +kernel) rfl⟩
set_option maxRecDepth 20000 in
theorem m_X1_28 : mCv RX1 28 iJx4a65c_size_8abf5 0 := ⟨⟨bw 431 (by decide +kernel) rfl, bw 76 (by decide +kernel) rfl, ⟨by decide +kernel, by decide +kernel⟩, by decide +kernel⟩, bw 590 (by decide +kernel) rfl, bw 429 (by decide +kernel) rfl, bw 430 (by decide +kernel) rfl⟩
set_option maxRecDepth 20000 in
theorem m_X1_34 : mCv RX1 34 iX2_placeOfMatch 1 := ⟨⟨bw 594 (by decide +kernel) rfl, bw 73 (by decide +kernel) rfl, ⟨by decide +kernel, by decide +kernel⟩, by decide +kernel⟩, bw 591 (by decide +kernel) rfl, bw 592 (by decide +kernel) rfl, bw 593 (by decide +kernel) rfl⟩
set_option maxRecDepth 20000 in
theorem m_X1_38 : mCv RX1 38 iX1_insert 3 := ⟨⟨bw 614 (by decide +kernel) rfl, bw 79 (by decide +kernel) rfl, ⟨by decide +kernel, by decide +kernel⟩, by decide +kernel⟩, bw 611 (by decide +kernel) rfl, bw 613 (by decide +kernel) rfl, bw 14 (by decide +kernel) rfl⟩
set_option maxRecDepth 20000 in
theorem m_X1_42 : mCv RX1 42 iX2_comesBefore 4 := ⟨⟨bw 618 (by decide +kernel) rfl, bw 73 (by decide +kernel) rfl, ⟨by decide +kernel, by decide +kernel⟩, by decide +kernel⟩, bw 615 (by decide +kernel) rfl, bw 616 (by decide +kernel) rfl, bw 617 (by decide +kernel) rfl⟩
set_option maxRecDepth 20000 in
theorem m_X1_46 : mCv RX1 46 iX1_has 1 := ⟨⟨bw 626 (by decide +kernel) rfl, bw 79 (by decide +kernel) rfl, ⟨by decide +kernel, by decide +kernel⟩, by decide +kernel⟩, bw 631 (by decide +kernel) rfl, bw 624 (by decide +kernel) rfl, bw 625 (by decide +kernel) rfl⟩
set_option maxRecDepth 20000 in
theorem m_X2_11 : mCi RX2 11 iJx4a65c_init_da8c8 0 := ⟨⟨bw 110 (by decide +kernel) rfl, bw 76 (by decide +kernel) rfl, ⟨by decide +kernel, by decide +kernel⟩, by decide +kernel⟩, bw 108 (by decide +kernel) rfl, bw 109 (by decide +kernel) rfl, rfl, rfl⟩
set_option maxRecDepth 20000 in
theorem m_X2_22 : mCv RX2 22 iJx4a65c_clear_da8c8 0 := ⟨⟨bw 427 (by decide +kernel) rfl, bw 76 (by decide +kernel) rfl, ⟨by decide +kernel, by decide +kernel⟩, by decide +kernel⟩, bw 424 (by decide +kernel) rfl, bw 425 (by decide +kernel) rfl, bw 426 (by decide +kernel) rfl⟩
set_option maxRecDepth 20000 in
theorem m_X2_25 : mCv RX2 25 iJx4a65c_size_8abf5 0 := ⟨⟨bw 431 (by decide +kernel) rfl, bw 76 (by decide +kernel) rfl, ⟨by decide +kernel, by decide +kernel⟩, by decide +kernel⟩, bw 428 (by decide +kernel) rfl, bw 429 (by decide +kernel) rfl, bw 430 (by decide +kernel) rfl⟩
set_option maxRecDepth 20000 in
theorem m_X2_29 : mCv RX2 29 iJx4a65c_get_915e3 1 := ⟨⟨bw 435 (by decide +kernel) rfl, bw 76 (by decide +kernel) rfl, ⟨by decide +kernel, by decide +kernel⟩, by decide +kernel⟩, bw 432 (by decide +kernel) rfl, bw 433 (by decide +kernel) rfl, bw 434 (by decide +kernel) rfl⟩
set_option maxRecDepth 20000 in
theorem m_X2_35 : mCv RX2 35 iJx4a65c_add_9ea2d 1 := ⟨⟨bw 448 (by decide +kernel) rfl, bw 76 (by decide +kernel) rfl, ⟨by decide +kernel, by decide +kernel⟩, by decide +kernel⟩, bw 445 (by decide +kernel) rfl, bw 446 (by decide +kernel) rfl, bw 447 (by decide +kernel) rfl⟩
set_option maxRecDepth 20000 in
theorem m_X2_49 : mCv RX2 49 iX5_hasLettersOf 1 := ⟨⟨bw 551 (by decide +kernel) rfl, bw 91 (by decide +kernel) rfl, ⟨by decide +kernel, by decide +kernel⟩, by decide +kernel⟩, bw 548 (by decide +kernel) rfl, bw 549 (by decide +kernel) rfl, bw 550 (by decide +kernel) rfl⟩
set_option maxRecDepth 20000 in
theorem m_X2_53 : mCv RX2 53 iX2_queryEndsWithLetter 0 := ⟨⟨bw 598 (by decide +kernel) rfl, bw 73 (by decide +kernel) rfl, ⟨by decide +kernel, by decide +kernel⟩, by decide +kernel⟩, bw 595 (by decide +kernel) rfl, bw 596 (by decide +kernel) rfl, bw 597 (by decide +kernel) rfl⟩
set_option maxRecDepth 20000 in
theorem m_X2_57 : mCv RX2 57 iX5_placeOf 3 := ⟨⟨bw 602 (by decide +kernel) rfl, bw 91 (by decide +kernel) rfl, ⟨by decide +kernel, by decide +kernel⟩, by decide +kernel⟩, bw 599 (by decide +kernel) rfl, bw 600 (by decide +kernel) rfl, bw 601 (by decide +kernel) rfl⟩
set_option maxRecDepth 20000 in
theorem m_X2_61 : mCv RX2 61 iX5_comesByNameBefore 1 := ⟨⟨bw 622 (by decide +kernel) rfl, bw 91 (by decide +kernel) rfl, ⟨by decide +kernel, by decide +kernel⟩, by decide +kernel⟩, bw 619 (by decide +kernel) rfl, bw 620 (by decide +kernel) rfl, bw 621 (by decide +kernel) rfl⟩
set_option maxRecDepth 20000 in
theorem m_X3_29 : mCv RX3 29 iX2_has 1 := ⟨⟨bw 564 (by decide +kernel) rfl, bw 73 (by decide +kernel) rfl, ⟨by decide +kernel, by decide +kernel⟩, by decide +kernel⟩, bw 671 (by decide +kernel) rfl, bw 562 (by decide +kernel) rfl, bw 563 (by decide +kernel) rfl⟩
set_option maxRecDepth 20000 in
theorem m_X3_39 : mCv RX3 39 iJx4a65c_get_915e3 1 := ⟨⟨bw 435 (by decide +kernel) rfl, bw 76 (by decide +kernel) rfl, ⟨by decide +kernel, by decide +kernel⟩, by decide +kernel⟩, bw 672 (by decide +kernel) rfl, bw 433 (by decide +kernel) rfl, bw 434 (by decide +kernel) rfl⟩
set_option maxRecDepth 20000 in
theorem m_X3_50 : mCv RX3 50 iX5_run 1 := ⟨⟨bw 606 (by decide +kernel) rfl, bw 91 (by decide +kernel) rfl, ⟨by decide +kernel, by decide +kernel⟩, by decide +kernel⟩, bw 674 (by decide +kernel) rfl, bw 604 (by decide +kernel) rfl, bw 605 (by decide +kernel) rfl⟩
set_option maxRecDepth 20000 in
theorem m_X3_54 : mCv RX3 54 iX5_startsPiece 2 := ⟨⟨bw 610 (by decide +kernel) rfl, bw 91 (by decide +kernel) rfl, ⟨by decide +kernel, by decide +kernel⟩, by decide +kernel⟩, bw 675 (by decide +kernel) rfl, bw 608 (by decide +kernel) rfl, bw 609 (by decide +kernel) rfl⟩
set_option maxRecDepth 20000 in
theorem m_X3_58 : mCv RX3 58 iX3_lookAtPiecesFrom 4 := ⟨⟨bw 679 (by decide +kernel) rfl, bw 80 (by decide +kernel) rfl, ⟨by decide +kernel, by decide +kernel⟩, by decide +kernel⟩, bw 676 (by decide +kernel) rfl, bw 678 (by decide +kernel) rfl, bw 15 (by decide +kernel) rfl⟩
set_option maxRecDepth 20000 in
theorem m_X3_62 : mCv RX3 62 iX3_longestWanted 0 := ⟨⟨bw 683 (by decide +kernel) rfl, bw 80 (by decide +kernel) rfl, ⟨by decide +kernel, by decide +kernel⟩, by decide +kernel⟩, bw 680 (by decide +kernel) rfl, bw 682 (by decide +kernel) rfl, bw 16 (by decide +kernel) rfl⟩
set_option maxRecDepth 20000 in
theorem m_X3_72 : mCv RX3 72 iJx4a65c_size_8abf5 0 := ⟨⟨bw 431 (by decide +kernel) rfl, bw 76 (by decide +kernel) rfl, ⟨by decide +kernel, by decide +kernel⟩, by decide +kernel⟩, bw 694 (by decide +kernel) rfl, bw 429 (by decide +kernel) rfl, bw 430 (by decide +kernel) rfl⟩
set_option maxRecDepth 20000 in
theorem m_X3_75 : mCs RX3 75 iX3_findPlaces 6 := ⟨⟨bw 697 (by decide +kernel) rfl, bw 80 (by decide +kernel) rfl, ⟨by decide +kernel, by decide +kernel⟩, by decide +kernel⟩, bw 695 (by decide +kernel) rfl, bw 696 (by decide +kernel) rfl⟩
set_option maxRecDepth 20000 in
theorem m_X3_79 : mCv RX3 79 iX3_hasKey 0 := ⟨⟨bw 687 (by decide +kernel) rfl, bw 80 (by decide +kernel) rfl, ⟨by decide +kernel, by decide +kernel⟩, by decide +kernel⟩, bw 684 (by decide +kernel) rfl, bw 685 (by decide +kernel) rfl, bw 686 (by decide +kernel) rfl⟩
set_option maxRecDepth 20000 in
theorem m_X3_83 : mCv RX3 83 iX3_isKnownBy 3 := ⟨⟨bw 702 (by decide +kernel) rfl, bw 80 (by decide +kernel) rfl, ⟨by decide +kernel, by decide +kernel⟩, by decide +kernel⟩, bw 699 (by decide +kernel) rfl, bw 701 (by decide +kernel) rfl, bw 17 (by decide +kernel) rfl⟩
set_option maxRecDepth 20000 in
theorem m_X3_87 : mCv RX3 87 iX3_hasShortcut 0 := ⟨⟨bw 691 (by decide +kernel) rfl, bw 80 (by decide +kernel) rfl, ⟨by decide +kernel, by decide +kernel⟩, by decide +kernel⟩, bw 688 (by decide +kernel) rfl, bw 689 (by decide +kernel) rfl, bw 690 (by decide +kernel) rfl⟩
set_option maxRecDepth 20000 in
theorem m_X3_90 : mCv RX3 90 iX3_isFirstFor 3 := ⟨⟨bw 710 (by decide +kernel) rfl, bw 80 (by decide +kernel) rfl, ⟨by decide +kernel, by decide +kernel⟩, by decide +kernel⟩, bw 707 (by decide +kernel) rfl, bw 709 (by decide +kernel) rfl, bw 19 (by decide +kernel) rfl⟩
set_option maxRecDepth 20000 in
theorem m_X3_96 : mCs RX3 96 iX5_sameLength 5 := ⟨⟨bw 554 (by decide +kernel) rfl, bw 91 (by decide +kernel) rfl, ⟨by decide +kernel, by decide +kernel⟩, by decide +kernel⟩, bw 698 (by decide +kernel) rfl, bw 553 (by decide +kernel) rfl⟩
set_option maxRecDepth 20000 in
theorem m_X3_100 : mCv RX3 100 iX3_placeOf 2 := ⟨⟨bw 706 (by decide +kernel) rfl, bw 80 (by decide +kernel) rfl, ⟨by decide +kernel, by decide +kernel⟩, by decide +kernel⟩, bw 703 (by decide +kernel) rfl, bw 705 (by decide +kernel) rfl, bw 18 (by decide +kernel) rfl⟩
set_option maxRecDepth 20000 in
theorem m_X3_103 : mCv RX3 103 iX2_comesBefore 4 := ⟨⟨bw 618 (by decide +kernel) rfl, bw 73 (by decide +kernel) rfl, ⟨by decide +kernel, by decide +kernel⟩, by decide +kernel⟩, bw 711 (by decide +kernel) rfl, bw 616 (by decide +kernel) rfl, bw 617 (by decide +kernel) rfl⟩
set_option maxRecDepth 20000 in
theorem m_X4_22 : mCv RX4 22 iX4_rewind 0 := ⟨⟨bw 301 (by decide +kernel) rfl, bw 78 (by decide +kernel) rfl, ⟨by decide +kernel, by decide +kernel⟩, by decide +kernel⟩, bw 298 (by decide +kernel) rfl, bw 299 (by decide +kernel) rfl, bw 300 (by decide +kernel) rfl⟩
set_option maxRecDepth 20000 in
theorem m_X4_25 : mCv RX4 25 iX4_passCommand 0 := ⟨⟨bw 305 (by decide +kernel) rfl, bw 78 (by decide +kernel) rfl, ⟨by decide +kernel, by decide +kernel⟩, by decide +kernel⟩, bw 302 (by decide +kernel) rfl, bw 303 (by decide +kernel) rfl, bw 304 (by decide +kernel) rfl⟩
set_option maxRecDepth 20000 in
theorem m_X4_29 : mCv RX4 29 iX4_passSemicolon 0 := ⟨⟨bw 410 (by decide +kernel) rfl, bw 78 (by decide +kernel) rfl, ⟨by decide +kernel, by decide +kernel⟩, by decide +kernel⟩, bw 407 (by decide +kernel) rfl, bw 408 (by decide +kernel) rfl, bw 409 (by decide +kernel) rfl⟩
set_option maxRecDepth 20000 in
theorem m_X4_32 : mCv RX4 32 iX4_passTitle 0 := ⟨⟨bw 388 (by decide +kernel) rfl, bw 78 (by decide +kernel) rfl, ⟨by decide +kernel, by decide +kernel⟩, by decide +kernel⟩, bw 385 (by decide +kernel) rfl, bw 387 (by decide +kernel) rfl, bw 2 (by decide +kernel) rfl⟩
set_option maxRecDepth 20000 in
theorem m_X4_35 : mCv RX4 35 iX4_passOneOf 2 := ⟨⟨bw 309 (by decide +kernel) rfl, bw 78 (by decide +kernel) rfl, ⟨by decide +kernel, by decide +kernel⟩, by decide +kernel⟩, bw 306 (by decide +kernel) rfl, bw 308 (by decide +kernel) rfl, bw 0 (by decide +kernel) rfl⟩
set_option maxRecDepth 20000 in
theorem m_X4_42 : mCv RX4 42 iX4_passNumber 0 := ⟨⟨bw 402 (by decide +kernel) rfl, bw 78 (by decide +kernel) rfl, ⟨by decide +kernel, by decide +kernel⟩, by decide +kernel⟩, bw 399 (by decide +kernel) rfl, bw 401 (by decide +kernel) rfl, bw 4 (by decide +kernel) rfl⟩
set_option maxRecDepth 20000 in
theorem m_X4_45 : mCv RX4 45 iX4_passName 2 := ⟨⟨bw 406 (by decide +kernel) rfl, bw 78 (by decide +kernel) rfl, ⟨by decide +kernel, by decide +kernel⟩, by decide +kernel⟩, bw 403 (by decide +kernel) rfl, bw 405 (by decide +kernel) rfl, bw 5 (by decide +kernel) rfl⟩
set_option maxRecDepth 20000 in
theorem m_X4_49 : mCv RX4 49 iX4_hasSign 0 := ⟨⟨bw 392 (by decide +kernel) rfl, bw 78 (by decide +kernel) rfl, ⟨by decide +kernel, by decide +kernel⟩, by decide +kernel⟩, bw 389 (by decide +kernel) rfl, bw 391 (by decide +kernel) rfl, bw 3 (by decide +kernel) rfl⟩
set_option maxRecDepth 20000 in
theorem m_X4_55 : mCs RX4 55 iX4_isLetter 1 := ⟨⟨bw 395 (by decide +kernel) rfl, bw 78 (by decide +kernel) rfl, ⟨by decide +kernel, by decide +kernel⟩, by decide +kernel⟩, bw 393 (by decide +kernel) rfl, bw 394 (by decide +kernel) rfl⟩
set_option maxRecDepth 20000 in
theorem m_X4_65 : mCs RX4 65 iX4_isDigit 1 := ⟨⟨bw 398 (by decide +kernel) rfl, bw 78 (by decide +kernel) rfl, ⟨by decide +kernel, by decide +kernel⟩, by decide +kernel⟩, bw 396 (by decide +kernel) rfl, bw 397 (by decide +kernel) rfl⟩
set_option maxRecDepth 20000 in
theorem m_X4_68 : mCs RX4 68 iX4_word 1 := ⟨⟨bw 312 (by decide +kernel) rfl, bw 78 (by decide +kernel) rfl, ⟨by decide +kernel, by decide +kernel⟩, by decide +kernel⟩, bw 310 (by decide +kernel) rfl, bw 311 (by decide +kernel) rfl⟩
set_option maxRecDepth 20000 in
theorem m_X4_72 : mCv RX4 72 iX4_sameLength 1 := ⟨⟨bw 333 (by decide +kernel) rfl, bw 78 (by decide +kernel) rfl, ⟨by decide +kernel, by decide +kernel⟩, by decide +kernel⟩, bw 330 (by decide +kernel) rfl, bw 332 (by decide +kernel) rfl, bw 1 (by decide +kernel) rfl⟩
set_option maxRecDepth 20000 in
theorem m_X4_76 : mCv RX4 76 iJ0_length_8abf5 0 := ⟨⟨bw 337 (by decide +kernel) rfl, bw 82 (by decide +kernel) rfl, ⟨by decide +kernel, by decide +kernel⟩, by decide +kernel⟩, bw 334 (by decide +kernel) rfl, bw 335 (by decide +kernel) rfl, bw 336 (by decide +kernel) rfl⟩
set_option maxRecDepth 20000 in
theorem m_X4_86 : mCv RX4 86 iJ0_charAt_5068e 1 := ⟨⟨bw 347 (by decide +kernel) rfl, bw 82 (by decide +kernel) rfl, ⟨by decide +kernel, by decide +kernel⟩, by decide +kernel⟩, bw 344 (by decide +kernel) rfl, bw 345 (by decide +kernel) rfl, bw 346 (by decide +kernel) rfl⟩
set_option maxRecDepth 20000 in
theorem m_X4_104 : mCs RX4 104 iX4_name 1 := ⟨⟨bw 322 (by decide +kernel) rfl, bw 78 (by decide +kernel) rfl, ⟨by decide +kernel, by decide +kernel⟩, by decide +kernel⟩, bw 320 (by decide +kernel) rfl, bw 321 (by decide +kernel) rfl⟩
set_option maxRecDepth 20000 in
theorem m_X4_119 : mCs RX4 119 iX5_unused 1 := ⟨⟨bw 512 (by decide +kernel) rfl, bw 91 (by decide +kernel) rfl, ⟨by decide +kernel, by decide +kernel⟩, by decide +kernel⟩, bw 510 (by decide +kernel) rfl, bw 511 (by decide +kernel) rfl⟩
set_option maxRecDepth 20000 in
theorem m_X4_130 : mCv RX4 130 iX2_appendToQuery 1 := ⟨⟨bw 581 (by decide +kernel) rfl, bw 73 (by decide +kernel) rfl, ⟨by decide +kernel, by decide +kernel⟩, by decide +kernel⟩, bw 578 (by decide +kernel) rfl, bw 579 (by decide +kernel) rfl, bw 580 (by decide +kernel) rfl⟩
set_option maxRecDepth 20000 in
theorem m_X5_22 : mCs RX5 22 iX5_initialsOf 1 := ⟨⟨bw 517 (by decide +kernel) rfl, bw 91 (by decide +kernel) rfl, ⟨by decide +kernel, by decide +kernel⟩, by decide +kernel⟩, bw 515 (by decide +kernel) rfl, bw 516 (by decide +kernel) rfl⟩
set_option maxRecDepth 20000 in
theorem m_X5_26 : mCi RX5 26 iX5_init 3 := ⟨⟨bw 523 (by decide +kernel) rfl, bw 91 (by decide +kernel) rfl, ⟨by decide +kernel, by decide +kernel⟩, by decide +kernel⟩, bw 521 (by decide +kernel) rfl, bw 522 (by decide +kernel) rfl, rfl, rfl⟩
set_option maxRecDepth 20000 in
theorem m_X5_29 : mCs RX5 29 iX5_wordCount 1 := ⟨⟨bw 520 (by decide +kernel) rfl, bw 91 (by decide +kernel) rfl, ⟨by decide +kernel, by decide +kernel⟩, by decide +kernel⟩, bw 518 (by decide +kernel) rfl, bw 519 (by decide +kernel) rfl⟩
set_option maxRecDepth 20000 in
theorem m_X5_33 : mCv RX5 33 iX5_run 1 := ⟨⟨bw 606 (by decide +kernel) rfl, bw 91 (by decide +kernel) rfl, ⟨by decide +kernel, by decide +kernel⟩, by decide +kernel⟩, bw 603 (by decide +kernel) rfl, bw 604 (by decide +kernel) rfl, bw 605 (by decide +kernel) rfl⟩
set_option maxRecDepth 20000 in
theorem m_X5_37 : mCv RX5 37 iX5_startsPiece 2 := ⟨⟨bw 610 (by decide +kernel) rfl, bw 91 (by decide +kernel) rfl, ⟨by decide +kernel, by decide +kernel⟩, by decide +kernel⟩, bw 607 (by decide +kernel) rfl, bw 608 (by decide +kernel) rfl, bw 609 (by decide +kernel) rfl⟩
set_option maxRecDepth 20000 in
theorem m_X5_41 : mCs RX5 41 iX5_sameLength 5 := ⟨⟨bw 554 (by decide +kernel) rfl, bw 91 (by decide +kernel) rfl, ⟨by decide +kernel, by decide +kernel⟩, by decide +kernel⟩, bw 552 (by decide +kernel) rfl, bw 553 (by decide +kernel) rfl⟩
set_option maxRecDepth 20000 in
theorem m_X6_9 : mCn RX6 9 iX2_init 0 := ⟨⟨bw 104 (by decide +kernel) rfl, bw 73 (by decide +kernel) rfl, ⟨by decide +kernel, by decide +kernel⟩, by decide +kernel⟩, ⟨"TitleFinder", by decide +kernel⟩, bw 103 (by decide +kernel) rfl, rfl, rfl⟩
set_option maxRecDepth 20000 in
theorem m_X6_21 : mCi RX6 21 iX0_init 0 := ⟨⟨bw 162 (by decide +kernel) rfl, bw 77 (by decide +kernel) rfl, ⟨by decide +kernel, by decide +kernel⟩, by decide +kernel⟩, bw 160 (by decide +kernel) rfl, bw 161 (by decide +kernel) rfl, rfl, rfl⟩
set_option maxRecDepth 20000 in
theorem m_X6_28 : mCn RX6 28 iX4_init 0 := ⟨⟨bw 182 (by decide +kernel) rfl, bw 78 (by decide +kernel) rfl, ⟨by decide +kernel, by decide +kernel⟩, by decide +kernel⟩, ⟨"TitleFinder", by decide +kernel⟩, bw 181 (by decide +kernel) rfl, rfl, rfl⟩
set_option maxRecDepth 20000 in
theorem m_X6_35 : mCn RX6 35 iX1_init 0 := ⟨⟨bw 213 (by decide +kernel) rfl, bw 79 (by decide +kernel) rfl, ⟨by decide +kernel, by decide +kernel⟩, by decide +kernel⟩, ⟨"TitleFinder", by decide +kernel⟩, bw 212 (by decide +kernel) rfl, rfl, rfl⟩
set_option maxRecDepth 20000 in
theorem m_X6_42 : mCn RX6 42 iX3_init 0 := ⟨⟨bw 231 (by decide +kernel) rfl, bw 80 (by decide +kernel) rfl, ⟨by decide +kernel, by decide +kernel⟩, by decide +kernel⟩, ⟨"TitleFinder", by decide +kernel⟩, bw 230 (by decide +kernel) rfl, rfl, rfl⟩
set_option maxRecDepth 20000 in
theorem m_X6_47 : mCv RX6 47 iX4_append 1 := ⟨⟨bw 281 (by decide +kernel) rfl, bw 78 (by decide +kernel) rfl, ⟨by decide +kernel, by decide +kernel⟩, by decide +kernel⟩, bw 278 (by decide +kernel) rfl, bw 279 (by decide +kernel) rfl, bw 280 (by decide +kernel) rfl⟩
set_option maxRecDepth 20000 in
theorem m_X6_55 : mCv RX6 55 iX4_makeEmpty 0 := ⟨⟨bw 289 (by decide +kernel) rfl, bw 78 (by decide +kernel) rfl, ⟨by decide +kernel, by decide +kernel⟩, by decide +kernel⟩, bw 286 (by decide +kernel) rfl, bw 287 (by decide +kernel) rfl, bw 288 (by decide +kernel) rfl⟩
set_option maxRecDepth 20000 in
theorem m_X6_58 : mCv RX6 58 iX4_findFault 0 := ⟨⟨bw 297 (by decide +kernel) rfl, bw 78 (by decide +kernel) rfl, ⟨by decide +kernel, by decide +kernel⟩, by decide +kernel⟩, bw 294 (by decide +kernel) rfl, bw 295 (by decide +kernel) rfl, bw 296 (by decide +kernel) rfl⟩
set_option maxRecDepth 20000 in
theorem m_X6_62 : mCv RX6 62 iX0_save 1 := ⟨⟨bw 419 (by decide +kernel) rfl, bw 77 (by decide +kernel) rfl, ⟨by decide +kernel, by decide +kernel⟩, by decide +kernel⟩, bw 416 (by decide +kernel) rfl, bw 417 (by decide +kernel) rfl, bw 418 (by decide +kernel) rfl⟩
set_option maxRecDepth 20000 in
theorem m_X6_66 : mCv RX6 66 iX4_rewind 0 := ⟨⟨bw 301 (by decide +kernel) rfl, bw 78 (by decide +kernel) rfl, ⟨by decide +kernel, by decide +kernel⟩, by decide +kernel⟩, bw 500 (by decide +kernel) rfl, bw 299 (by decide +kernel) rfl, bw 300 (by decide +kernel) rfl⟩
set_option maxRecDepth 20000 in
theorem m_X6_69 : mCv RX6 69 iX4_passCommand 0 := ⟨⟨bw 305 (by decide +kernel) rfl, bw 78 (by decide +kernel) rfl, ⟨by decide +kernel, by decide +kernel⟩, by decide +kernel⟩, bw 501 (by decide +kernel) rfl, bw 303 (by decide +kernel) rfl, bw 304 (by decide +kernel) rfl⟩
set_option maxRecDepth 20000 in
theorem m_X6_73 : mCv RX6 73 iX6_obeyed 0 := ⟨⟨bw 505 (by decide +kernel) rfl, bw 72 (by decide +kernel) rfl, ⟨by decide +kernel, by decide +kernel⟩, by decide +kernel⟩, bw 502 (by decide +kernel) rfl, bw 504 (by decide +kernel) rfl, bw 9 (by decide +kernel) rfl⟩
set_option maxRecDepth 20000 in
theorem m_X6_76 : mCv RX6 76 iX4_passSemicolon 0 := ⟨⟨bw 410 (by decide +kernel) rfl, bw 78 (by decide +kernel) rfl, ⟨by decide +kernel, by decide +kernel⟩, by decide +kernel⟩, bw 642 (by decide +kernel) rfl, bw 408 (by decide +kernel) rfl, bw 409 (by decide +kernel) rfl⟩
set_option maxRecDepth 20000 in
theorem m_X6_82 : mCv RX6 82 iX4_passedTitle 0 := ⟨⟨bw 509 (by decide +kernel) rfl, bw 78 (by decide +kernel) rfl, ⟨by decide +kernel, by decide +kernel⟩, by decide +kernel⟩, bw 506 (by decide +kernel) rfl, bw 507 (by decide +kernel) rfl, bw 508 (by decide +kernel) rfl⟩
set_option maxRecDepth 20000 in
theorem m_X6_86 : mCv RX6 86 iX6_addIfPossible 1 := ⟨⟨bw 543 (by decide +kernel) rfl, bw 72 (by decide +kernel) rfl, ⟨by decide +kernel, by decide +kernel⟩, by decide +kernel⟩, bw 540 (by decide +kernel) rfl, bw 542 (by decide +kernel) rfl, bw 10 (by decide +kernel) rfl⟩
set_option maxRecDepth 20000 in
theorem m_X6_93 : mCv RX6 93 iX6_dropIfThere 1 := ⟨⟨bw 560 (by decide +kernel) rfl, bw 72 (by decide +kernel) rfl, ⟨by decide +kernel, by decide +kernel⟩, by decide +kernel⟩, bw 557 (by decide +kernel) rfl, bw 559 (by decide +kernel) rfl, bw 11 (by decide +kernel) rfl⟩
set_option maxRecDepth 20000 in
theorem m_X6_103 : mCv RX6 103 iX4_copyPassed 1 := ⟨⟨bw 577 (by decide +kernel) rfl, bw 78 (by decide +kernel) rfl, ⟨by decide +kernel, by decide +kernel⟩, by decide +kernel⟩, bw 574 (by decide +kernel) rfl, bw 575 (by decide +kernel) rfl, bw 576 (by decide +kernel) rfl⟩
set_option maxRecDepth 20000 in
theorem m_X6_106 : mCv RX6 106 iX6_pickIfThere 1 := ⟨⟨bw 585 (by decide +kernel) rfl, bw 72 (by decide +kernel) rfl, ⟨by decide +kernel, by decide +kernel⟩, by decide +kernel⟩, bw 582 (by decide +kernel) rfl, bw 584 (by decide +kernel) rfl, bw 13 (by decide +kernel) rfl⟩
set_option maxRecDepth 20000 in
theorem m_X6_113 : mCv RX6 113 iX4_isTitle 0 := ⟨⟨bw 650 (by decide +kernel) rfl, bw 78 (by decide +kernel) rfl, ⟨by decide +kernel, by decide +kernel⟩, by decide +kernel⟩, bw 647 (by decide +kernel) rfl, bw 648 (by decide +kernel) rfl, bw 649 (by decide +kernel) rfl⟩
set_option maxRecDepth 20000 in
theorem m_X6_116 : mCv RX6 116 iX2_refusal 1 := ⟨⟨bw 547 (by decide +kernel) rfl, bw 73 (by decide +kernel) rfl, ⟨by decide +kernel, by decide +kernel⟩, by decide +kernel⟩, bw 544 (by decide +kernel) rfl, bw 545 (by decide +kernel) rfl, bw 546 (by decide +kernel) rfl⟩
set_option maxRecDepth 20000 in
theorem m_X6_123 : mCv RX6 123 iJx4a65c_add_9ea2d 1 := ⟨⟨bw 448 (by decide +kernel) rfl, bw 76 (by decide +kernel) rfl, ⟨by decide +kernel, by decide +kernel⟩, by decide +kernel⟩, bw 555 (by decide +kernel) rfl, bw 446 (by decide +kernel) rfl, bw 447 (by decide +kernel) rfl⟩
set_option maxRecDepth 20000 in
theorem m_X6_129 : mCv RX6 129 iJx4a65c_size_8abf5 0 := ⟨⟨bw 431 (by decide +kernel) rfl, bw 76 (by decide +kernel) rfl, ⟨by decide +kernel, by decide +kernel⟩, by decide +kernel⟩, bw 556 (by decide +kernel) rfl, bw 429 (by decide +kernel) rfl, bw 430 (by decide +kernel) rfl⟩
set_option maxRecDepth 20000 in
theorem m_X6_132 : mCv RX6 132 iX2_has 1 := ⟨⟨bw 564 (by decide +kernel) rfl, bw 73 (by decide +kernel) rfl, ⟨by decide +kernel, by decide +kernel⟩, by decide +kernel⟩, bw 561 (by decide +kernel) rfl, bw 562 (by decide +kernel) rfl, bw 563 (by decide +kernel) rfl⟩
set_option maxRecDepth 20000 in
theorem m_X6_135 : mCv RX6 135 iJx4a65c_remove_915e3 1 := ⟨⟨bw 568 (by decide +kernel) rfl, bw 76 (by decide +kernel) rfl, ⟨by decide +kernel, by decide +kernel⟩, by decide +kernel⟩, bw 565 (by decide +kernel) rfl, bw 566 (by decide +kernel) rfl, bw 567 (by decide +kernel) rfl⟩
set_option maxRecDepth 20000 in
theorem m_X6_139 : mCv RX6 139 iJx4a65c_get_915e3 1 := ⟨⟨bw 435 (by decide +kernel) rfl, bw 76 (by decide +kernel) rfl, ⟨by decide +kernel, by decide +kernel⟩, by decide +kernel⟩, bw 632 (by decide +kernel) rfl, bw 433 (by decide +kernel) rfl, bw 434 (by decide +kernel) rfl⟩
set_option maxRecDepth 20000 in
theorem m_X6_148 : mCv RX6 148 iX3_look 2 := ⟨⟨bw 670 (by decide +kernel) rfl, bw 80 (by decide +kernel) rfl, ⟨by decide +kernel, by decide +kernel⟩, by decide +kernel⟩, bw 667 (by decide +kernel) rfl, bw 668 (by decide +kernel) rfl, bw 669 (by decide +kernel) rfl⟩
set_option maxRecDepth 20000 in
theorem m_X6_152 : mCv RX6 152 iX6_studiedNumber 2 := ⟨⟨bw 715 (by decide +kernel) rfl, bw 72 (by decide +kernel) rfl, ⟨by decide +kernel, by decide +kernel⟩, by decide +kernel⟩, bw 712 (by decide +kernel) rfl, bw 714 (by decide +kernel) rfl, bw 20 (by decide +kernel) rfl⟩
set_option maxRecDepth 20000 in
theorem m_X6_162 : mCv RX6 162 iX3_hasKey 0 := ⟨⟨bw 687 (by decide +kernel) rfl, bw 80 (by decide +kernel) rfl, ⟨by decide +kernel, by decide +kernel⟩, by decide +kernel⟩, bw 716 (by decide +kernel) rfl, bw 685 (by decide +kernel) rfl, bw 686 (by decide +kernel) rfl⟩
set_option maxRecDepth 20000 in
theorem m_X6_171 : mCv RX6 171 iX3_hasShortcut 0 := ⟨⟨bw 691 (by decide +kernel) rfl, bw 80 (by decide +kernel) rfl, ⟨by decide +kernel, by decide +kernel⟩, by decide +kernel⟩, bw 717 (by decide +kernel) rfl, bw 689 (by decide +kernel) rfl, bw 690 (by decide +kernel) rfl⟩
set_option maxRecDepth 20000 in
theorem m_X6_180 : mCv RX6 180 iX5_commonRun 1 := ⟨⟨bw 725 (by decide +kernel) rfl, bw 91 (by decide +kernel) rfl, ⟨by decide +kernel, by decide +kernel⟩, by decide +kernel⟩, bw 722 (by decide +kernel) rfl, bw 723 (by decide +kernel) rfl, bw 724 (by decide +kernel) rfl⟩
set_option maxRecDepth 20000 in
theorem m_X6_183 : mCv RX6 183 iX2_copyFrom 1 := ⟨⟨bw 423 (by decide +kernel) rfl, bw 73 (by decide +kernel) rfl, ⟨by decide +kernel, by decide +kernel⟩, by decide +kernel⟩, bw 743 (by decide +kernel) rfl, bw 421 (by decide +kernel) rfl, bw 422 (by decide +kernel) rfl⟩
set_option maxRecDepth 20000 in
theorem m_X6_186 : mCv RX6 186 iX6_keyWouldChange 1 := ⟨⟨bw 747 (by decide +kernel) rfl, bw 72 (by decide +kernel) rfl, ⟨by decide +kernel, by decide +kernel⟩, by decide +kernel⟩, bw 744 (by decide +kernel) rfl, bw 746 (by decide +kernel) rfl, bw 21 (by decide +kernel) rfl⟩
set_option maxRecDepth 20000 in
theorem m_X6_189 : mCs RX6 189 iX4_isLetter 1 := ⟨⟨bw 395 (by decide +kernel) rfl, bw 78 (by decide +kernel) rfl, ⟨by decide +kernel, by decide +kernel⟩, by decide +kernel⟩, bw 768 (by decide +kernel) rfl, bw 394 (by decide +kernel) rfl⟩
set_option maxRecDepth 20000 in
theorem m_X6_192 : mCv RX6 192 iX2_queryEndsWithLetter 0 := ⟨⟨bw 598 (by decide +kernel) rfl, bw 73 (by decide +kernel) rfl, ⟨by decide +kernel, by decide +kernel⟩, by decide +kernel⟩, bw 769 (by decide +kernel) rfl, bw 596 (by decide +kernel) rfl, bw 597 (by decide +kernel) rfl⟩
set_option maxRecDepth 20000 in
theorem m_X6_195 : mCv RX6 195 iX2_appendToQuery 1 := ⟨⟨bw 581 (by decide +kernel) rfl, bw 73 (by decide +kernel) rfl, ⟨by decide +kernel, by decide +kernel⟩, by decide +kernel⟩, bw 770 (by decide +kernel) rfl, bw 579 (by decide +kernel) rfl, bw 580 (by decide +kernel) rfl⟩
set_option maxRecDepth 20000 in
theorem m_X6_199 : mCv RX6 199 iX6_results 0 := ⟨⟨bw 774 (by decide +kernel) rfl, bw 72 (by decide +kernel) rfl, ⟨by decide +kernel, by decide +kernel⟩, by decide +kernel⟩, bw 771 (by decide +kernel) rfl, bw 772 (by decide +kernel) rfl, bw 773 (by decide +kernel) rfl⟩
set_option maxRecDepth 20000 in
theorem m_X6_205 : mCv RX6 205 iX1_rank 1 := ⟨⟨bw 589 (by decide +kernel) rfl, bw 79 (by decide +kernel) rfl, ⟨by decide +kernel, by decide +kernel⟩, by decide +kernel⟩, bw 586 (by decide +kernel) rfl, bw 587 (by decide +kernel) rfl, bw 588 (by decide +kernel) rfl⟩
set_option maxRecDepth 20000 in
theorem m_X6_211 : mCv RX6 211 iX1_has 1 := ⟨⟨bw 626 (by decide +kernel) rfl, bw 79 (by decide +kernel) rfl, ⟨by decide +kernel, by decide +kernel⟩, by decide +kernel⟩, bw 623 (by decide +kernel) rfl, bw 624 (by decide +kernel) rfl, bw 625 (by decide +kernel) rfl⟩
set_option maxRecDepth 20000 in
theorem m_X6_212 : mCv RX6 212 iX1_titleAt 1 := ⟨⟨bw 630 (by decide +kernel) rfl, bw 79 (by decide +kernel) rfl, ⟨by decide +kernel, by decide +kernel⟩, by decide +kernel⟩, bw 627 (by decide +kernel) rfl, bw 628 (by decide +kernel) rfl, bw 629 (by decide +kernel) rfl⟩
set_option maxRecDepth 20000 in
theorem m_X6_215 : mCv RX6 215 iX1_placeAt 1 := ⟨⟨bw 799 (by decide +kernel) rfl, bw 79 (by decide +kernel) rfl, ⟨by decide +kernel, by decide +kernel⟩, by decide +kernel⟩, bw 796 (by decide +kernel) rfl, bw 797 (by decide +kernel) rfl, bw 798 (by decide +kernel) rfl⟩
set_option maxRecDepth 20000 in
theorem m_X6_218 : mCv RX6 218 iX5_usedOnceMore 0 := ⟨⟨bw 637 (by decide +kernel) rfl, bw 91 (by decide +kernel) rfl, ⟨by decide +kernel, by decide +kernel⟩, by decide +kernel⟩, bw 634 (by decide +kernel) rfl, bw 635 (by decide +kernel) rfl, bw 636 (by decide +kernel) rfl⟩
set_option maxRecDepth 20000 in
theorem m_X6_221 : mCv RX6 221 iJx4a65c_set_bcc79 2 := ⟨⟨bw 641 (by decide +kernel) rfl, bw 76 (by decide +kernel) rfl, ⟨by decide +kernel, by decide +kernel⟩, by decide +kernel⟩, bw 638 (by decide +kernel) rfl, bw 639 (by decide +kernel) rfl, bw 640 (by decide +kernel) rfl⟩
set_option maxRecDepth 20000 in
theorem m_X6_226 : mCv RX6 226 iX0_restore 1 := ⟨⟨bw 811 (by decide +kernel) rfl, bw 77 (by decide +kernel) rfl, ⟨by decide +kernel, by decide +kernel⟩, by decide +kernel⟩, bw 808 (by decide +kernel) rfl, bw 809 (by decide +kernel) rfl, bw 810 (by decide +kernel) rfl⟩
set_option maxRecDepth 20000 in
theorem m_X6_231 : mCv RX6 231 iX6_titles 0 := ⟨⟨bw 658 (by decide +kernel) rfl, bw 72 (by decide +kernel) rfl, ⟨by decide +kernel, by decide +kernel⟩, by decide +kernel⟩, bw 817 (by decide +kernel) rfl, bw 656 (by decide +kernel) rfl, bw 657 (by decide +kernel) rfl⟩
set_option maxRecDepth 20000 in
theorem m_X6_233 : mCs RX6 233 iX6_hashWith 2 := ⟨⟨bw 820 (by decide +kernel) rfl, bw 72 (by decide +kernel) rfl, ⟨by decide +kernel, by decide +kernel⟩, by decide +kernel⟩, bw 818 (by decide +kernel) rfl, bw 819 (by decide +kernel) rfl⟩
set_option maxRecDepth 20000 in
theorem m_X6_237 : mCv RX6 237 iX6_hashWithTitle 3 := ⟨⟨bw 825 (by decide +kernel) rfl, bw 72 (by decide +kernel) rfl, ⟨by decide +kernel, by decide +kernel⟩, by decide +kernel⟩, bw 822 (by decide +kernel) rfl, bw 824 (by decide +kernel) rfl, bw 22 (by decide +kernel) rfl⟩
set_option maxRecDepth 20000 in
theorem m_X6_241 : mCv RX6 241 iX6_unknown 0 := ⟨⟨bw 734 (by decide +kernel) rfl, bw 72 (by decide +kernel) rfl, ⟨by decide +kernel, by decide +kernel⟩, by decide +kernel⟩, bw 826 (by decide +kernel) rfl, bw 732 (by decide +kernel) rfl, bw 733 (by decide +kernel) rfl⟩
set_option maxRecDepth 20000 in
theorem m_X6_244 : mCv RX6 244 iX6_hardest 0 := ⟨⟨bw 738 (by decide +kernel) rfl, bw 72 (by decide +kernel) rfl, ⟨by decide +kernel, by decide +kernel⟩, by decide +kernel⟩, bw 827 (by decide +kernel) rfl, bw 736 (by decide +kernel) rfl, bw 737 (by decide +kernel) rfl⟩
set_option maxRecDepth 20000 in
theorem m_X6_247 : mCv RX6 247 iX6_mode 0 := ⟨⟨bw 759 (by decide +kernel) rfl, bw 72 (by decide +kernel) rfl, ⟨by decide +kernel, by decide +kernel⟩, by decide +kernel⟩, bw 828 (by decide +kernel) rfl, bw 757 (by decide +kernel) rfl, bw 758 (by decide +kernel) rfl⟩
set_option maxRecDepth 20000 in
theorem m_X6_249 : mCv RX6 249 iX6_order 0 := ⟨⟨bw 763 (by decide +kernel) rfl, bw 72 (by decide +kernel) rfl, ⟨by decide +kernel, by decide +kernel⟩, by decide +kernel⟩, bw 829 (by decide +kernel) rfl, bw 761 (by decide +kernel) rfl, bw 762 (by decide +kernel) rfl⟩
set_option maxRecDepth 20000 in
theorem m_X6_251 : mCv RX6 251 iX6_queryLength 0 := ⟨⟨bw 782 (by decide +kernel) rfl, bw 72 (by decide +kernel) rfl, ⟨by decide +kernel, by decide +kernel⟩, by decide +kernel⟩, bw 830 (by decide +kernel) rfl, bw 780 (by decide +kernel) rfl, bw 781 (by decide +kernel) rfl⟩
set_option maxRecDepth 20000 in
theorem m_X6_253 : mCv RX6 253 iX6_queryCharacter 1 := ⟨⟨bw 786 (by decide +kernel) rfl, bw 72 (by decide +kernel) rfl, ⟨by decide +kernel, by decide +kernel⟩, by decide +kernel⟩, bw 831 (by decide +kernel) rfl, bw 784 (by decide +kernel) rfl, bw 785 (by decide +kernel) rfl⟩
set_option maxRecDepth 20000 in
theorem m_X6_256 : mCv RX6 256 iX6_hashWithResults 1 := ⟨⟨bw 835 (by decide +kernel) rfl, bw 72 (by decide +kernel) rfl, ⟨by decide +kernel, by decide +kernel⟩, by decide +kernel⟩, bw 832 (by decide +kernel) rfl, bw 834 (by decide +kernel) rfl, bw 23 (by decide +kernel) rfl⟩
set_option maxRecDepth 20000 in
theorem m_X7_47 : mCs RX7 47 iX7_within 3 := ⟨⟨bw 915 (by decide +kernel) rfl, bw 81 (by decide +kernel) rfl, ⟨by decide +kernel, by decide +kernel⟩, by decide +kernel⟩, bw 913 (by decide +kernel) rfl, bw 914 (by decide +kernel) rfl⟩
set_option maxRecDepth 20000 in
theorem m_X7_51 : mCv RX7 51 iX7_part 2 := ⟨⟨bw 1009 (by decide +kernel) rfl, bw 81 (by decide +kernel) rfl, ⟨by decide +kernel, by decide +kernel⟩, by decide +kernel⟩, bw 1006 (by decide +kernel) rfl, bw 1008 (by decide +kernel) rfl, bw 39 (by decide +kernel) rfl⟩
set_option maxRecDepth 20000 in
theorem m_X7_55 : mCv RX7 55 iX7_characterOf 2 := ⟨⟨bw 1013 (by decide +kernel) rfl, bw 81 (by decide +kernel) rfl, ⟨by decide +kernel, by decide +kernel⟩, by decide +kernel⟩, bw 1010 (by decide +kernel) rfl, bw 1012 (by decide +kernel) rfl, bw 40 (by decide +kernel) rfl⟩
set_option maxRecDepth 20000 in
theorem m_X7_58 : mCv RX7 58 iX7_lengthOf 1 := ⟨⟨bw 1005 (by decide +kernel) rfl, bw 81 (by decide +kernel) rfl, ⟨by decide +kernel, by decide +kernel⟩, by decide +kernel⟩, bw 1002 (by decide +kernel) rfl, bw 1004 (by decide +kernel) rfl, bw 38 (by decide +kernel) rfl⟩
set_option maxRecDepth 20000 in
theorem m_X7_62 : mCv RX7 62 iX7_beginsWord 2 := ⟨⟨bw 1033 (by decide +kernel) rfl, bw 81 (by decide +kernel) rfl, ⟨by decide +kernel, by decide +kernel⟩, by decide +kernel⟩, bw 1030 (by decide +kernel) rfl, bw 1032 (by decide +kernel) rfl, bw 45 (by decide +kernel) rfl⟩
set_option maxRecDepth 20000 in
theorem m_X7_66 : mCv RX7 66 iX7_sourceAt 2 := ⟨⟨bw 1053 (by decide +kernel) rfl, bw 81 (by decide +kernel) rfl, ⟨by decide +kernel, by decide +kernel⟩, by decide +kernel⟩, bw 1050 (by decide +kernel) rfl, bw 1052 (by decide +kernel) rfl, bw 50 (by decide +kernel) rfl⟩
set_option maxRecDepth 20000 in
theorem m_X7_69 : mCv RX7 69 iX7_canStart 2 := ⟨⟨bw 1049 (by decide +kernel) rfl, bw 81 (by decide +kernel) rfl, ⟨by decide +kernel, by decide +kernel⟩, by decide +kernel⟩, bw 1046 (by decide +kernel) rfl, bw 1048 (by decide +kernel) rfl, bw 49 (by decide +kernel) rfl⟩
set_option maxRecDepth 20000 in
theorem m_X7_75 : mCv RX7 75 iX7_isPiece 3 := ⟨⟨bw 1045 (by decide +kernel) rfl, bw 81 (by decide +kernel) rfl, ⟨by decide +kernel, by decide +kernel⟩, by decide +kernel⟩, bw 1042 (by decide +kernel) rfl, bw 1044 (by decide +kernel) rfl, bw 48 (by decide +kernel) rfl⟩
set_option maxRecDepth 20000 in
theorem m_X7_78 : mCv RX7 78 iX7_isAheadByName 2 := ⟨⟨bw 1061 (by decide +kernel) rfl, bw 81 (by decide +kernel) rfl, ⟨by decide +kernel, by decide +kernel⟩, by decide +kernel⟩, bw 1058 (by decide +kernel) rfl, bw 1060 (by decide +kernel) rfl, bw 52 (by decide +kernel) rfl⟩
set_option maxRecDepth 20000 in
theorem m_X7_81 : mCv RX7 81 iX7_isAheadByPlace 2 := ⟨⟨bw 1065 (by decide +kernel) rfl, bw 81 (by decide +kernel) rfl, ⟨by decide +kernel, by decide +kernel⟩, by decide +kernel⟩, bw 1062 (by decide +kernel) rfl, bw 1064 (by decide +kernel) rfl, bw 53 (by decide +kernel) rfl⟩
set_option maxRecDepth 20000 in
theorem m_X7_84 : mCv RX7 84 iX7_placeIn 1 := ⟨⟨bw 1041 (by decide +kernel) rfl, bw 81 (by decide +kernel) rfl, ⟨by decide +kernel, by decide +kernel⟩, by decide +kernel⟩, bw 1038 (by decide +kernel) rfl, bw 1040 (by decide +kernel) rfl, bw 47 (by decide +kernel) rfl⟩
set_option maxRecDepth 20000 in
theorem m_X7_87 : mCv RX7 87 iX7_findSources 0 := ⟨⟨bw 1029 (by decide +kernel) rfl, bw 81 (by decide +kernel) rfl, ⟨by decide +kernel, by decide +kernel⟩, by decide +kernel⟩, bw 1026 (by decide +kernel) rfl, bw 1028 (by decide +kernel) rfl, bw 44 (by decide +kernel) rfl⟩
set_option maxRecDepth 20000 in
theorem m_X7_90 : mCv RX7 90 iX7_findPlaces 0 := ⟨⟨bw 1037 (by decide +kernel) rfl, bw 81 (by decide +kernel) rfl, ⟨by decide +kernel, by decide +kernel⟩, by decide +kernel⟩, bw 1034 (by decide +kernel) rfl, bw 1036 (by decide +kernel) rfl, bw 46 (by decide +kernel) rfl⟩
set_option maxRecDepth 20000 in
theorem m_X7_96 : mCv RX7 96 iX7_isAhead 2 := ⟨⟨bw 1057 (by decide +kernel) rfl, bw 81 (by decide +kernel) rfl, ⟨by decide +kernel, by decide +kernel⟩, by decide +kernel⟩, bw 1054 (by decide +kernel) rfl, bw 1056 (by decide +kernel) rfl, bw 51 (by decide +kernel) rfl⟩
set_option maxRecDepth 20000 in
theorem m_X7_99 : mCv RX7 99 iX7_asks 3 := ⟨⟨bw 1125 (by decide +kernel) rfl, bw 81 (by decide +kernel) rfl, ⟨by decide +kernel, by decide +kernel⟩, by decide +kernel⟩, bw 1122 (by decide +kernel) rfl, bw 1124 (by decide +kernel) rfl, bw 63 (by decide +kernel) rfl⟩
set_option maxRecDepth 20000 in
theorem m_X7_103 : mCv RX7 103 iX7_isAlone 1 := ⟨⟨bw 1129 (by decide +kernel) rfl, bw 81 (by decide +kernel) rfl, ⟨by decide +kernel, by decide +kernel⟩, by decide +kernel⟩, bw 1126 (by decide +kernel) rfl, bw 1128 (by decide +kernel) rfl, bw 64 (by decide +kernel) rfl⟩
set_option maxRecDepth 20000 in
theorem m_X7_107 : mCv RX7 107 iX7_isFirst 1 := ⟨⟨bw 1133 (by decide +kernel) rfl, bw 81 (by decide +kernel) rfl, ⟨by decide +kernel, by decide +kernel⟩, by decide +kernel⟩, bw 1130 (by decide +kernel) rfl, bw 1132 (by decide +kernel) rfl, bw 65 (by decide +kernel) rfl⟩
set_option maxRecDepth 20000 in
theorem m_X7_116 : mCv RX7 116 iX7_findPiece 2 := ⟨⟨bw 1121 (by decide +kernel) rfl, bw 81 (by decide +kernel) rfl, ⟨by decide +kernel, by decide +kernel⟩, by decide +kernel⟩, bw 1118 (by decide +kernel) rfl, bw 1120 (by decide +kernel) rfl, bw 62 (by decide +kernel) rfl⟩
set_option maxRecDepth 20000 in
theorem m_X7_126 : mCv RX7 126 iX7_typedAt 1 := ⟨⟨bw 935 (by decide +kernel) rfl, bw 81 (by decide +kernel) rfl, ⟨by decide +kernel, by decide +kernel⟩, by decide +kernel⟩, bw 932 (by decide +kernel) rfl, bw 934 (by decide +kernel) rfl, bw 26 (by decide +kernel) rfl⟩
set_option maxRecDepth 20000 in
theorem m_X7_131 : mCv RX7 131 iX7_isNext 1 := ⟨⟨bw 950 (by decide +kernel) rfl, bw 81 (by decide +kernel) rfl, ⟨by decide +kernel, by decide +kernel⟩, by decide +kernel⟩, bw 947 (by decide +kernel) rfl, bw 949 (by decide +kernel) rfl, bw 29 (by decide +kernel) rfl⟩
set_option maxRecDepth 20000 in
theorem m_X7_137 : mCs RX7 137 iX7_isLetter 1 := ⟨⟨bw 957 (by decide +kernel) rfl, bw 81 (by decide +kernel) rfl, ⟨by decide +kernel, by decide +kernel⟩, by decide +kernel⟩, bw 955 (by decide +kernel) rfl, bw 956 (by decide +kernel) rfl⟩
set_option maxRecDepth 20000 in
theorem m_X7_154 : mCv RX7 154 iX7_readsWord 1 := ⟨⟨bw 945 (by decide +kernel) rfl, bw 81 (by decide +kernel) rfl, ⟨by decide +kernel, by decide +kernel⟩, by decide +kernel⟩, bw 942 (by decide +kernel) rfl, bw 944 (by decide +kernel) rfl, bw 28 (by decide +kernel) rfl⟩
set_option maxRecDepth 20000 in
theorem m_X7_171 : mCv RX7 171 iX7_readsTitle 0 := ⟨⟨bw 954 (by decide +kernel) rfl, bw 81 (by decide +kernel) rfl, ⟨by decide +kernel, by decide +kernel⟩, by decide +kernel⟩, bw 951 (by decide +kernel) rfl, bw 953 (by decide +kernel) rfl, bw 30 (by decide +kernel) rfl⟩
set_option maxRecDepth 20000 in
theorem m_X7_175 : mCv RX7 175 iX7_readsAddOrAsk 0 := ⟨⟨bw 939 (by decide +kernel) rfl, bw 81 (by decide +kernel) rfl, ⟨by decide +kernel, by decide +kernel⟩, by decide +kernel⟩, bw 936 (by decide +kernel) rfl, bw 938 (by decide +kernel) rfl, bw 27 (by decide +kernel) rfl⟩
set_option maxRecDepth 20000 in
theorem m_X7_180 : mCv RX7 180 iX7_readsNumber 0 := ⟨⟨bw 962 (by decide +kernel) rfl, bw 81 (by decide +kernel) rfl, ⟨by decide +kernel, by decide +kernel⟩, by decide +kernel⟩, bw 959 (by decide +kernel) rfl, bw 961 (by decide +kernel) rfl, bw 31 (by decide +kernel) rfl⟩
set_option maxRecDepth 20000 in
theorem m_X7_185 : mCv RX7 185 iX7_readsMode 0 := ⟨⟨bw 967 (by decide +kernel) rfl, bw 81 (by decide +kernel) rfl, ⟨by decide +kernel, by decide +kernel⟩, by decide +kernel⟩, bw 964 (by decide +kernel) rfl, bw 966 (by decide +kernel) rfl, bw 32 (by decide +kernel) rfl⟩
set_option maxRecDepth 20000 in
theorem m_X7_190 : mCv RX7 190 iX7_readsOrder 0 := ⟨⟨bw 976 (by decide +kernel) rfl, bw 81 (by decide +kernel) rfl, ⟨by decide +kernel, by decide +kernel⟩, by decide +kernel⟩, bw 973 (by decide +kernel) rfl, bw 975 (by decide +kernel) rfl, bw 33 (by decide +kernel) rfl⟩
set_option maxRecDepth 20000 in
theorem m_X7_197 : mCv RX7 197 iX7_readsCommand 0 := ⟨⟨bw 931 (by decide +kernel) rfl, bw 81 (by decide +kernel) rfl, ⟨by decide +kernel, by decide +kernel⟩, by decide +kernel⟩, bw 928 (by decide +kernel) rfl, bw 930 (by decide +kernel) rfl, bw 25 (by decide +kernel) rfl⟩
set_option maxRecDepth 20000 in
theorem m_X7_200 : mCv RX7 200 iX7_findError 0 := ⟨⟨bw 927 (by decide +kernel) rfl, bw 81 (by decide +kernel) rfl, ⟨by decide +kernel, by decide +kernel⟩, by decide +kernel⟩, bw 924 (by decide +kernel) rfl, bw 926 (by decide +kernel) rfl, bw 24 (by decide +kernel) rfl⟩
set_option maxRecDepth 20000 in
theorem m_X7_204 : mCv RX7 204 iX7_isThere 2 := ⟨⟨bw 1001 (by decide +kernel) rfl, bw 81 (by decide +kernel) rfl, ⟨by decide +kernel, by decide +kernel⟩, by decide +kernel⟩, bw 998 (by decide +kernel) rfl, bw 1000 (by decide +kernel) rfl, bw 37 (by decide +kernel) rfl⟩
set_option maxRecDepth 20000 in
theorem m_X7_207 : mCv RX7 207 iX7_clearsQuery 0 := ⟨⟨bw 1085 (by decide +kernel) rfl, bw 81 (by decide +kernel) rfl, ⟨by decide +kernel, by decide +kernel⟩, by decide +kernel⟩, bw 1082 (by decide +kernel) rfl, bw 1084 (by decide +kernel) rfl, bw 58 (by decide +kernel) rfl⟩
set_option maxRecDepth 20000 in
theorem m_X7_210 : mCv RX7 210 iX7_findResults 0 := ⟨⟨bw 1025 (by decide +kernel) rfl, bw 81 (by decide +kernel) rfl, ⟨by decide +kernel, by decide +kernel⟩, by decide +kernel⟩, bw 1022 (by decide +kernel) rfl, bw 1024 (by decide +kernel) rfl, bw 43 (by decide +kernel) rfl⟩
set_option maxRecDepth 20000 in
theorem m_X7_213 : mCv RX7 213 iX7_whyNotAdded 2 := ⟨⟨bw 997 (by decide +kernel) rfl, bw 81 (by decide +kernel) rfl, ⟨by decide +kernel, by decide +kernel⟩, by decide +kernel⟩, bw 994 (by decide +kernel) rfl, bw 996 (by decide +kernel) rfl, bw 36 (by decide +kernel) rfl⟩
set_option maxRecDepth 20000 in
theorem m_X7_216 : mCv RX7 216 iX7_isTitle 1 := ⟨⟨bw 1017 (by decide +kernel) rfl, bw 81 (by decide +kernel) rfl, ⟨by decide +kernel, by decide +kernel⟩, by decide +kernel⟩, bw 1014 (by decide +kernel) rfl, bw 1016 (by decide +kernel) rfl, bw 41 (by decide +kernel) rfl⟩
set_option maxRecDepth 20000 in
theorem m_X7_219 : mCv RX7 219 iX7_isRank 1 := ⟨⟨bw 1021 (by decide +kernel) rfl, bw 81 (by decide +kernel) rfl, ⟨by decide +kernel, by decide +kernel⟩, by decide +kernel⟩, bw 1018 (by decide +kernel) rfl, bw 1020 (by decide +kernel) rfl, bw 42 (by decide +kernel) rfl⟩
set_option maxRecDepth 20000 in
theorem m_X7_222 : mCv RX7 222 iX7_adds 2 := ⟨⟨bw 1073 (by decide +kernel) rfl, bw 81 (by decide +kernel) rfl, ⟨by decide +kernel, by decide +kernel⟩, by decide +kernel⟩, bw 1070 (by decide +kernel) rfl, bw 1072 (by decide +kernel) rfl, bw 55 (by decide +kernel) rfl⟩
set_option maxRecDepth 20000 in
theorem m_X7_225 : mCv RX7 225 iX7_drops 1 := ⟨⟨bw 1077 (by decide +kernel) rfl, bw 81 (by decide +kernel) rfl, ⟨by decide +kernel, by decide +kernel⟩, by decide +kernel⟩, bw 1074 (by decide +kernel) rfl, bw 1076 (by decide +kernel) rfl, bw 56 (by decide +kernel) rfl⟩
set_option maxRecDepth 20000 in
theorem m_X7_228 : mCv RX7 228 iX7_picks 1 := ⟨⟨bw 1081 (by decide +kernel) rfl, bw 81 (by decide +kernel) rfl, ⟨by decide +kernel, by decide +kernel⟩, by decide +kernel⟩, bw 1078 (by decide +kernel) rfl, bw 1080 (by decide +kernel) rfl, bw 57 (by decide +kernel) rfl⟩
set_option maxRecDepth 20000 in
theorem m_X7_231 : mCv RX7 231 iX7_record 0 := ⟨⟨bw 989 (by decide +kernel) rfl, bw 81 (by decide +kernel) rfl, ⟨by decide +kernel, by decide +kernel⟩, by decide +kernel⟩, bw 986 (by decide +kernel) rfl, bw 988 (by decide +kernel) rfl, bw 34 (by decide +kernel) rfl⟩
set_option maxRecDepth 20000 in
theorem m_X7_234 : mCv RX7 234 iX7_mayDo 0 := ⟨⟨bw 993 (by decide +kernel) rfl, bw 81 (by decide +kernel) rfl, ⟨by decide +kernel, by decide +kernel⟩, by decide +kernel⟩, bw 990 (by decide +kernel) rfl, bw 992 (by decide +kernel) rfl, bw 35 (by decide +kernel) rfl⟩
set_option maxRecDepth 20000 in
theorem m_X7_237 : mCv RX7 237 iX7_does 0 := ⟨⟨bw 1069 (by decide +kernel) rfl, bw 81 (by decide +kernel) rfl, ⟨by decide +kernel, by decide +kernel⟩, by decide +kernel⟩, bw 1066 (by decide +kernel) rfl, bw 1068 (by decide +kernel) rfl, bw 54 (by decide +kernel) rfl⟩
set_option maxRecDepth 20000 in
theorem m_X7_240 : mCv RX7 240 iX7_whyNotTyped 0 := ⟨⟨bw 1093 (by decide +kernel) rfl, bw 81 (by decide +kernel) rfl, ⟨by decide +kernel, by decide +kernel⟩, by decide +kernel⟩, bw 1090 (by decide +kernel) rfl, bw 1092 (by decide +kernel) rfl, bw 59 (by decide +kernel) rfl⟩
set_option maxRecDepth 20000 in
theorem m_X7_243 : mCv RX7 243 iX7_words 1 := ⟨⟨bw 1117 (by decide +kernel) rfl, bw 81 (by decide +kernel) rfl, ⟨by decide +kernel, by decide +kernel⟩, by decide +kernel⟩, bw 1114 (by decide +kernel) rfl, bw 1116 (by decide +kernel) rfl, bw 61 (by decide +kernel) rfl⟩
set_option maxRecDepth 20000 in
theorem m_X7_246 : mCv RX7 246 iX7_ofTitle 2 := ⟨⟨bw 1113 (by decide +kernel) rfl, bw 81 (by decide +kernel) rfl, ⟨by decide +kernel, by decide +kernel⟩, by decide +kernel⟩, bw 1110 (by decide +kernel) rfl, bw 1112 (by decide +kernel) rfl, bw 60 (by decide +kernel) rfl⟩
set_option maxRecDepth 20000 in
theorem m_X7_249 : mCv RX7 249 iX7_longestRun 2 := ⟨⟨bw 1141 (by decide +kernel) rfl, bw 81 (by decide +kernel) rfl, ⟨by decide +kernel, by decide +kernel⟩, by decide +kernel⟩, bw 1138 (by decide +kernel) rfl, bw 1140 (by decide +kernel) rfl, bw 66 (by decide +kernel) rfl⟩
set_option maxRecDepth 20000 in
theorem m_X7_252 : mCv RX7 252 iX7_findKeys 0 := ⟨⟨bw 1153 (by decide +kernel) rfl, bw 81 (by decide +kernel) rfl, ⟨by decide +kernel, by decide +kernel⟩, by decide +kernel⟩, bw 1150 (by decide +kernel) rfl, bw 1152 (by decide +kernel) rfl, bw 67 (by decide +kernel) rfl⟩
set_option maxRecDepth 20000 in
theorem m_X7_255 : mCv RX7 255 iX7_unknownNow 0 := ⟨⟨bw 1157 (by decide +kernel) rfl, bw 81 (by decide +kernel) rfl, ⟨by decide +kernel, by decide +kernel⟩, by decide +kernel⟩, bw 1154 (by decide +kernel) rfl, bw 1156 (by decide +kernel) rfl, bw 68 (by decide +kernel) rfl⟩
set_option maxRecDepth 20000 in
theorem m_X7_258 : mCv RX7 258 iX7_hardestNow 0 := ⟨⟨bw 1165 (by decide +kernel) rfl, bw 81 (by decide +kernel) rfl, ⟨by decide +kernel, by decide +kernel⟩, by decide +kernel⟩, bw 1162 (by decide +kernel) rfl, bw 1164 (by decide +kernel) rfl, bw 69 (by decide +kernel) rfl⟩
set_option maxRecDepth 20000 in
theorem m_X7_261 : mCv RX7 261 iX7_resultsMany 0 := ⟨⟨bw 1193 (by decide +kernel) rfl, bw 81 (by decide +kernel) rfl, ⟨by decide +kernel, by decide +kernel⟩, by decide +kernel⟩, bw 1190 (by decide +kernel) rfl, bw 1192 (by decide +kernel) rfl, bw 70 (by decide +kernel) rfl⟩
set_option maxRecDepth 20000 in
theorem m_J0_335 : mCv RJ0 335 iJ0_coder_7d493 0 := ⟨⟨bw 341 (by decide +kernel) rfl, bw 82 (by decide +kernel) rfl, ⟨by decide +kernel, by decide +kernel⟩, by decide +kernel⟩, bw 338 (by decide +kernel) rfl, bw 339 (by decide +kernel) rfl, bw 340 (by decide +kernel) rfl⟩
set_option maxRecDepth 20000 in
theorem m_J0_492 : mCv RJ0 492 iJ0_isLatin1_aae02 0 := ⟨⟨bw 351 (by decide +kernel) rfl, bw 82 (by decide +kernel) rfl, ⟨by decide +kernel, by decide +kernel⟩, by decide +kernel⟩, bw 348 (by decide +kernel) rfl, bw 349 (by decide +kernel) rfl, bw 350 (by decide +kernel) rfl⟩
set_option maxRecDepth 20000 in
theorem m_J0_495 : mCs RJ0 495 iJ1_charAt_3b067 2 := ⟨⟨bw 354 (by decide +kernel) rfl, bw 83 (by decide +kernel) rfl, ⟨by decide +kernel, by decide +kernel⟩, by decide +kernel⟩, bw 352 (by decide +kernel) rfl, bw 353 (by decide +kernel) rfl⟩
set_option maxRecDepth 20000 in
theorem m_J0_498 : mCs RJ0 498 iJ2_charAt_3b067 2 := ⟨⟨bw 365 (by decide +kernel) rfl, bw 85 (by decide +kernel) rfl, ⟨by decide +kernel, by decide +kernel⟩, by decide +kernel⟩, bw 363 (by decide +kernel) rfl, bw 364 (by decide +kernel) rfl⟩
set_option maxRecDepth 20000 in
theorem m_J0_1059 : mCs RJ0 1059 iJ3_checkIndex_8e157 3 := ⟨⟨bw 362 (by decide +kernel) rfl, bw 84 (by decide +kernel) rfl, ⟨by decide +kernel, by decide +kernel⟩, by decide +kernel⟩, bw 360 (by decide +kernel) rfl, bw 361 (by decide +kernel) rfl⟩
set_option maxRecDepth 20000 in
theorem m_J1_9 : mCs RJ1 9 iJ0_checkIndex_df160 2 := ⟨⟨bw 357 (by decide +kernel) rfl, bw 82 (by decide +kernel) rfl, ⟨by decide +kernel, by decide +kernel⟩, by decide +kernel⟩, bw 355 (by decide +kernel) rfl, bw 356 (by decide +kernel) rfl⟩
set_option maxRecDepth 20000 in
theorem m_J2_48 : mCs RJ2 48 iJ2_length_9d52b 1 := ⟨⟨bw 371 (by decide +kernel) rfl, bw 85 (by decide +kernel) rfl, ⟨by decide +kernel, by decide +kernel⟩, by decide +kernel⟩, bw 369 (by decide +kernel) rfl, bw 370 (by decide +kernel) rfl⟩
set_option maxRecDepth 20000 in
theorem m_J2_67 : mCs RJ2 67 iJ2_checkIndex_2214a 2 := ⟨⟨bw 368 (by decide +kernel) rfl, bw 85 (by decide +kernel) rfl, ⟨by decide +kernel, by decide +kernel⟩, by decide +kernel⟩, bw 366 (by decide +kernel) rfl, bw 367 (by decide +kernel) rfl⟩
set_option maxRecDepth 20000 in
theorem m_J2_71 : mCs RJ2 71 iJ2_getChar_3b067 2 := ⟨⟨bw 375 (by decide +kernel) rfl, bw 85 (by decide +kernel) rfl, ⟨by decide +kernel, by decide +kernel⟩, by decide +kernel⟩, bw 373 (by decide +kernel) rfl, bw 374 (by decide +kernel) rfl⟩
set_option maxRecDepth 20000 in
theorem m_J2_414 : mCs RJ2 414 iJ0_checkIndex_df160 2 := ⟨⟨bw 357 (by decide +kernel) rfl, bw 82 (by decide +kernel) rfl, ⟨by decide +kernel, by decide +kernel⟩, by decide +kernel⟩, bw 372 (by decide +kernel) rfl, bw 356 (by decide +kernel) rfl⟩
set_option maxRecDepth 20000 in
theorem m_Jxc12de_1 : mCi RJxc12de 1 iJxa1e45_init_da8c8 0 := ⟨⟨bw 116 (by decide +kernel) rfl, bw 74 (by decide +kernel) rfl, ⟨by decide +kernel, by decide +kernel⟩, by decide +kernel⟩, bw 114 (by decide +kernel) rfl, bw 115 (by decide +kernel) rfl, rfl, rfl⟩
set_option maxRecDepth 20000 in
theorem m_Jx4a65c_1 : mCi RJx4a65c 1 iJxc12de_init_da8c8 0 := ⟨⟨bw 113 (by decide +kernel) rfl, bw 75 (by decide +kernel) rfl, ⟨by decide +kernel, by decide +kernel⟩, by decide +kernel⟩, bw 111 (by decide +kernel) rfl, bw 112 (by decide +kernel) rfl, rfl, rfl⟩
set_option maxRecDepth 20000 in
theorem m_Jx4a65c_73 : mCs RJx4a65c 73 iJ8_newLength_cabcc 3 := ⟨⟨bw 463 (by decide +kernel) rfl, bw 88 (by decide +kernel) rfl, ⟨by decide +kernel, by decide +kernel⟩, by decide +kernel⟩, bw 461 (by decide +kernel) rfl, bw 462 (by decide +kernel) rfl⟩
set_option maxRecDepth 20000 in
theorem m_Jx4a65c_66 : mCs RJx4a65c 66 iJ7_copyOf_1904c 2 := ⟨⟨bw 471 (by decide +kernel) rfl, bw 89 (by decide +kernel) rfl, ⟨by decide +kernel, by decide +kernel⟩, by decide +kernel⟩, bw 469 (by decide +kernel) rfl, bw 470 (by decide +kernel) rfl⟩
set_option maxRecDepth 20000 in
theorem m_Jx4a65c_69 : mCv RJx4a65c 69 iJx4a65c_grow_92f84 1 := ⟨⟨bw 460 (by decide +kernel) rfl, bw 76 (by decide +kernel) rfl, ⟨by decide +kernel, by decide +kernel⟩, by decide +kernel⟩, bw 457 (by decide +kernel) rfl, bw 459 (by decide +kernel) rfl, bw 8 (by decide +kernel) rfl⟩
set_option maxRecDepth 20000 in
theorem m_Jx4a65c_118 : mCs RJx4a65c 118 iJ15_checkIndex_7cf53 2 := ⟨⟨bw 438 (by decide +kernel) rfl, bw 87 (by decide +kernel) rfl, ⟨by decide +kernel, by decide +kernel⟩, by decide +kernel⟩, bw 436 (by decide +kernel) rfl, bw 437 (by decide +kernel) rfl⟩
set_option maxRecDepth 20000 in
theorem m_Jx4a65c_123 : mCv RJx4a65c 123 iJx4a65c_elementData_915e3 1 := ⟨⟨bw 443 (by decide +kernel) rfl, bw 76 (by decide +kernel) rfl, ⟨by decide +kernel, by decide +kernel⟩, by decide +kernel⟩, bw 440 (by decide +kernel) rfl, bw 441 (by decide +kernel) rfl, bw 442 (by decide +kernel) rfl⟩
set_option maxRecDepth 20000 in
theorem m_Jx4a65c_129 : mCv RJx4a65c 129 iJx4a65c_grow_d5877 0 := ⟨⟨bw 456 (by decide +kernel) rfl, bw 76 (by decide +kernel) rfl, ⟨by decide +kernel, by decide +kernel⟩, by decide +kernel⟩, bw 453 (by decide +kernel) rfl, bw 455 (by decide +kernel) rfl, bw 7 (by decide +kernel) rfl⟩
set_option maxRecDepth 20000 in
theorem m_Jx4a65c_131 : mCv RJx4a65c 131 iJx4a65c_add_72be8 3 := ⟨⟨bw 452 (by decide +kernel) rfl, bw 76 (by decide +kernel) rfl, ⟨by decide +kernel, by decide +kernel⟩, by decide +kernel⟩, bw 449 (by decide +kernel) rfl, bw 451 (by decide +kernel) rfl, bw 6 (by decide +kernel) rfl⟩
set_option maxRecDepth 20000 in
theorem m_Jx4a65c_144 : mCv RJx4a65c 144 iJx4a65c_fastRemove_b59b0 2 := ⟨⟨bw 572 (by decide +kernel) rfl, bw 76 (by decide +kernel) rfl, ⟨by decide +kernel, by decide +kernel⟩, by decide +kernel⟩, bw 569 (by decide +kernel) rfl, bw 571 (by decide +kernel) rfl, bw 12 (by decide +kernel) rfl⟩
set_option maxRecDepth 20000 in
theorem m_J7_300 : mCs RJ7 300 iJ7_copyOf_6403c 3 := ⟨⟨bw 487 (by decide +kernel) rfl, bw 89 (by decide +kernel) rfl, ⟨by decide +kernel, by decide +kernel⟩, by decide +kernel⟩, bw 485 (by decide +kernel) rfl, bw 486 (by decide +kernel) rfl⟩
set_option maxRecDepth 20000 in
theorem m_J15_105 : mCs RJ15 105 iJ3_checkIndex_8e157 3 := ⟨⟨bw 362 (by decide +kernel) rfl, bw 84 (by decide +kernel) rfl, ⟨by decide +kernel, by decide +kernel⟩, by decide +kernel⟩, bw 439 (by decide +kernel) rfl, bw 361 (by decide +kernel) rfl⟩
set_option maxRecDepth 20000 in
theorem m_J8_201 : mCs RJ8 201 iJ8_hugeLength_7cf53 2 := ⟨⟨bw 468 (by decide +kernel) rfl, bw 88 (by decide +kernel) rfl, ⟨by decide +kernel, by decide +kernel⟩, by decide +kernel⟩, bw 466 (by decide +kernel) rfl, bw 467 (by decide +kernel) rfl⟩
set_option maxRecDepth 20000 in
theorem m_L_9 : mCi RL 9 iX6_init 0 := ⟨⟨bw 96 (by decide +kernel) rfl, bw 72 (by decide +kernel) rfl, ⟨by decide +kernel, by decide +kernel⟩, by decide +kernel⟩, bw 94 (by decide +kernel) rfl, bw 95 (by decide +kernel) rfl, rfl, rfl⟩
set_option maxRecDepth 20000 in
theorem m_L_12 : mCi RL 12 iX7_init 0 := ⟨⟨bw 840 (by decide +kernel) rfl, bw 81 (by decide +kernel) rfl, ⟨by decide +kernel, by decide +kernel⟩, by decide +kernel⟩, bw 838 (by decide +kernel) rfl, bw 839 (by decide +kernel) rfl, rfl, rfl⟩
set_option maxRecDepth 20000 in
theorem m_L_13 : mCv RL 13 iX6_type 1 := ⟨⟨bw 277 (by decide +kernel) rfl, bw 72 (by decide +kernel) rfl, ⟨by decide +kernel, by decide +kernel⟩, by decide +kernel⟩, bw 274 (by decide +kernel) rfl, bw 275 (by decide +kernel) rfl, bw 276 (by decide +kernel) rfl⟩
set_option maxRecDepth 20000 in
theorem m_L_17 : mCv RL 17 iX7_type 1 := ⟨⟨bw 912 (by decide +kernel) rfl, bw 81 (by decide +kernel) rfl, ⟨by decide +kernel, by decide +kernel⟩, by decide +kernel⟩, bw 909 (by decide +kernel) rfl, bw 910 (by decide +kernel) rfl, bw 911 (by decide +kernel) rfl⟩
set_option maxRecDepth 20000 in
theorem m_L_18 : mCv RL 18 iX6_clearText 0 := ⟨⟨bw 285 (by decide +kernel) rfl, bw 72 (by decide +kernel) rfl, ⟨by decide +kernel, by decide +kernel⟩, by decide +kernel⟩, bw 282 (by decide +kernel) rfl, bw 283 (by decide +kernel) rfl, bw 284 (by decide +kernel) rfl⟩
set_option maxRecDepth 20000 in
theorem m_L_22 : mCv RL 22 iX7_clearText 0 := ⟨⟨bw 919 (by decide +kernel) rfl, bw 81 (by decide +kernel) rfl, ⟨by decide +kernel, by decide +kernel⟩, by decide +kernel⟩, bw 916 (by decide +kernel) rfl, bw 917 (by decide +kernel) rfl, bw 918 (by decide +kernel) rfl⟩
set_option maxRecDepth 20000 in
theorem m_L_23 : mCv RL 23 iX6_syntaxError 0 := ⟨⟨bw 293 (by decide +kernel) rfl, bw 72 (by decide +kernel) rfl, ⟨by decide +kernel, by decide +kernel⟩, by decide +kernel⟩, bw 290 (by decide +kernel) rfl, bw 291 (by decide +kernel) rfl, bw 292 (by decide +kernel) rfl⟩
set_option maxRecDepth 20000 in
theorem m_L_26 : mCv RL 26 iX7_syntaxError 0 := ⟨⟨bw 923 (by decide +kernel) rfl, bw 81 (by decide +kernel) rfl, ⟨by decide +kernel, by decide +kernel⟩, by decide +kernel⟩, bw 920 (by decide +kernel) rfl, bw 921 (by decide +kernel) rfl, bw 922 (by decide +kernel) rfl⟩
set_option maxRecDepth 20000 in
theorem m_L_27 : mCv RL 27 iX6_carryOut 0 := ⟨⟨bw 415 (by decide +kernel) rfl, bw 72 (by decide +kernel) rfl, ⟨by decide +kernel, by decide +kernel⟩, by decide +kernel⟩, bw 412 (by decide +kernel) rfl, bw 413 (by decide +kernel) rfl, bw 414 (by decide +kernel) rfl⟩
set_option maxRecDepth 20000 in
theorem m_L_30 : mCv RL 30 iX7_carryOut 0 := ⟨⟨bw 985 (by decide +kernel) rfl, bw 81 (by decide +kernel) rfl, ⟨by decide +kernel, by decide +kernel⟩, by decide +kernel⟩, bw 982 (by decide +kernel) rfl, bw 983 (by decide +kernel) rfl, bw 984 (by decide +kernel) rfl⟩
set_option maxRecDepth 20000 in
theorem m_L_31 : mCv RL 31 iX6_add 0 := ⟨⟨bw 646 (by decide +kernel) rfl, bw 72 (by decide +kernel) rfl, ⟨by decide +kernel, by decide +kernel⟩, by decide +kernel⟩, bw 643 (by decide +kernel) rfl, bw 644 (by decide +kernel) rfl, bw 645 (by decide +kernel) rfl⟩
set_option maxRecDepth 20000 in
theorem m_L_34 : mCv RL 34 iX7_add 0 := ⟨⟨bw 1089 (by decide +kernel) rfl, bw 81 (by decide +kernel) rfl, ⟨by decide +kernel, by decide +kernel⟩, by decide +kernel⟩, bw 1086 (by decide +kernel) rfl, bw 1087 (by decide +kernel) rfl, bw 1088 (by decide +kernel) rfl⟩
set_option maxRecDepth 20000 in
theorem m_L_35 : mCv RL 35 iX6_drop 1 := ⟨⟨bw 654 (by decide +kernel) rfl, bw 72 (by decide +kernel) rfl, ⟨by decide +kernel, by decide +kernel⟩, by decide +kernel⟩, bw 651 (by decide +kernel) rfl, bw 652 (by decide +kernel) rfl, bw 653 (by decide +kernel) rfl⟩
set_option maxRecDepth 20000 in
theorem m_L_38 : mCv RL 38 iX7_drop 1 := ⟨⟨bw 1097 (by decide +kernel) rfl, bw 81 (by decide +kernel) rfl, ⟨by decide +kernel, by decide +kernel⟩, by decide +kernel⟩, bw 1094 (by decide +kernel) rfl, bw 1095 (by decide +kernel) rfl, bw 1096 (by decide +kernel) rfl⟩
set_option maxRecDepth 20000 in
theorem m_L_39 : mCv RL 39 iX6_titles 0 := ⟨⟨bw 658 (by decide +kernel) rfl, bw 72 (by decide +kernel) rfl, ⟨by decide +kernel, by decide +kernel⟩, by decide +kernel⟩, bw 655 (by decide +kernel) rfl, bw 656 (by decide +kernel) rfl, bw 657 (by decide +kernel) rfl⟩
set_option maxRecDepth 20000 in
theorem m_L_42 : mCv RL 42 iX7_titles 0 := ⟨⟨bw 1101 (by decide +kernel) rfl, bw 81 (by decide +kernel) rfl, ⟨by decide +kernel, by decide +kernel⟩, by decide +kernel⟩, bw 1098 (by decide +kernel) rfl, bw 1099 (by decide +kernel) rfl, bw 1100 (by decide +kernel) rfl⟩
set_option maxRecDepth 20000 in
theorem m_L_43 : mCv RL 43 iX6_character 2 := ⟨⟨bw 662 (by decide +kernel) rfl, bw 72 (by decide +kernel) rfl, ⟨by decide +kernel, by decide +kernel⟩, by decide +kernel⟩, bw 659 (by decide +kernel) rfl, bw 660 (by decide +kernel) rfl, bw 661 (by decide +kernel) rfl⟩
set_option maxRecDepth 20000 in
theorem m_L_47 : mCv RL 47 iX7_character 2 := ⟨⟨bw 1105 (by decide +kernel) rfl, bw 81 (by decide +kernel) rfl, ⟨by decide +kernel, by decide +kernel⟩, by decide +kernel⟩, bw 1102 (by decide +kernel) rfl, bw 1103 (by decide +kernel) rfl, bw 1104 (by decide +kernel) rfl⟩
set_option maxRecDepth 20000 in
theorem m_L_48 : mCv RL 48 iX6_of 2 := ⟨⟨bw 666 (by decide +kernel) rfl, bw 72 (by decide +kernel) rfl, ⟨by decide +kernel, by decide +kernel⟩, by decide +kernel⟩, bw 663 (by decide +kernel) rfl, bw 664 (by decide +kernel) rfl, bw 665 (by decide +kernel) rfl⟩
set_option maxRecDepth 20000 in
theorem m_L_51 : mCv RL 51 iX7_of 2 := ⟨⟨bw 1109 (by decide +kernel) rfl, bw 81 (by decide +kernel) rfl, ⟨by decide +kernel, by decide +kernel⟩, by decide +kernel⟩, bw 1106 (by decide +kernel) rfl, bw 1107 (by decide +kernel) rfl, bw 1108 (by decide +kernel) rfl⟩
set_option maxRecDepth 20000 in
theorem m_L_52 : mCv RL 52 iX6_common 2 := ⟨⟨bw 721 (by decide +kernel) rfl, bw 72 (by decide +kernel) rfl, ⟨by decide +kernel, by decide +kernel⟩, by decide +kernel⟩, bw 718 (by decide +kernel) rfl, bw 719 (by decide +kernel) rfl, bw 720 (by decide +kernel) rfl⟩
set_option maxRecDepth 20000 in
theorem m_L_55 : mCv RL 55 iX7_common 2 := ⟨⟨bw 1137 (by decide +kernel) rfl, bw 81 (by decide +kernel) rfl, ⟨by decide +kernel, by decide +kernel⟩, by decide +kernel⟩, bw 1134 (by decide +kernel) rfl, bw 1135 (by decide +kernel) rfl, bw 1136 (by decide +kernel) rfl⟩
set_option maxRecDepth 20000 in
theorem m_L_56 : mCv RL 56 iX6_closest 1 := ⟨⟨bw 730 (by decide +kernel) rfl, bw 72 (by decide +kernel) rfl, ⟨by decide +kernel, by decide +kernel⟩, by decide +kernel⟩, bw 727 (by decide +kernel) rfl, bw 728 (by decide +kernel) rfl, bw 729 (by decide +kernel) rfl⟩
set_option maxRecDepth 20000 in
theorem m_L_59 : mCv RL 59 iX7_closest 1 := ⟨⟨bw 1145 (by decide +kernel) rfl, bw 81 (by decide +kernel) rfl, ⟨by decide +kernel, by decide +kernel⟩, by decide +kernel⟩, bw 1142 (by decide +kernel) rfl, bw 1143 (by decide +kernel) rfl, bw 1144 (by decide +kernel) rfl⟩
set_option maxRecDepth 20000 in
theorem m_L_60 : mCv RL 60 iX6_unknown 0 := ⟨⟨bw 734 (by decide +kernel) rfl, bw 72 (by decide +kernel) rfl, ⟨by decide +kernel, by decide +kernel⟩, by decide +kernel⟩, bw 731 (by decide +kernel) rfl, bw 732 (by decide +kernel) rfl, bw 733 (by decide +kernel) rfl⟩
set_option maxRecDepth 20000 in
theorem m_L_63 : mCv RL 63 iX7_unknown 0 := ⟨⟨bw 1149 (by decide +kernel) rfl, bw 81 (by decide +kernel) rfl, ⟨by decide +kernel, by decide +kernel⟩, by decide +kernel⟩, bw 1146 (by decide +kernel) rfl, bw 1147 (by decide +kernel) rfl, bw 1148 (by decide +kernel) rfl⟩
set_option maxRecDepth 20000 in
theorem m_L_64 : mCv RL 64 iX6_hardest 0 := ⟨⟨bw 738 (by decide +kernel) rfl, bw 72 (by decide +kernel) rfl, ⟨by decide +kernel, by decide +kernel⟩, by decide +kernel⟩, bw 735 (by decide +kernel) rfl, bw 736 (by decide +kernel) rfl, bw 737 (by decide +kernel) rfl⟩
set_option maxRecDepth 20000 in
theorem m_L_67 : mCv RL 67 iX7_hardest 0 := ⟨⟨bw 1161 (by decide +kernel) rfl, bw 81 (by decide +kernel) rfl, ⟨by decide +kernel, by decide +kernel⟩, by decide +kernel⟩, bw 1158 (by decide +kernel) rfl, bw 1159 (by decide +kernel) rfl, bw 1160 (by decide +kernel) rfl⟩
set_option maxRecDepth 20000 in
theorem m_L_68 : mCv RL 68 iX6_ifAdded 0 := ⟨⟨bw 742 (by decide +kernel) rfl, bw 72 (by decide +kernel) rfl, ⟨by decide +kernel, by decide +kernel⟩, by decide +kernel⟩, bw 739 (by decide +kernel) rfl, bw 740 (by decide +kernel) rfl, bw 741 (by decide +kernel) rfl⟩
set_option maxRecDepth 20000 in
theorem m_L_71 : mCv RL 71 iX7_ifAdded 0 := ⟨⟨bw 1169 (by decide +kernel) rfl, bw 81 (by decide +kernel) rfl, ⟨by decide +kernel, by decide +kernel⟩, by decide +kernel⟩, bw 1166 (by decide +kernel) rfl, bw 1167 (by decide +kernel) rfl, bw 1168 (by decide +kernel) rfl⟩
set_option maxRecDepth 20000 in
theorem m_L_72 : mCv RL 72 iX6_setMode 1 := ⟨⟨bw 751 (by decide +kernel) rfl, bw 72 (by decide +kernel) rfl, ⟨by decide +kernel, by decide +kernel⟩, by decide +kernel⟩, bw 748 (by decide +kernel) rfl, bw 749 (by decide +kernel) rfl, bw 750 (by decide +kernel) rfl⟩
set_option maxRecDepth 20000 in
theorem m_L_75 : mCv RL 75 iX7_setMode 1 := ⟨⟨bw 1173 (by decide +kernel) rfl, bw 81 (by decide +kernel) rfl, ⟨by decide +kernel, by decide +kernel⟩, by decide +kernel⟩, bw 1170 (by decide +kernel) rfl, bw 1171 (by decide +kernel) rfl, bw 1172 (by decide +kernel) rfl⟩
set_option maxRecDepth 20000 in
theorem m_L_76 : mCv RL 76 iX6_setOrder 1 := ⟨⟨bw 755 (by decide +kernel) rfl, bw 72 (by decide +kernel) rfl, ⟨by decide +kernel, by decide +kernel⟩, by decide +kernel⟩, bw 752 (by decide +kernel) rfl, bw 753 (by decide +kernel) rfl, bw 754 (by decide +kernel) rfl⟩
set_option maxRecDepth 20000 in
theorem m_L_79 : mCv RL 79 iX7_setOrder 1 := ⟨⟨bw 1177 (by decide +kernel) rfl, bw 81 (by decide +kernel) rfl, ⟨by decide +kernel, by decide +kernel⟩, by decide +kernel⟩, bw 1174 (by decide +kernel) rfl, bw 1175 (by decide +kernel) rfl, bw 1176 (by decide +kernel) rfl⟩
set_option maxRecDepth 20000 in
theorem m_L_80 : mCv RL 80 iX6_mode 0 := ⟨⟨bw 759 (by decide +kernel) rfl, bw 72 (by decide +kernel) rfl, ⟨by decide +kernel, by decide +kernel⟩, by decide +kernel⟩, bw 756 (by decide +kernel) rfl, bw 757 (by decide +kernel) rfl, bw 758 (by decide +kernel) rfl⟩
set_option maxRecDepth 20000 in
theorem m_L_83 : mCv RL 83 iX7_mode 0 := ⟨⟨bw 1181 (by decide +kernel) rfl, bw 81 (by decide +kernel) rfl, ⟨by decide +kernel, by decide +kernel⟩, by decide +kernel⟩, bw 1178 (by decide +kernel) rfl, bw 1179 (by decide +kernel) rfl, bw 1180 (by decide +kernel) rfl⟩
set_option maxRecDepth 20000 in
theorem m_L_84 : mCv RL 84 iX6_order 0 := ⟨⟨bw 763 (by decide +kernel) rfl, bw 72 (by decide +kernel) rfl, ⟨by decide +kernel, by decide +kernel⟩, by decide +kernel⟩, bw 760 (by decide +kernel) rfl, bw 761 (by decide +kernel) rfl, bw 762 (by decide +kernel) rfl⟩
set_option maxRecDepth 20000 in
theorem m_L_87 : mCv RL 87 iX7_order 0 := ⟨⟨bw 1185 (by decide +kernel) rfl, bw 81 (by decide +kernel) rfl, ⟨by decide +kernel, by decide +kernel⟩, by decide +kernel⟩, bw 1182 (by decide +kernel) rfl, bw 1183 (by decide +kernel) rfl, bw 1184 (by decide +kernel) rfl⟩
set_option maxRecDepth 20000 in
theorem m_L_88 : mCv RL 88 iX6_ask 1 := ⟨⟨bw 767 (by decide +kernel) rfl, bw 72 (by decide +kernel) rfl, ⟨by decide +kernel, by decide +kernel⟩, by decide +kernel⟩, bw 764 (by decide +kernel) rfl, bw 765 (by decide +kernel) rfl, bw 766 (by decide +kernel) rfl⟩
set_option maxRecDepth 20000 in
theorem m_L_91 : mCv RL 91 iX7_ask 1 := ⟨⟨bw 1189 (by decide +kernel) rfl, bw 81 (by decide +kernel) rfl, ⟨by decide +kernel, by decide +kernel⟩, by decide +kernel⟩, bw 1186 (by decide +kernel) rfl, bw 1187 (by decide +kernel) rfl, bw 1188 (by decide +kernel) rfl⟩
set_option maxRecDepth 20000 in
theorem m_L_92 : mCv RL 92 iX6_erase 0 := ⟨⟨bw 778 (by decide +kernel) rfl, bw 72 (by decide +kernel) rfl, ⟨by decide +kernel, by decide +kernel⟩, by decide +kernel⟩, bw 775 (by decide +kernel) rfl, bw 776 (by decide +kernel) rfl, bw 777 (by decide +kernel) rfl⟩
set_option maxRecDepth 20000 in
theorem m_L_95 : mCv RL 95 iX7_erase 0 := ⟨⟨bw 1197 (by decide +kernel) rfl, bw 81 (by decide +kernel) rfl, ⟨by decide +kernel, by decide +kernel⟩, by decide +kernel⟩, bw 1194 (by decide +kernel) rfl, bw 1195 (by decide +kernel) rfl, bw 1196 (by decide +kernel) rfl⟩
set_option maxRecDepth 20000 in
theorem m_L_96 : mCv RL 96 iX6_queryLength 0 := ⟨⟨bw 782 (by decide +kernel) rfl, bw 72 (by decide +kernel) rfl, ⟨by decide +kernel, by decide +kernel⟩, by decide +kernel⟩, bw 779 (by decide +kernel) rfl, bw 780 (by decide +kernel) rfl, bw 781 (by decide +kernel) rfl⟩
set_option maxRecDepth 20000 in
theorem m_L_99 : mCv RL 99 iX7_queryLength 0 := ⟨⟨bw 1201 (by decide +kernel) rfl, bw 81 (by decide +kernel) rfl, ⟨by decide +kernel, by decide +kernel⟩, by decide +kernel⟩, bw 1198 (by decide +kernel) rfl, bw 1199 (by decide +kernel) rfl, bw 1200 (by decide +kernel) rfl⟩
set_option maxRecDepth 20000 in
theorem m_L_100 : mCv RL 100 iX6_queryCharacter 1 := ⟨⟨bw 786 (by decide +kernel) rfl, bw 72 (by decide +kernel) rfl, ⟨by decide +kernel, by decide +kernel⟩, by decide +kernel⟩, bw 783 (by decide +kernel) rfl, bw 784 (by decide +kernel) rfl, bw 785 (by decide +kernel) rfl⟩
set_option maxRecDepth 20000 in
theorem m_L_103 : mCv RL 103 iX7_queryCharacter 1 := ⟨⟨bw 1205 (by decide +kernel) rfl, bw 81 (by decide +kernel) rfl, ⟨by decide +kernel, by decide +kernel⟩, by decide +kernel⟩, bw 1202 (by decide +kernel) rfl, bw 1203 (by decide +kernel) rfl, bw 1204 (by decide +kernel) rfl⟩
set_option maxRecDepth 20000 in
theorem m_L_104 : mCv RL 104 iX6_results 0 := ⟨⟨bw 774 (by decide +kernel) rfl, bw 72 (by decide +kernel) rfl, ⟨by decide +kernel, by decide +kernel⟩, by decide +kernel⟩, bw 787 (by decide +kernel) rfl, bw 772 (by decide +kernel) rfl, bw 773 (by decide +kernel) rfl⟩
set_option maxRecDepth 20000 in
theorem m_L_107 : mCv RL 107 iX7_results 0 := ⟨⟨bw 1209 (by decide +kernel) rfl, bw 81 (by decide +kernel) rfl, ⟨by decide +kernel, by decide +kernel⟩, by decide +kernel⟩, bw 1206 (by decide +kernel) rfl, bw 1207 (by decide +kernel) rfl, bw 1208 (by decide +kernel) rfl⟩
set_option maxRecDepth 20000 in
theorem m_L_108 : mCv RL 108 iX6_result 1 := ⟨⟨bw 791 (by decide +kernel) rfl, bw 72 (by decide +kernel) rfl, ⟨by decide +kernel, by decide +kernel⟩, by decide +kernel⟩, bw 788 (by decide +kernel) rfl, bw 789 (by decide +kernel) rfl, bw 790 (by decide +kernel) rfl⟩
set_option maxRecDepth 20000 in
theorem m_L_111 : mCv RL 111 iX7_result 1 := ⟨⟨bw 1213 (by decide +kernel) rfl, bw 81 (by decide +kernel) rfl, ⟨by decide +kernel, by decide +kernel⟩, by decide +kernel⟩, bw 1210 (by decide +kernel) rfl, bw 1211 (by decide +kernel) rfl, bw 1212 (by decide +kernel) rfl⟩
set_option maxRecDepth 20000 in
theorem m_L_112 : mCv RL 112 iX6_matchPlace 1 := ⟨⟨bw 795 (by decide +kernel) rfl, bw 72 (by decide +kernel) rfl, ⟨by decide +kernel, by decide +kernel⟩, by decide +kernel⟩, bw 792 (by decide +kernel) rfl, bw 793 (by decide +kernel) rfl, bw 794 (by decide +kernel) rfl⟩
set_option maxRecDepth 20000 in
theorem m_L_115 : mCv RL 115 iX7_matchPlace 1 := ⟨⟨bw 1217 (by decide +kernel) rfl, bw 81 (by decide +kernel) rfl, ⟨by decide +kernel, by decide +kernel⟩, by decide +kernel⟩, bw 1214 (by decide +kernel) rfl, bw 1215 (by decide +kernel) rfl, bw 1216 (by decide +kernel) rfl⟩
set_option maxRecDepth 20000 in
theorem m_L_116 : mCv RL 116 iX6_pick 1 := ⟨⟨bw 803 (by decide +kernel) rfl, bw 72 (by decide +kernel) rfl, ⟨by decide +kernel, by decide +kernel⟩, by decide +kernel⟩, bw 800 (by decide +kernel) rfl, bw 801 (by decide +kernel) rfl, bw 802 (by decide +kernel) rfl⟩
set_option maxRecDepth 20000 in
theorem m_L_119 : mCv RL 119 iX7_pick 1 := ⟨⟨bw 1221 (by decide +kernel) rfl, bw 81 (by decide +kernel) rfl, ⟨by decide +kernel, by decide +kernel⟩, by decide +kernel⟩, bw 1218 (by decide +kernel) rfl, bw 1219 (by decide +kernel) rfl, bw 1220 (by decide +kernel) rfl⟩
set_option maxRecDepth 20000 in
theorem m_L_120 : mCv RL 120 iX6_undo 0 := ⟨⟨bw 807 (by decide +kernel) rfl, bw 72 (by decide +kernel) rfl, ⟨by decide +kernel, by decide +kernel⟩, by decide +kernel⟩, bw 804 (by decide +kernel) rfl, bw 805 (by decide +kernel) rfl, bw 806 (by decide +kernel) rfl⟩
set_option maxRecDepth 20000 in
theorem m_L_123 : mCv RL 123 iX7_undo 0 := ⟨⟨bw 1225 (by decide +kernel) rfl, bw 81 (by decide +kernel) rfl, ⟨by decide +kernel, by decide +kernel⟩, by decide +kernel⟩, bw 1222 (by decide +kernel) rfl, bw 1223 (by decide +kernel) rfl, bw 1224 (by decide +kernel) rfl⟩
set_option maxRecDepth 20000 in
theorem m_L_124 : mCv RL 124 iX6_digest 0 := ⟨⟨bw 815 (by decide +kernel) rfl, bw 72 (by decide +kernel) rfl, ⟨by decide +kernel, by decide +kernel⟩, by decide +kernel⟩, bw 812 (by decide +kernel) rfl, bw 813 (by decide +kernel) rfl, bw 814 (by decide +kernel) rfl⟩
set_option maxRecDepth 20000 in
theorem m_L_128 : mCv RL 128 iX7_digest 0 := ⟨⟨bw 1229 (by decide +kernel) rfl, bw 81 (by decide +kernel) rfl, ⟨by decide +kernel, by decide +kernel⟩, by decide +kernel⟩, bw 1226 (by decide +kernel) rfl, bw 1227 (by decide +kernel) rfl, bw 1228 (by decide +kernel) rfl⟩
set_option maxRecDepth 20000 in
theorem mm_X0_29 : mMath RX0 29 Lib.Math.min.name Lib.Math.min.code := ⟨bw 499 (by decide +kernel) rfl, bw 492 (by decide +kernel) rfl, bw 86 (by decide +kernel) rfl, bw 493 (by decide +kernel) rfl⟩
set_option maxRecDepth 20000 in
theorem mm_X3_66 : mMath RX3 66 Lib.Math.min.name Lib.Math.min.code := ⟨bw 693 (by decide +kernel) rfl, bw 492 (by decide +kernel) rfl, bw 86 (by decide +kernel) rfl, bw 493 (by decide +kernel) rfl⟩
set_option maxRecDepth 20000 in
theorem mm_X3_93 : mMath RX3 93 Lib.Math.max.name Lib.Math.max.code := ⟨bw 692 (by decide +kernel) rfl, bw 383 (by decide +kernel) rfl, bw 86 (by decide +kernel) rfl, bw 384 (by decide +kernel) rfl⟩
set_option maxRecDepth 20000 in
theorem mm_X4_81 : mMath RX4 81 Lib.Math.max.name Lib.Math.max.code := ⟨bw 382 (by decide +kernel) rfl, bw 383 (by decide +kernel) rfl, bw 86 (by decide +kernel) rfl, bw 384 (by decide +kernel) rfl⟩
set_option maxRecDepth 20000 in
theorem mm_X5_45 : mMath RX5 45 Lib.Math.max.name Lib.Math.max.code := ⟨bw 726 (by decide +kernel) rfl, bw 383 (by decide +kernel) rfl, bw 86 (by decide +kernel) rfl, bw 384 (by decide +kernel) rfl⟩
set_option maxRecDepth 20000 in
theorem mm_Jx4a65c_79 : mMath RJx4a65c 79 Lib.Math.max.name Lib.Math.max.code := ⟨bw 497 (by decide +kernel) rfl, bw 383 (by decide +kernel) rfl, bw 86 (by decide +kernel) rfl, bw 384 (by decide +kernel) rfl⟩
set_option maxRecDepth 20000 in
theorem mm_J7_304 : mMath RJ7 304 Lib.Math.min.name Lib.Math.min.code := ⟨bw 491 (by decide +kernel) rfl, bw 492 (by decide +kernel) rfl, bw 86 (by decide +kernel) rfl, bw 493 (by decide +kernel) rfl⟩
set_option maxRecDepth 20000 in
theorem mm_J8_194 : mMath RJ8 194 Lib.Math.max.name Lib.Math.max.code := ⟨bw 464 (by decide +kernel) rfl, bw 383 (by decide +kernel) rfl, bw 86 (by decide +kernel) rfl, bw 384 (by decide +kernel) rfl⟩
set_option maxRecDepth 20000 in
theorem l_X6_229 : Cond.constantLong RX6 229 (163) ∈ BIG := bw 816 (by decide +kernel) rfl
set_option maxRecDepth 20000 in
theorem l_X6_260 : Cond.constantLong RX6 260 (31) ∈ BIG := bw 821 (by decide +kernel) rfl
set_option maxRecDepth 20000 in
theorem l_X7_129 : Cond.constantLong RX7 129 (255) ∈ BIG := bw 946 (by decide +kernel) rfl
set_option maxRecDepth 20000 in
theorem l_X7_146 : Cond.constantLong RX7 146 (1953653104) ∈ BIG := bw 968 (by decide +kernel) rfl
set_option maxRecDepth 20000 in
theorem l_X7_148 : Cond.constantLong RX7 148 (500135195763) ∈ BIG := bw 969 (by decide +kernel) rfl
set_option maxRecDepth 20000 in
theorem l_X7_150 : Cond.constantLong RX7 150 (1685221239) ∈ BIG := bw 970 (by decide +kernel) rfl
set_option maxRecDepth 20000 in
theorem l_X7_152 : Cond.constantLong RX7 152 (8317129717398990441) ∈ BIG := bw 971 (by decide +kernel) rfl
set_option maxRecDepth 20000 in
theorem l_X7_158 : Cond.constantLong RX7 158 (435459026032) ∈ BIG := bw 977 (by decide +kernel) rfl
set_option maxRecDepth 20000 in
theorem l_X7_160 : Cond.constantLong RX7 160 (474148529775) ∈ BIG := bw 978 (by decide +kernel) rfl
set_option maxRecDepth 20000 in
theorem l_X7_162 : Cond.constantLong RX7 162 (1701667182) ∈ BIG := bw 979 (by decide +kernel) rfl
set_option maxRecDepth 20000 in
theorem l_X7_167 : Cond.constantLong RX7 167 (2124659) ∈ BIG := bw 940 (by decide +kernel) rfl
set_option maxRecDepth 20000 in
theorem l_X7_169 : Cond.constantLong RX7 169 (2122852) ∈ BIG := bw 941 (by decide +kernel) rfl
set_option maxRecDepth 20000 in
theorem l_X7_178 : Cond.constantLong RX7 178 (139325305444) ∈ BIG := bw 958 (by decide +kernel) rfl
set_option maxRecDepth 20000 in
theorem l_X7_183 : Cond.constantLong RX7 183 (139140034413) ∈ BIG := bw 963 (by decide +kernel) rfl
set_option maxRecDepth 20000 in
theorem l_X7_188 : Cond.constantLong RX7 188 (35675699442287) ∈ BIG := bw 972 (by decide +kernel) rfl
set_option maxRecDepth 20000 in
theorem l_X7_193 : Cond.constantLong RX7 193 (139240630640) ∈ BIG := bw 980 (by decide +kernel) rfl
set_option maxRecDepth 20000 in
theorem l_X7_195 : Cond.constantLong RX7 195 (491260308579) ∈ BIG := bw 981 (by decide +kernel) rfl
set_option maxRecDepth 20000 in
theorem l_X7_264 : Cond.constantLong RX7 264 (163) ∈ BIG := bw 1230 (by decide +kernel) rfl
set_option maxRecDepth 20000 in
theorem l_X7_266 : Cond.constantLong RX7 266 (31) ∈ BIG := bw 1231 (by decide +kernel) rfl
set_option maxRecDepth 20000 in
theorem k_X0_9 : Cond.classLink RX0 9 "TitleFinder$State" ∈ BIG := bw 164 (by decide +kernel) rfl
set_option maxRecDepth 20000 in
theorem k_X2_33 : Cond.classLink RX2 33 "TitleFinder$Title" ∈ BIG := bw 444 (by decide +kernel) rfl
set_option maxRecDepth 20000 in
theorem k_X3_9 : Cond.classLink RX3 9 "[[I" ∈ BIG := bw 233 (by decide +kernel) rfl
set_option maxRecDepth 20000 in
theorem k_X3_45 : Cond.classLink RX3 45 "TitleFinder$Title" ∈ BIG := bw 673 (by decide +kernel) rfl
set_option maxRecDepth 20000 in
theorem k_X6_142 : Cond.classLink RX6 142 "TitleFinder$Title" ∈ BIG := bw 633 (by decide +kernel) rfl
set_option maxRecDepth 20000 in
theorem k_Jx4a65c_7 : Cond.classLink RJx4a65c 7 "java/lang/Object" ∈ BIG := bw 498 (by decide +kernel) rfl
set_option maxRecDepth 20000 in
theorem k_J7_2 : Cond.classLink RJ7 2 "java/lang/Object" ∈ BIG := bw 490 (by decide +kernel) rfl
set_option maxRecDepth 20000 in
theorem k_J7_110 : Cond.classLink RJ7 110 "[Ljava/lang/Object;" ∈ BIG := bw 488 (by decide +kernel) rfl
set_option maxRecDepth 20000 in
theorem ac_int : Cond.arrayClass .int ∈ BIG := bw 226 (by decide +kernel) rfl
set_option maxRecDepth 20000 in
theorem ac_char : Cond.arrayClass .char ∈ BIG := bw 157 (by decide +kernel) rfl
set_option maxRecDepth 20000 in
theorem oi_inst : Cond.instanceMethod objectInit ∈ BIG := bw 98 (by decide +kernel) rfl
set_option maxRecDepth 20000 in
theorem oi_code : Cond.code objectInit ⟨#[0xb1]⟩ 1 none ∈ BIG := bw 99 (by decide +kernel) rfl
set_option maxRecDepth 20000 in
theorem oi_X6_1 : Cond.methodLink RX6 1 objectInit ∈ BIG := bw 97 (by decide +kernel) rfl
set_option maxRecDepth 20000 in
theorem oi_X0_3 : Cond.methodLink RX0 3 objectInit ∈ BIG := bw 163 (by decide +kernel) rfl
set_option maxRecDepth 20000 in
theorem oi_X1_3 : Cond.methodLink RX1 3 objectInit ∈ BIG := bw 214 (by decide +kernel) rfl
set_option maxRecDepth 20000 in
theorem oi_X2_3 : Cond.methodLink RX2 3 objectInit ∈ BIG := bw 105 (by decide +kernel) rfl
set_option maxRecDepth 20000 in
theorem oi_X3_3 : Cond.methodLink RX3 3 objectInit ∈ BIG := bw 232 (by decide +kernel) rfl
set_option maxRecDepth 20000 in
theorem oi_X4_3 : Cond.methodLink RX4 3 objectInit ∈ BIG := bw 183 (by decide +kernel) rfl
set_option maxRecDepth 20000 in
theorem oi_X5_3 : Cond.methodLink RX5 3 objectInit ∈ BIG := bw 524 (by decide +kernel) rfl
set_option maxRecDepth 20000 in
theorem oi_X7_1 : Cond.methodLink RX7 1 objectInit ∈ BIG := bw 841 (by decide +kernel) rfl
set_option maxRecDepth 20000 in
theorem oi_Jxa1e45_1 : Cond.methodLink RJxa1e45 1 objectInit ∈ BIG := bw 117 (by decide +kernel) rfl
end
section
/-! memory steps as relations; frames by tags -/
def mU (M : mM) (a : Nat) (x : Nat × mE) (M1 : mM) : Prop := M1 a = some x ∧ ∀ b, b ≠ a → M1 b = M b
theorem mU.up {M : mM} {a : Nat} {x : Nat × mE} : mU M a x (mup M a x) := ⟨mup_s, fun _ h => mup_n h⟩
theorem mU.s {M M1 : mM} {a : Nat} {x : Nat × mE} (h : mU M a x M1) : M1 a = some x := h.1
theorem mU.o {M M1 : mM} {a b t t' : Nat} {x : Nat × mE} {e e' : mE} (h : mU M a x M1) (hA : M a = some (t, e)) (hB : M b = some (t', e')) (hne : t' ≠ t) : M1 b = some (t', e') := by
  rw [h.2 b (fun q => hne (by rw [q, hA] at hB; cases hB; rfl))]
  exact hB
theorem mU.od {M M1 : mM} {a b : Nat} {x y : Nat × mE} (h : mU M a x M1) (hB : M b = some y) (hne : b ≠ a) : M1 b = some y := by
  rw [h.2 b hne]
  exact hB
theorem mU.n {M M1 : mM} {a b : Nat} {x y : Nat × mE} (h : mU M a x M1) (hA : M a = none) (hB : M b = some y) : M1 b = some y := by
  rw [h.2 b (fun q => by rw [q, hA] at hB; cases hB)]
  exact hB
/-- what has no tag of T stays; nothing goes -/
def mZ (T : List Nat) (M M1 : mM) : Prop := (∀ b t e, M b = some (t, e) → t ∉ T → M1 b = some (t, e)) ∧ ∀ b, M1 b = none → M b = none
theorem mZ.rf {T : List Nat} {M : mM} : mZ T M M := ⟨fun _ _ _ h _ => h, fun _ h => h⟩
theorem mZ.tr {T : List Nat} {M M1 M2 : mM} (h1 : mZ T M M1) (h2 : mZ T M1 M2) : mZ T M M2 := ⟨fun b t e h ht => h2.1 b t e (h1.1 b t e h ht) ht, fun b h => h1.2 b (h2.2 b h)⟩
theorem mZ.mono {T T' : List Nat} {M M1 : mM} (h : mZ T M M1) (hT : ∀ t ∈ T, t ∈ T') : mZ T' M M1 := ⟨fun b t e hb ht => h.1 b t e hb (fun q => ht (hT t q)), h.2⟩
theorem mZ.put {T : List Nat} {M0 M M1 : mM} {a t : Nat} {x : Nat × mE} {e : mE} (h : mZ T M0 M) (u : mU M a x M1) (hA : M a = some (t, e)) (ht : t ∈ T) : mZ T M0 M1 := by
  refine ⟨fun b tb eb hb hn => ?_, fun b hb => ?_⟩
  · have h1 := h.1 b tb eb hb hn
    rw [u.2 b (fun q => by rw [q, hA] at h1; cases h1; exact hn ht)]
    exact h1
  · by_cases q : b = a
    · rw [q, u.1] at hb; cases hb
    · rw [u.2 b q] at hb; exact h.2 b hb
theorem mZ.new {T : List Nat} {M0 M M1 : mM} {a : Nat} {x : Nat × mE} (h : mZ T M0 M) (u : mU M a x M1) (hA : M a = none) : mZ T M0 M1 := by
  refine ⟨fun b tb eb hb hn => u.n hA (h.1 b tb eb hb hn), fun b hb => ?_⟩
  by_cases q : b = a
  · rw [q, u.1] at hb; cases hb
  · rw [u.2 b q] at hb; exact h.2 b hb
/-- a cell that the start didn't have -/
theorem mZ.putn {T : List Nat} {M0 M M1 : mM} {a : Nat} {x : Nat × mE} (h : mZ T M0 M) (u : mU M a x M1) (hA : M0 a = none) : mZ T M0 M1 := by
  refine ⟨fun b tb eb hb hn => ?_, fun b hb => ?_⟩
  · rw [u.2 b (fun q => by rw [q, hA] at hb; cases hb)]
    exact h.1 b tb eb hb hn
  · by_cases q : b = a
    · rw [q, u.1] at hb; cases hb
    · rw [u.2 b q] at hb; exact h.2 b hb
theorem mZ.at {T : List Nat} {M M1 : mM} {b t : Nat} {e : mE} (h : mZ T M M1) (hb : M b = some (t, e)) (ht : t ∉ T) : M1 b = some (t, e) := h.1 b t e hb ht
theorem mZ.no {T : List Nat} {M M1 : mM} {b : Nat} (h : mZ T M M1) (hb : M1 b = none) : M b = none := h.2 b hb
theorem s_putU {X : mX} {G : mG} {I : mI} (C : Cx X G I) {bc bs pc : Nat} (q : Nat) {L : List (Option Value)} {st : List Value} {M : mM} {idx ci k a t : Nat} {ty : FieldType} {fs : List Value} {v : Value} (d : decode I.2.1 pc = .ok (.putfield idx, 3)) (e : pc + 3 = q) (hf : mFp I.1.cls idx ci k ty false) (hM : M a = some (t, .inl (ci, fs))) (ht : t ≠ 0) (hn : narrow ty v = v) (hfit : fits ty v = true) (hlen : Nat.ble (k + 1) fs.length = true) {fs' : List Value} (hfs : fs.set k v = fs') (h : ∀ M1, mU M a (t, .inl (ci, fs')) M1 → V X bc bs q L st M1) : V X bc bs pc L (v :: .ref a :: st) M := s_putf C q d e hf hM ht hn hfit hlen (h _ (by rw [← hfs]; exact mU.up))
theorem s_putFU {X : mX} {G : mG} {I : mI} (C : Cx X G I) {bc bs pc : Nat} (q : Nat) {L : List (Option Value)} {st : List Value} {M : mM} {idx ci k a t : Nat} {ty : FieldType} {fs : List Value} {v : Value} (d : decode I.2.1 pc = .ok (.putfield idx, 3)) (e : pc + 3 = q) (hf : mFp I.1.cls idx ci k ty true) (hI : I.1.name = "<init>") (hM : M a = some (t, .inl (ci, fs))) (ht : t ≠ 0) (hn : narrow ty v = v) (hfit : fits ty v = true) (hlen : Nat.ble (k + 1) fs.length = true) {fs' : List Value} (hfs : fs.set k v = fs') (h : ∀ M1, mU M a (t, .inl (ci, fs')) M1 → V X bc bs q L st M1) : V X bc bs pc L (v :: .ref a :: st) M := s_putF C q d e hf hI hM ht hn hfit hlen (h _ (by rw [← hfs]; exact mU.up))
theorem s_iastU {X : mX} {G : mG} {I : mI} (C : Cx X G I) {bc bs pc : Nat} (q : Nat) {L : List (Option Value)} {st : List Value} {M : mM} {a t n : Nat} {f : Nat → Int32} {i : Nat} {x : Int32} (d : decode I.2.1 pc = .ok (.iastore, 1)) (e : pc + 1 = q) (hM : M a = some (t, .inr (0, n, .inl f))) (ht : t ≠ 0) (hi : i < n) (hn : n < 2 ^ 31) (h : ∀ M1, mU M a (t, .inr (0, n, .inl (upd f i x))) M1 → V X bc bs q L st M1) : V X bc bs pc L (.int x :: .int (nI i) :: .ref a :: st) M := s_iast C q d e hM ht hi hn (h _ mU.up)
theorem s_castU {X : mX} {G : mG} {I : mI} (C : Cx X G I) {bc bs pc : Nat} (q : Nat) {L : List (Option Value)} {st : List Value} {M : mM} {a t n : Nat} {f : Nat → Int32} {i : Nat} {x : Int32} (d : decode I.2.1 pc = .ok (.castore, 1)) (e : pc + 1 = q) (hM : M a = some (t, .inr (1, n, .inl f))) (ht : t ≠ 0) (hi : i < n) (hn : n < 2 ^ 31) (hx0 : vp_nar .char x = x) (h : ∀ M1, mU M a (t, .inr (1, n, .inl (upd f i x))) M1 → V X bc bs q L st M1) : V X bc bs pc L (.int x :: .int (nI i) :: .ref a :: st) M := s_cast C q d e hM ht hi hn hx0 (h _ mU.up)
theorem s_aastU {X : mX} {G : mG} {I : mI} (C : Cx X G I) {bc bs pc : Nat} (q : Nat) {L : List (Option Value)} {st : List Value} {M : mM} {a t n kd v tv ci : Nat} {f : Nat → Option Nat} {vs : List Value} {i : Nat} {E : String} {r : vw_C} (d : decode I.2.1 pc = .ok (.aastore, 1)) (e : pc + 1 = q) (hM : M a = some (t, .inr (kd, n, .inr f))) (ht : t ≠ 0) (hkd : kd = 2 ∧ E = "java/lang/Object" ∨ kd = 3 ∧ E = "TitleFinder$State") (hv : M v = some (tv, .inl (ci, vs))) (hci : vwCl[ci]? = some r) (hcs : r.1 = "TitleFinder$Title" ∧ E = "java/lang/Object" ∨ r.1 = E) (hi : i < n) (hn : n < 2 ^ 31) (h : ∀ M1, mU M a (t, .inr (kd, n, .inr (va_up f i (some v)))) M1 → V X bc bs q L st M1) : V X bc bs pc L (.ref v :: .int (nI i) :: .ref a :: st) M := s_aast C q d e hM ht hkd hv hci hcs hi hn (h _ mU.up)
theorem s_aastNU {X : mX} {G : mG} {I : mI} (C : Cx X G I) {bc bs pc : Nat} (q : Nat) {L : List (Option Value)} {st : List Value} {M : mM} {a t n : Nat} {f : Nat → Option Nat} {i : Nat} (d : decode I.2.1 pc = .ok (.aastore, 1)) (e : pc + 1 = q) (hM : M a = some (t, .inr (2, n, .inr f))) (ht : t ≠ 0) (hi : i < n) (hn : n < 2 ^ 31) (h : ∀ M1, mU M a (t, .inr (2, n, .inr (va_up f i none))) M1 → V X bc bs q L st M1) : V X bc bs pc L (.null :: .int (nI i) :: .ref a :: st) M := s_aastN C q d e hM ht hi hn (h _ mU.up)
theorem s_newU {X : mX} {G : mG} {I : mI} (C : Cx X G I) {bc bs pc : Nat} (q bc' bs' tag : Nat) {L : List (Option Value)} {st : List Value} {M : mM} {idx ci : Nat} {fs : List Value} (d : decode I.2.1 pc = .ok (.new idx, 3)) (e : pc + 3 = q) (hn : mN I.1.cls idx ci fs) (ht : tag ≠ 0) (hbc : bc' + 1 ≤ bc) (hbs : bs' + fs.length ≤ bs) (h : ∀ a M1, M a = none → mU M a (tag, .inl (ci, fs)) M1 → V X bc' bs' q L (.ref a :: st) M1) : V X bc bs pc L st M := s_new C q bc' bs' tag d e hn ht hbc hbs (fun a h1 _ => h a _ h1 mU.up)
theorem s_newaU {X : mX} {G : mG} {I : mI} (C : Cx X G I) {bc bs pc : Nat} (q bc' bs' tag : Nat) {L : List (Option Value)} {st : List Value} {M : mM} {at0 : ArrayType} {kd n : Nat} (d : decode I.2.1 pc = .ok (.newarray at0, 2)) (e : pc + 2 = q) (hkd : at0 = .int ∧ kd = 0 ∧ Cond.arrayClass .int ∈ BIG ∨ at0 = .char ∧ kd = 1 ∧ Cond.arrayClass .char ∈ BIG) (hn : n ≤ 100000) (ht : tag ≠ 0) (hbc : bc' + 1 ≤ bc) (hbs : bs' + n ≤ bs) (h : ∀ a M1, M a = none → mU M a (tag, .inr (kd, n, .inl (fun _ => 0))) M1 → V X bc' bs' q L (.ref a :: st) M1) : V X bc bs pc L (.int (nI n) :: st) M := s_newa C q bc' bs' tag d e hkd hn ht hbc hbs (fun a h1 _ => h a _ h1 mU.up)
theorem s_tagU {X : mX} {bc bs pc : Nat} {L : List (Option Value)} {st : List Value} {M : mM} (a t t' : Nat) {e : mE} (ha : M a = some (t, e)) (ht : t ≠ 0) (ht' : t' ≠ 0) (h : ∀ M1, mU M a (t', e) M1 → V X bc bs pc L st M1) : V X bc bs pc L st M := s_tag a t t' ha ht ht' (h _ mU.up)
/-- Object's constructor -/
theorem s_oi {X : mX} {G : mG} {I : mI} (C : Cx X G I) {bc bs pc : Nat} (q : Nat) {L : List (Option Value)} {st : List Value} {M : mM} {idx a : Nat} (d : decode I.2.1 pc = .ok (.invokespecial idx, 3)) (e : pc + 3 = q) (hm : Cond.methodLink I.1.cls idx objectInit ∈ BIG) (hL : L.length = I.2.2.1) (hI : 1 ≤ I.2.2.2.2) (hw : (st.map fun v => v.category).sum ≤ 8) (k : V X bc bs q L st M) : V X bc bs pc L (.ref a :: st) M := by
  obtain ⟨p, e0, R, s, m, args, below, meth, c, Q, mc, ms, G'⟩ := X
  obtain ⟨rfl, hx, hb, hml, hr, hlk, hown, hts, hK, hroom, hini, hS0⟩ := C
  subst e
  intro H locs cells slots ls hR hc' hs hl
  have hlv := lv_room (m := m) (pc := pc) (ls := ls) (rest := st) hw
  refine W.objInit hx hb hown (hts _ hm) (hts _ oi_inst) (hts _ oi_code) rfl (by show ls.size = _; rw [hl.1, hL, hml]) rfl d (by omega) (by have : (2 * (F0 m pc ls (.ref a :: st)).monitorRoom) = 0 := rfl; omega) ?_
  exact k H locs cells slots ls hR hc' hs hl
/-- a local is forgotten -/
theorem V.drop {X : mX} {bc bs pc : Nat} {L : List (Option Value)} {st : List Value} {M : mM} (i : Nat) (h : V X bc bs pc (L.set i none) st M) : V X bc bs pc L st M := by
  obtain ⟨p, e, R, s, m, args, below, meth, c, Q, mc, ms, G⟩ := X
  intro H locs cells slots ls hR hc hs hl
  refine h H locs cells slots ls hR hc hs ?_
  unfold mL at hl ⊢
  rw [List.length_set]
  refine ⟨hl.1, hl.2.1, fun q hq => hl.2.2 q ?_⟩
  have h1 : (L.set i none)[q.1]? = some (some q.2) := mP_mem.mp hq
  refine mP_mem.mpr ?_
  by_cases e : i = q.1
  · have hlt : q.1 < (L.set i none).length := (List.getElem?_eq_some_iff.mp h1).1
    rw [List.length_set] at hlt
    rw [← e] at hlt h1
    rw [List.getElem?_set_self hlt] at h1
    cases h1
  · rwa [List.getElem?_set_ne e] at h1
end
section
/-! pure words: runs of equal characters -/
def sl (f g : Nat → Int32) (n m : Nat) : Nat → Nat → Nat → Nat
  | _, _, 0 => 0
  | i, j, k + 1 => if i < n ∧ j < m ∧ f i = g j then sl f g n m (i + 1) (j + 1) k + 1 else 0
theorem sl_stop {f g : Nat → Int32} {n m i j k : Nat} (h : k = 0 ∨ n ≤ i ∨ m ≤ j ∨ ¬ f i = g j) : sl f g n m i j k = 0 := by
  cases k with
  | zero => rfl
  | succ k =>
    rw [sl, if_neg]
    rintro ⟨h1, h2, h3⟩
    rcases h with h | h | h | h
    · cases h
    · omega
    · omega
    · exact h h3
theorem sl_step {f g : Nat → Int32} {n m i j k : Nat} (hk : 0 < k) (hi : i < n) (hj : j < m) (h : f i = g j) : sl f g n m i j k = sl f g n m (i + 1) (j + 1) (k - 1) + 1 := by
  cases k with
  | zero => omega
  | succ k => rw [sl, if_pos ⟨hi, hj, h⟩]; rfl
theorem sl_le {f g : Nat → Int32} {n m : Nat} : ∀ (k i j : Nat), sl f g n m i j k ≤ k := by
  intro k
  induction k with
  | zero => intro i j; exact Nat.le_refl _
  | succ k ih =>
    intro i j
    rw [sl]
    split
    · exact Nat.succ_le_succ (ih _ _)
    · exact Nat.zero_le _
/-- at least r are the same -/
theorem sl_ge {f g : Nat → Int32} {n m : Nat} : ∀ (k i j r : Nat), r ≤ sl f g n m i j k ↔ r ≤ k ∧ ∀ x, x < r → i + x < n ∧ j + x < m ∧ f (i + x) = g (j + x) := by
  intro k
  induction k with
  | zero =>
    intro i j r
    rw [sl]
    constructor
    · intro h; exact ⟨h, fun x hx => by omega⟩
    · intro h; exact h.1
  | succ k ih =>
    intro i j r
    rw [sl]
    split
    · rename_i hc
      cases r with
      | zero => constructor <;> intro _ <;> first | exact ⟨Nat.zero_le _, fun x hx => by omega⟩ | exact Nat.zero_le _
      | succ r =>
        rw [Nat.succ_le_succ_iff, ih]
        constructor
        · rintro ⟨h1, h2⟩
          refine ⟨by omega, fun x hx => ?_⟩
          cases x with
          | zero => simpa using hc
          | succ x =>
            have := h2 x (by omega)
            rw [show i + (x + 1) = i + 1 + x by omega, show j + (x + 1) = j + 1 + x by omega]
            exact this
        · rintro ⟨h1, h2⟩
          refine ⟨by omega, fun x hx => ?_⟩
          have := h2 (x + 1) (by omega)
          rw [show i + (x + 1) = i + 1 + x by omega, show j + (x + 1) = j + 1 + x by omega] at this
          exact this
    · rename_i hc
      constructor
      · intro h; exact ⟨by omega, fun x hx => by omega⟩
      · rintro ⟨h1, h2⟩
        cases r with
        | zero => exact Nat.le_refl _
        | succ r => exact absurd (by simpa using h2 0 (by omega)) hc
/-! pure words: titles, pieces -/
theorem rT {b : Bool} (h : b = true) : some (Value.int (nI 1)) = some (Value.int (mB b)) := by rw [h]; rfl
theorem rF {b : Bool} (h : b = false) : some (Value.int (nI 0)) = some (Value.int (mB b)) := by rw [h]; rfl
/-- the first place from p on, of k places -/
def fnd (P : Nat → Bool) : Nat → Nat → Option Nat
  | _, 0 => none
  | p, k + 1 => if P p = true then some p else fnd P (p + 1) k
def oI : Option Nat → Int32
  | none => -6
  | some p => nI p
theorem fnd_none {P : Nat → Bool} : ∀ (k p : Nat), fnd P p k = none ↔ ∀ x, p ≤ x → x < p + k → P x = false := by
  intro k
  induction k with
  | zero => intro p; exact ⟨fun _ x h1 h2 => by omega, fun _ => rfl⟩
  | succ k ih =>
    intro p
    rw [fnd]
    split
    · rename_i h
      constructor
      · intro q; cases q
      · intro q
        have := q p (Nat.le_refl _) (by omega)
        rw [h] at this
        cases this
    · rename_i h
      rw [ih]
      constructor
      · intro q x h1 h2
        by_cases e : x = p
        · subst e; simpa using h
        · exact q x (by omega) (by omega)
      · intro q x h1 h2
        exact q x (by omega) (by omega)
theorem fnd_some {P : Nat → Bool} : ∀ (k p x : Nat), fnd P p k = some x ↔ p ≤ x ∧ x < p + k ∧ P x = true ∧ ∀ y, p ≤ y → y < x → P y = false := by
  intro k
  induction k with
  | zero =>
    intro p x
    constructor
    · intro h; cases h
    · intro h; omega
  | succ k ih =>
    intro p x
    rw [fnd]
    split
    · rename_i h
      constructor
      · intro q; cases q; exact ⟨Nat.le_refl _, by omega, h, fun y h1 h2 => by omega⟩
      · rintro ⟨h1, h2, h3, h4⟩
        by_cases e : x = p
        · rw [e]
        · have := h4 p (Nat.le_refl _) (by omega)
          rw [h] at this
          cases this
    · rename_i h
      rw [ih]
      constructor
      · rintro ⟨h1, h2, h3, h4⟩
        refine ⟨by omega, by omega, h3, fun y g1 g2 => ?_⟩
        by_cases e : y = p
        · subst e; simpa using h
        · exact h4 y (by omega) g2
      · rintro ⟨h1, h2, h3, h4⟩
        by_cases e : x = p
        · subst e; exact absurd h3 h
        · exact ⟨by omega, by omega, h3, fun y g1 g2 => h4 y (by omega) g2⟩
/-- the first steps of fnd -/
theorem fnd_step {P : Nat → Bool} {p k : Nat} (hk : 0 < k) (h : P p = false) : fnd P p k = fnd P (p + 1) (k - 1) := by
  cases k with
  | zero => omega
  | succ k => rw [fnd, if_neg (by rw [h]; decide)]; rfl
theorem fnd_hit {P : Nat → Bool} {p k : Nat} (hk : 0 < k) (h : P p = true) : fnd P p k = some p := by
  cases k with
  | zero => omega
  | succ k => rw [fnd, if_pos h]
theorem fnd_cong {P Q : Nat → Bool} : ∀ (k p : Nat), (∀ x, p ≤ x → x < p + k → P x = Q x) → fnd P p k = fnd Q p k := by
  intro k
  induction k with
  | zero => intro p _; rfl
  | succ k ih =>
    intro p h
    rw [fnd, fnd, h p (Nat.le_refl _) (by omega), ih (p + 1) (fun x h1 h2 => h x (by omega) (by omega))]
/-- whether a piece may start at p: of a title of n letters f, m initials -/
def spB (mo n m : Nat) (f : Nat → Int32) (p : Nat) : Bool :=
  if mo = 3 then decide (p < m) else decide (p < n) && (if mo = 1 then decide (p = 0) else if mo = 2 then decide (p = 0 ∨ f (p - 1) = nI 32) else decide (f p ≠ nI 32))
/-- what pieces are cut from -/
def rN (mo n m : Nat) : Nat := if mo = 3 then m else n
def rG (mo : Nat) (f ini : Nat → Int32) : Nat → Int32 := if mo = 3 then ini else f
def mtB (q r : Nat → Int32) (len p : Nat) : Bool := decide (∀ x, x < len → q x = r (p + x))
/-- the place of the first len characters of q in a title -/
def plc (mo n m : Nat) (f ini q : Nat → Int32) (len : Nat) : Option Nat := fnd (fun p => spB mo n m f p && mtB q (rG mo f ini) len p) 0 (rN mo n m + 1 - len)
theorem sl_full {q r : Nat → Int32} {a b p len : Nat} (h1 : len ≤ a) (h2 : p + len ≤ b) : sl q r a b 0 p len = len ↔ mtB q r len p = true := by
  unfold mtB
  rw [decide_eq_true_eq]
  have h := sl_ge (f := q) (g := r) (n := a) (m := b) len 0 p len
  constructor
  · intro e
    have := (h.mp (by omega)).2
    intro x hx
    have := (this x hx).2.2
    rwa [Nat.zero_add] at this
  · intro g
    have := h.mpr ⟨Nat.le_refl _, fun x hx => ⟨by omega, by omega, by rw [Nat.zero_add]; exact g x hx⟩⟩
    have := sl_le (f := q) (g := r) (n := a) (m := b) len 0 p
    omega
/-- the longest common run -/
def cmJ (f g : Nat → Int32) (n m i : Nat) : Nat → Nat
  | 0 => 0
  | j + 1 => max (cmJ f g n m i j) (sl f g n m i j 24)
def cmI (f g : Nat → Int32) (n m : Nat) : Nat → Nat
  | 0 => 0
  | i + 1 => max (cmI f g n m i) (cmJ f g n m i m)
theorem cmJ_le {f g : Nat → Int32} {n m i : Nat} : ∀ j, cmJ f g n m i j ≤ 24
  | 0 => Nat.zero_le _
  | j + 1 => Nat.max_le.mpr ⟨cmJ_le j, sl_le _ _ _⟩
theorem cmI_le {f g : Nat → Int32} {n m : Nat} : ∀ i, cmI f g n m i ≤ 24
  | 0 => Nat.zero_le _
  | i + 1 => Nat.max_le.mpr ⟨cmI_le i, cmJ_le _⟩
/-- by name -/
def nb (f g : Nat → Int32) (n m : Nat) : Nat → Nat → Bool
  | _, 0 => decide (n < m)
  | k, fuel + 1 => if k < n ∧ k < m then (if f k = g k then nb f g n m (k + 1) fuel else decide (f k < g k)) else decide (n < m)
/-- blanks, beginnings of words -/
def cnB (f : Nat → Int32) : Nat → Nat
  | 0 => 0
  | k + 1 => cnB f k + (if f k = nI 32 then 1 else 0)
def wsB (f : Nat → Int32) (k : Nat) : Bool := decide (k = 0 ∨ f (k - 1) = nI 32)
def wsN (f : Nat → Int32) : Nat → Nat
  | 0 => 0
  | k + 1 => wsN f k + (if wsB f k = true then 1 else 0)
theorem cnB_le {f : Nat → Int32} : ∀ k, cnB f k ≤ k
  | 0 => Nat.le_refl _
  | k + 1 => by have := cnB_le (f := f) k; rw [cnB]; split <;> omega
theorem cnB_mono {f : Nat → Int32} {a : Nat} : ∀ b, a ≤ b → cnB f a ≤ cnB f b := by
  intro b h
  induction b with
  | zero => rw [Nat.le_zero.mp h]; exact Nat.le_refl _
  | succ b ih =>
    by_cases e : a = b + 1
    · rw [e]; exact Nat.le_refl _
    · have := ih (by omega); rw [cnB]; omega
theorem wsN_cnB {f : Nat → Int32} : ∀ k, wsN f (k + 1) = cnB f k + 1 := by
  intro k
  induction k with
  | zero => rfl
  | succ k ih =>
    rw [wsN, ih, cnB]
    unfold wsB
    by_cases h : f k = nI 32
    · simp [h]
    · simp [h]
theorem wsN_mono {f : Nat → Int32} {a : Nat} : ∀ b, a ≤ b → wsN f a ≤ wsN f b := by
  intro b h
  induction b with
  | zero => rw [Nat.le_zero.mp h]; exact Nat.le_refl _
  | succ b ih =>
    by_cases e : a = b + 1
    · rw [e]; exact Nat.le_refl _
    · have := ih (by omega); rw [wsN]; omega
theorem wsN_lt {f : Nat → Int32} {a b : Nat} (h : a < b) (ha : wsB f a = true) : wsN f a < wsN f b := by
  have h1 : wsN f (a + 1) = wsN f a + 1 := by rw [wsN, if_pos ha]
  have := wsN_mono (f := f) b (show a + 1 ≤ b from h)
  omega
/-- a title's cells: the object, its letters, its initials -/
def tR (M : mM) (a n : Nat) (f : Nat → Int32) (m : Nat) (ini : Nat → Int32) (u : Int32) : Prop := ∃ la ia, M a = some (1, .inl (6, [.ref la, .ref ia, .int u])) ∧ M la = some (1, .inr (1, n, .inl f)) ∧ M ia = some (1, .inr (1, m, .inl ini))
theorem tR.at {T : List Nat} {M M1 : mM} {a n m : Nat} {f ini : Nat → Int32} {u : Int32} (hF : mZ T M M1) (hT : 1 ∉ T) (h : tR M a n f m ini u) : tR M1 a n f m ini u := by
  obtain ⟨la, ia, h1, h2, h3⟩ := h
  exact ⟨la, ia, hF.at h1 hT, hF.at h2 hT, hF.at h3 hT⟩
theorem nb_stop {f g : Nat → Int32} {n m k fuel : Nat} (h : n ≤ k ∨ m ≤ k) : nb f g n m k fuel = decide (n < m) := by
  cases fuel with
  | zero => rfl
  | succ z => rw [nb, if_neg (by omega)]
theorem nb_ne {f g : Nat → Int32} {n m k fuel : Nat} (h0 : 0 < fuel) (h1 : k < n) (h2 : k < m) (h3 : ¬ f k = g k) : nb f g n m k fuel = decide (f k < g k) := by
  cases fuel with
  | zero => omega
  | succ z => rw [nb, if_pos ⟨h1, h2⟩, if_neg h3]
theorem nb_eq {f g : Nat → Int32} {n m k fuel : Nat} (h0 : 0 < fuel) (h1 : k < n) (h2 : k < m) (h3 : f k = g k) : nb f g n m k fuel = nb f g n m (k + 1) (fuel - 1) := by
  cases fuel with
  | zero => omega
  | succ z => rw [nb, if_pos ⟨h1, h2⟩, if_pos h3]; rfl
theorem i32_nle {x y : Int32} : ¬ y ≤ x ↔ x < y := by rw [Int32.le_iff_toInt_le, Int32.lt_iff_toInt_lt]; omega
theorem i32_le {x y : Int32} : y ≤ x ↔ ¬ x < y := by rw [Int32.le_iff_toInt_le, Int32.lt_iff_toInt_lt]; omega
/-- the same letters -/
def eqT (f g : Nat → Int32) (n m : Nat) : Bool := decide (n = m) && mtB f g n 0
/-- what holds of the row of initials -/
def inT (f ini : Nat → Int32) (n : Nat) : Prop := ∀ k, k < n → wsB f k = true → ini (wsN f k) = f k
end
section
set_option maxRecDepth 100000 in
set_option maxHeartbeats 4000000 in
/-- Title.sameLength -/
theorem c_sameLength {G : mG} {M : mM} {a b ta tb n m i j k : Nat} {f g : Nat → Int32} (hA : M a = some (ta, .inr (1, n, .inl f))) (hB : M b = some (tb, .inr (1, m, .inl g))) (hn : n < 100000) (hm : m < 100000) (hi : i < 100000) (hj : j < 100000) (hk : k < 100000) : CC G iX5_sameLength 0 0 [.ref a, .int (nI i), .ref b, .int (nI j), .int (nI k)] M (fun r M1 => r = some (.int (nI (sl f g n m i j k))) ∧ M = M1) := by
  refine CC.of rfl (Nat.le_of_ble_eq_true rfl) rfl (fun X C T => ?_)
  show V X 0 0 0 [some (.ref a), some (.int (nI i)), some (.ref b), some (.int (nI j)), some (.int (nI k)), none] [] M
  refine s_iconst C 1 (nI 0) dX5_sameLength_0 rfl (by decide) ?_
  refine s_istore C 3 dX5_sameLength_1 rfl rfl rfl ?_
  dsimp only [List.set]
  suffices lp3 : ∀ (fu3 : Nat) (s : Nat), k - s < fu3 → s ≤ k → sl f g n m i j k = s + sl f g n m (i + s) (j + s) (k - s) → V X 0 0 3 [some (.ref a), some (.int (nI i)), some (.ref b), some (.int (nI j)), some (.int (nI k)), some (.int (nI s))] [] M from lp3 (k + 1) 0 (by omega) (by omega) (by rw [Nat.zero_add, Nat.add_zero, Nat.add_zero, Nat.sub_zero])
  intro fu3
  induction fu3 with
  | zero => intro s hs0 hsk hs; omega
  | succ fu3 ih3 =>
    intro s hs0 hsk hs
    refine s_iload C 5 dX5_sameLength_3 rfl rfl ?_
    refine s_iload C 7 dX5_sameLength_5 rfl rfl ?_
    refine s_icmp_geN C 49 10 dX5_sameLength_7 (by decide) rfl (by omega) (by omega) (fun z7 => ?_) (fun z7 => ?_)
    · skip
      have hz : sl f g n m (i + s) (j + s) (k - s) = 0 := sl_stop (by omega)
      refine s_iload C 51 dX5_sameLength_49 rfl rfl ?_
      exact s_iret C dX5_sameLength_51 T rfl ⟨by rw [hs, hz, Nat.add_zero], rfl⟩
    · skip
      refine s_iload_n C 11 dX5_sameLength_10 rfl rfl ?_
      refine s_iload C 13 dX5_sameLength_11 rfl rfl ?_
      refine s_iaddN C 14 dX5_sameLength_13 rfl ?_
      refine s_aload_n C 15 dX5_sameLength_14 rfl rfl ?_
      refine s_alen C 16 dX5_sameLength_15 rfl hA (by decide) ?_
      refine s_icmp_geN C 49 19 dX5_sameLength_16 (by decide) rfl (by omega) (by omega) (fun z16 => ?_) (fun z16 => ?_)
      · skip
        have hz : sl f g n m (i + s) (j + s) (k - s) = 0 := sl_stop (by omega)
        refine s_iload C 51 dX5_sameLength_49 rfl rfl ?_
        exact s_iret C dX5_sameLength_51 T rfl ⟨by rw [hs, hz, Nat.add_zero], rfl⟩
      · skip
        refine s_iload_n C 20 dX5_sameLength_19 rfl rfl ?_
        refine s_iload C 22 dX5_sameLength_20 rfl rfl ?_
        refine s_iaddN C 23 dX5_sameLength_22 rfl ?_
        refine s_aload_n C 24 dX5_sameLength_23 rfl rfl ?_
        refine s_alen C 25 dX5_sameLength_24 rfl hB (by decide) ?_
        refine s_icmp_geN C 49 28 dX5_sameLength_25 (by decide) rfl (by omega) (by omega) (fun z25 => ?_) (fun z25 => ?_)
        · skip
          have hz : sl f g n m (i + s) (j + s) (k - s) = 0 := sl_stop (by omega)
          refine s_iload C 51 dX5_sameLength_49 rfl rfl ?_
          exact s_iret C dX5_sameLength_51 T rfl ⟨by rw [hs, hz, Nat.add_zero], rfl⟩
        · skip
          refine s_aload_n C 29 dX5_sameLength_28 rfl rfl ?_
          refine s_iload_n C 30 dX5_sameLength_29 rfl rfl ?_
          refine s_iload C 32 dX5_sameLength_30 rfl rfl ?_
          refine s_iaddN C 33 dX5_sameLength_32 rfl ?_
          refine s_cald C 34 dX5_sameLength_33 rfl hA (by omega) (by omega) ?_
          refine s_aload_n C 35 dX5_sameLength_34 rfl rfl ?_
          refine s_iload_n C 36 dX5_sameLength_35 rfl rfl ?_
          refine s_iload C 38 dX5_sameLength_36 rfl rfl ?_
          refine s_iaddN C 39 dX5_sameLength_38 rfl ?_
          refine s_cald C 40 dX5_sameLength_39 rfl hB (by omega) (by omega) ?_
          refine s_icmp_ne C 49 43 dX5_sameLength_40 (by decide) rfl (fun z40 => ?_) (fun z40 => ?_)
          · skip
            have hz : sl f g n m (i + s) (j + s) (k - s) = 0 := sl_stop (Or.inr (Or.inr (Or.inr z40)))
            refine s_iload C 51 dX5_sameLength_49 rfl rfl ?_
            exact s_iret C dX5_sameLength_51 T rfl ⟨by rw [hs, hz, Nat.add_zero], rfl⟩
          · skip
            refine s_iinc C 46 (nI (s + 1)) dX5_sameLength_43 rfl rfl (by rw [← nI_add]; rfl) rfl ?_
            dsimp only [List.set]
            refine s_goto C 3 dX5_sameLength_46 (by decide) ?_
            exact ih3 (s + 1) (by omega) (by omega) (by rw [hs, sl_step (by omega) (by omega) (by omega) z40, show i + s + 1 = i + (s + 1) by omega, show j + s + 1 = j + (s + 1) by omega, show k - s - 1 = k - (s + 1) by omega]; omega)

set_option maxRecDepth 100000 in
set_option maxHeartbeats 4000000 in
/-- Title.run -/
theorem c_run {G : mG} {M : mM} {a la ia n m : Nat} {f ini : Nat → Int32} {u : Int32} {mo : Nat} (hO : M a = some (1, .inl (6, [.ref la, .ref ia, .int u]))) (hL : M la = some (1, .inr (1, n, .inl f))) (hI : M ia = some (1, .inr (1, m, .inl ini))) (hm : mo < 100) : CC G iX5_run 0 0 [.ref a, .int (nI mo)] M (fun r M1 => r = some (.ref (if mo = 3 then ia else la)) ∧ M = M1) := by
  refine CC.of rfl (Nat.le_of_ble_eq_true rfl) rfl (fun X C T => ?_)
  show V X 0 0 0 [some (.ref a), some (.int (nI mo))] [] M
  refine s_iload_n C 1 dX5_run_0 rfl rfl ?_
  refine s_iconst C 2 (nI 3) dX5_run_1 rfl (by decide) ?_
  refine s_icmp_neN C 12 5 dX5_run_2 (by decide) rfl (by omega) (by omega) (fun z2 => ?_) (fun z2 => ?_)
  · skip
    refine s_aload_n C 13 dX5_run_12 rfl rfl ?_
    refine s_getf C 16 dX5_run_13 rfl f_X5_9 hO rfl ?_
    exact s_aret C dX5_run_16 T rfl (Or.inr ⟨_, rfl⟩) ⟨by simp [z2], rfl⟩
  · skip
    refine s_aload_n C 6 dX5_run_5 rfl rfl ?_
    refine s_getf C 9 dX5_run_6 rfl f_X5_15 hO rfl ?_
    refine s_goto C 16 dX5_run_9 (by decide) ?_
    exact s_aret C dX5_run_16 T rfl (Or.inr ⟨_, rfl⟩) ⟨by simp [z2], rfl⟩

set_option maxRecDepth 100000 in
set_option maxHeartbeats 4000000 in
/-- Title.startsPiece -/
theorem c_startsPiece {G : mG} {M : mM} {a la ia n m : Nat} {f ini : Nat → Int32} {u : Int32} {mo p : Nat} (hO : M a = some (1, .inl (6, [.ref la, .ref ia, .int u]))) (hL : M la = some (1, .inr (1, n, .inl f))) (hI : M ia = some (1, .inr (1, m, .inl ini))) (hn : n < 100000) (hm : m < 100000) (hmo : mo < 100) (hp : p < 100000) : CC G iX5_startsPiece 0 0 [.ref a, .int (nI mo), .int (nI p)] M (fun r M1 => r = some (.int (mB (spB mo n m f p))) ∧ M = M1) := by
  refine CC.of rfl (Nat.le_of_ble_eq_true rfl) rfl (fun X C T => ?_)
  show V X 0 0 0 [some (.ref a), some (.int (nI mo)), some (.int (nI p))] [] M
  refine s_iload_n C 1 dX5_startsPiece_0 rfl rfl ?_
  refine s_iconst C 2 (nI 3) dX5_startsPiece_1 rfl (by decide) ?_
  refine s_icmp_neN C 24 5 dX5_startsPiece_2 (by decide) rfl (by omega) (by omega) (fun z2 => ?_) (fun z2 => ?_)
  · skip
    refine s_iload_n C 25 dX5_startsPiece_24 rfl rfl ?_
    refine s_if_ltN C 28 (t := 37) dX5_startsPiece_25 (by decide) rfl (by omega) ?_
    refine s_iload_n C 29 dX5_startsPiece_28 rfl rfl ?_
    refine s_aload_n C 30 dX5_startsPiece_29 rfl rfl ?_
    refine s_getf C 33 dX5_startsPiece_30 rfl f_X5_9 hO rfl ?_
    refine s_alen C 34 dX5_startsPiece_33 rfl hL (by decide) ?_
    refine s_icmp_ltN C 39 37 dX5_startsPiece_34 (by decide) rfl (by omega) (by omega) (fun z34 => ?_) (fun z34 => ?_)
    · skip
      refine s_iload_n C 40 dX5_startsPiece_39 rfl rfl ?_
      by_cases w40_1 : mo = 1
      · skip
        refine s_look C 68 dX5_startsPiece_40 (by decide) (off := 28) (by rw [w40_1]; rfl) (by decide) ?_
        refine s_iload_n C 69 dX5_startsPiece_68 rfl rfl ?_
        refine s_if_neN C 76 72 dX5_startsPiece_69 (by decide) rfl (by omega) (fun z69 => ?_) (fun z69 => ?_)
        · skip
          refine s_iconst C 77 (nI 0) dX5_startsPiece_76 rfl (by decide) ?_
          exact s_zret C dX5_startsPiece_77 T rfl (by decide) ⟨rF (by simp [spB, *] <;> omega), rfl⟩
        · skip
          refine s_iconst C 73 (nI 1) dX5_startsPiece_72 rfl (by decide) ?_
          refine s_goto C 77 dX5_startsPiece_73 (by decide) ?_
          exact s_zret C dX5_startsPiece_77 T rfl (by decide) ⟨rT (by simp [spB, *] <;> omega), rfl⟩
      by_cases w40_2 : mo = 2
      · skip
        refine s_look C 78 dX5_startsPiece_40 (by decide) (off := 38) (by rw [w40_2]; rfl) (by decide) ?_
        refine s_iload_n C 79 dX5_startsPiece_78 rfl rfl ?_
        refine s_if_eqN C 95 82 dX5_startsPiece_79 (by decide) rfl (by omega) (fun z79 => ?_) (fun z79 => ?_)
        · skip
          refine s_iconst C 96 (nI 1) dX5_startsPiece_95 rfl (by decide) ?_
          refine s_goto C 100 dX5_startsPiece_96 (by decide) ?_
          exact s_zret C dX5_startsPiece_100 T rfl (by decide) ⟨rT (by simp [spB, *] <;> omega), rfl⟩
        · skip
          refine s_aload_n C 83 dX5_startsPiece_82 rfl rfl ?_
          refine s_getf C 86 dX5_startsPiece_83 rfl f_X5_9 hO rfl ?_
          refine s_iload_n C 87 dX5_startsPiece_86 rfl rfl ?_
          refine s_iconst C 88 (nI 1) dX5_startsPiece_87 rfl (by decide) ?_
          refine s_isubN C 89 dX5_startsPiece_88 rfl (by omega) ?_
          refine s_cald C 90 dX5_startsPiece_89 rfl hL (by omega) (by omega) ?_
          refine s_bipush C 92 (nI 32) dX5_startsPiece_90 rfl (by decide) ?_
          refine s_icmp_ne C 99 95 dX5_startsPiece_92 (by decide) rfl (fun z92 => ?_) (fun z92 => ?_)
          · skip
            refine s_iconst C 100 (nI 0) dX5_startsPiece_99 rfl (by decide) ?_
            exact s_zret C dX5_startsPiece_100 T rfl (by decide) ⟨rF (by simp [spB, *] <;> omega), rfl⟩
          · skip
            refine s_iconst C 96 (nI 1) dX5_startsPiece_95 rfl (by decide) ?_
            refine s_goto C 100 dX5_startsPiece_96 (by decide) ?_
            exact s_zret C dX5_startsPiece_100 T rfl (by decide) ⟨rT (by simp [spB, *] <;> omega), rfl⟩
      refine s_look C 101 dX5_startsPiece_40 (by decide) (off := 61) (by show Op.lookupswitch.offset (_ :: _) _ _ = _; rw [lv_osw (k := nI 1) (fun h => w40_1 ((nI_eq (by omega) (by omega)).mp h)) (by decide), lv_osw (k := nI 2) (fun h => w40_2 ((nI_eq (by omega) (by omega)).mp h)) (by decide)]; rfl) (by decide) ?_
      refine s_aload_n C 102 dX5_startsPiece_101 rfl rfl ?_
      refine s_getf C 105 dX5_startsPiece_102 rfl f_X5_9 hO rfl ?_
      refine s_iload_n C 106 dX5_startsPiece_105 rfl rfl ?_
      refine s_cald C 107 dX5_startsPiece_106 rfl hL (by omega) (by omega) ?_
      refine s_bipush C 109 (nI 32) dX5_startsPiece_107 rfl (by decide) ?_
      refine s_icmp_eq C 116 112 dX5_startsPiece_109 (by decide) rfl (fun z109 => ?_) (fun z109 => ?_)
      · skip
        refine s_iconst C 117 (nI 0) dX5_startsPiece_116 rfl (by decide) ?_
        exact s_zret C dX5_startsPiece_117 T rfl (by decide) ⟨rF (by simp [spB, *] <;> omega), rfl⟩
      · skip
        refine s_iconst C 113 (nI 1) dX5_startsPiece_112 rfl (by decide) ?_
        refine s_goto C 117 dX5_startsPiece_113 (by decide) ?_
        exact s_zret C dX5_startsPiece_117 T rfl (by decide) ⟨rT (by simp [spB, *] <;> omega), rfl⟩
    · skip
      refine s_iconst C 38 (nI 0) dX5_startsPiece_37 rfl (by decide) ?_
      exact s_zret C dX5_startsPiece_38 T rfl (by decide) ⟨rF (by simp [spB, *] <;> omega), rfl⟩
  · skip
    refine s_iload_n C 6 dX5_startsPiece_5 rfl rfl ?_
    refine s_if_ltN C 9 (t := 22) dX5_startsPiece_6 (by decide) rfl (by omega) ?_
    refine s_iload_n C 10 dX5_startsPiece_9 rfl rfl ?_
    refine s_aload_n C 11 dX5_startsPiece_10 rfl rfl ?_
    refine s_getf C 14 dX5_startsPiece_11 rfl f_X5_15 hO rfl ?_
    refine s_alen C 15 dX5_startsPiece_14 rfl hI (by decide) ?_
    refine s_icmp_geN C 22 18 dX5_startsPiece_15 (by decide) rfl (by omega) (by omega) (fun z15 => ?_) (fun z15 => ?_)
    · skip
      refine s_iconst C 23 (nI 0) dX5_startsPiece_22 rfl (by decide) ?_
      exact s_zret C dX5_startsPiece_23 T rfl (by decide) ⟨rF (by simp [spB, *] <;> omega), rfl⟩
    · skip
      refine s_iconst C 19 (nI 1) dX5_startsPiece_18 rfl (by decide) ?_
      refine s_goto C 23 dX5_startsPiece_19 (by decide) ?_
      exact s_zret C dX5_startsPiece_23 T rfl (by decide) ⟨rT (by simp [spB, *] <;> omega), rfl⟩

set_option maxRecDepth 100000 in
set_option maxHeartbeats 4000000 in
/-- Title.placeOf -/
theorem c_placeOf {G : mG} {M : mM} {a la ia n m : Nat} {f ini : Nat → Int32} {u : Int32} {b tq qn len mo : Nat} {q : Nat → Int32} (hO : M a = some (1, .inl (6, [.ref la, .ref ia, .int u]))) (hL : M la = some (1, .inr (1, n, .inl f))) (hI : M ia = some (1, .inr (1, m, .inl ini))) (hQ : M b = some (tq, .inr (1, qn, .inl q))) (hn : n < 100000) (hm : m < 100000) (hqn : qn < 100000) (hmo : mo < 100) (hlen : len ≤ qn) : CC G iX5_placeOf 0 0 [.ref a, .ref b, .int (nI len), .int (nI mo)] M (fun r M1 => r = some (.int (oI (plc mo n m f ini q len))) ∧ M = M1) := by
  refine CC.of rfl (Nat.le_of_ble_eq_true rfl) rfl (fun X C T => ?_)
  show V X 0 0 0 [some (.ref a), some (.ref b), some (.int (nI len)), some (.int (nI mo)), none, none] [] M
  refine s_aload_n C 1 dX5_placeOf_0 rfl rfl ?_
  refine s_iload_n C 2 dX5_placeOf_1 rfl rfl ?_
  refine s_invV C 5 0 0 [] (mRv_of hO rfl) dX5_placeOf_2 rfl m_X5_33 (c_run hO hL hI hmo) rfl rfl rfl ⟨by decide, by decide⟩ (Nat.le_of_ble_eq_true rfl) (by omega) (by omega) ?_
  rintro _ M1 ⟨rfl, rfl⟩
  dsimp only [Option.toList, List.cons_append, List.nil_append]
  have hR : M (if mo = 3 then ia else la) = some (1, .inr (1, rN mo n m, .inl (rG mo f ini))) := by unfold rN rG; split <;> assumption
  have hN : rN mo n m < 100000 := by unfold rN; split <;> assumption
  refine s_astore C 7 dX5_placeOf_5 rfl rfl rfl ?_
  dsimp only [List.set]
  refine s_iconst C 8 (nI 0) dX5_placeOf_7 rfl (by decide) ?_
  refine s_istore C 10 dX5_placeOf_8 rfl rfl rfl ?_
  dsimp only [List.set]
  suffices lp10 : ∀ (fu10 : Nat) (p : Nat), rN mo n m + 2 - p < fu10 → p ≤ rN mo n m + 1 → plc mo n m f ini q len = fnd (fun p => spB mo n m f p && mtB q (rG mo f ini) len p) p (rN mo n m + 1 - len - p) → V X 0 0 10 [some (.ref a), some (.ref b), some (.int (nI len)), some (.int (nI mo)), some (.ref (if mo = 3 then ia else la)), some (.int (nI p))] [] M from lp10 (rN mo n m + 3) 0 (by omega) (by omega) rfl
  intro fu10
  induction fu10 with
  | zero => intro p hm0 hp2 hp; omega
  | succ fu10 ih10 =>
    intro p hm0 hp2 hp
    refine s_iload C 12 dX5_placeOf_10 rfl rfl ?_
    refine s_iload_n C 13 dX5_placeOf_12 rfl rfl ?_
    refine s_iaddN C 14 dX5_placeOf_13 rfl ?_
    refine s_aload C 16 dX5_placeOf_14 rfl rfl ?_
    refine s_alen C 17 dX5_placeOf_16 rfl hR (by decide) ?_
    refine s_icmp_gtN C 53 20 dX5_placeOf_17 (by decide) rfl (by omega) (by omega) (fun z17 => ?_) (fun z17 => ?_)
    · skip
      have hz : plc mo n m f ini q len = none := by rw [hp, show rN mo n m + 1 - len - p = 0 by omega]; rfl
      refine s_bipush C 55 (-6) dX5_placeOf_53 rfl (by decide) ?_
      exact s_iret C dX5_placeOf_55 T rfl ⟨by rw [hz]; rfl, rfl⟩
    · skip
      refine s_aload_n C 21 dX5_placeOf_20 rfl rfl ?_
      refine s_iload_n C 22 dX5_placeOf_21 rfl rfl ?_
      refine s_iload C 24 dX5_placeOf_22 rfl rfl ?_
      refine s_invV C 27 0 0 [] (mRv_of hO rfl) dX5_placeOf_24 rfl m_X5_37 (c_startsPiece (p := p) hO hL hI hn hm hmo (by omega)) rfl rfl rfl ⟨by decide, by decide⟩ (Nat.le_of_ble_eq_true rfl) (by omega) (by omega) ?_
      rintro _ M2 ⟨rfl, rfl⟩
      dsimp only [Option.toList, List.cons_append, List.nil_append]
      refine s_if_eqB C 47 30 dX5_placeOf_27 (by decide) rfl (fun z27 => ?_) (fun z27 => ?_)
      · skip
        have hz : (fun p => spB mo n m f p && mtB q (rG mo f ini) len p) p = false := by simp [z27]
        refine s_iinc C 50 (nI (p + 1)) dX5_placeOf_47 rfl rfl (by rw [← nI_add]; rfl) rfl ?_
        dsimp only [List.set]
        refine s_goto C 10 dX5_placeOf_50 (by decide) ?_
        exact ih10 (p + 1) (by omega) (by omega) (by rw [hp, fnd_step (by omega) hz]; rfl)
      · skip
        refine s_aload_n C 31 dX5_placeOf_30 rfl rfl ?_
        refine s_iconst C 32 (nI 0) dX5_placeOf_31 rfl (by decide) ?_
        refine s_aload C 34 dX5_placeOf_32 rfl rfl ?_
        refine s_iload C 36 dX5_placeOf_34 rfl rfl ?_
        refine s_iload_n C 37 dX5_placeOf_36 rfl rfl ?_
        have hsl := sl_le (f := q) (g := rG mo f ini) (n := qn) (m := rN mo n m) len 0 p
        refine s_invS C 40 0 0 [] dX5_placeOf_37 rfl m_X5_41 (c_sameLength hQ hR hqn hN (by omega) (by omega) (by omega)) rfl rfl rfl ⟨by decide, by decide⟩ (Nat.le_of_ble_eq_true rfl) (by omega) (by omega) ?_
        rintro _ M3 ⟨rfl, rfl⟩
        dsimp only [Option.toList, List.cons_append, List.nil_append]
        refine s_iload_n C 41 dX5_placeOf_40 rfl rfl ?_
        refine s_icmp_neN C 47 44 dX5_placeOf_41 (by decide) rfl (by omega) (by omega) (fun z41 => ?_) (fun z41 => ?_)
        · skip
          have hz : (fun p => spB mo n m f p && mtB q (rG mo f ini) len p) p = false := by have := (not_congr (sl_full (q := q) (r := rG mo f ini) (a := qn) (b := rN mo n m) (p := p) (len := len) hlen (by omega))).mp z41; simp [this]
          refine s_iinc C 50 (nI (p + 1)) dX5_placeOf_47 rfl rfl (by rw [← nI_add]; rfl) rfl ?_
          dsimp only [List.set]
          refine s_goto C 10 dX5_placeOf_50 (by decide) ?_
          exact ih10 (p + 1) (by omega) (by omega) (by rw [hp, fnd_step (by omega) hz]; rfl)
        · skip
          have hz : plc mo n m f ini q len = some p := by rw [hp]; exact fnd_hit (by omega) (by have := (sl_full (q := q) (r := rG mo f ini) (a := qn) (b := rN mo n m) (p := p) (len := len) hlen (by omega)).mp z41; simp [this, z27])
          refine s_iload C 46 dX5_placeOf_44 rfl rfl ?_
          exact s_iret C dX5_placeOf_46 T rfl ⟨by rw [hz]; rfl, rfl⟩

set_option maxRecDepth 100000 in
set_option maxHeartbeats 4000000 in
/-- Title.commonRun -/
theorem c_commonRun {G : mG} {M : mM} {a la ia n m b lb ib n2 m2 : Nat} {f ini g ini2 : Nat → Int32} {u u2 : Int32} (hO : M a = some (1, .inl (6, [.ref la, .ref ia, .int u]))) (hL : M la = some (1, .inr (1, n, .inl f))) (hI : M ia = some (1, .inr (1, m, .inl ini))) (hO2 : M b = some (1, .inl (6, [.ref lb, .ref ib, .int u2]))) (hL2 : M lb = some (1, .inr (1, n2, .inl g))) (hI2 : M ib = some (1, .inr (1, m2, .inl ini2))) (hn : n < 100000) (hn2 : n2 < 100000) : CC G iX5_commonRun 0 0 [.ref a, .ref b] M (fun r M1 => r = some (.int (nI (cmI f g n n2 n))) ∧ M = M1) := by
  refine CC.of rfl (Nat.le_of_ble_eq_true rfl) rfl (fun X C T => ?_)
  show V X 0 0 0 [some (.ref a), some (.ref b), none, none, none] [] M
  refine s_iconst C 1 (nI 0) dX5_commonRun_0 rfl (by decide) ?_
  refine s_istore_n C 2 dX5_commonRun_1 rfl rfl rfl ?_
  dsimp only [List.set]
  refine s_iconst C 3 (nI 0) dX5_commonRun_2 rfl (by decide) ?_
  refine s_istore_n C 4 dX5_commonRun_3 rfl rfl rfl ?_
  dsimp only [List.set]
  suffices lp4 : ∀ (fu4 : Nat) (i c : Nat), n - i < fu4 → i ≤ n → c = cmI f g n n2 i → V X 0 0 4 [some (.ref a), some (.ref b), some (.int (nI c)), some (.int (nI i)), none] [] M from lp4 (n + 1) 0 0 (by omega) (by omega) rfl
  intro fu4
  induction fu4 with
  | zero => intro i c hi0 hi hc; omega
  | succ fu4 ih4 =>
    intro i c hi0 hi hc
    refine s_iload_n C 5 dX5_commonRun_4 rfl rfl ?_
    refine s_aload_n C 6 dX5_commonRun_5 rfl rfl ?_
    refine s_getf C 9 dX5_commonRun_6 rfl f_X5_9 hO rfl ?_
    refine s_alen C 10 dX5_commonRun_9 rfl hL (by decide) ?_
    refine s_icmp_geN C 59 13 dX5_commonRun_10 (by decide) rfl (by omega) (by omega) (fun z10 => ?_) (fun z10 => ?_)
    · skip
      refine s_iload_n C 60 dX5_commonRun_59 rfl rfl ?_
      exact s_iret C dX5_commonRun_60 T rfl ⟨by rw [hc, show i = n by omega], rfl⟩
    · skip
      refine s_iconst C 14 (nI 0) dX5_commonRun_13 rfl (by decide) ?_
      refine s_istore C 16 dX5_commonRun_14 rfl rfl rfl ?_
      dsimp only [List.set]
      suffices lp16 : ∀ (fu16 : Nat) (j c2 : Nat), n2 - j < fu16 → j ≤ n2 → c2 = max (cmI f g n n2 i) (cmJ f g n n2 i j) → V X 0 0 16 [some (.ref a), some (.ref b), some (.int (nI c2)), some (.int (nI i)), some (.int (nI j))] [] M from lp16 (n2 + 1) 0 c (by omega) (by omega) (by rw [hc]; exact (Nat.max_eq_left (Nat.zero_le _)).symm)
      intro fu16
      induction fu16 with
      | zero => intro j c2 hj0 hj hc2; omega
      | succ fu16 ih16 =>
        intro j c2 hj0 hj hc2
        have h1 := cmI_le (f := f) (g := g) (n := n) (m := n2) i
        have h2 := cmJ_le (f := f) (g := g) (n := n) (m := n2) (i := i) j
        have hcb : c2 ≤ 24 := by omega
        refine s_iload C 18 dX5_commonRun_16 rfl rfl ?_
        refine s_aload_n C 19 dX5_commonRun_18 rfl rfl ?_
        refine s_getf C 22 dX5_commonRun_19 rfl f_X5_9 hO2 rfl ?_
        refine s_alen C 23 dX5_commonRun_22 rfl hL2 (by decide) ?_
        refine s_icmp_geN C 53 26 dX5_commonRun_23 (by decide) rfl (by omega) (by omega) (fun z23 => ?_) (fun z23 => ?_)
        · skip
          refine s_iinc C 56 (nI (i + 1)) dX5_commonRun_53 rfl rfl (by rw [← nI_add]; rfl) rfl ?_
          dsimp only [List.set]
          refine s_goto C 4 dX5_commonRun_56 (by decide) ?_
          refine V.drop 4 ?_
          dsimp only [List.set]
          exact ih4 (i + 1) _ (by omega) (by omega) (by rw [hc2, show j = n2 by omega]; rfl)
        · skip
          refine s_iload_n C 27 dX5_commonRun_26 rfl rfl ?_
          refine s_aload_n C 28 dX5_commonRun_27 rfl rfl ?_
          refine s_getf C 31 dX5_commonRun_28 rfl f_X5_9 hO rfl ?_
          refine s_iload_n C 32 dX5_commonRun_31 rfl rfl ?_
          refine s_aload_n C 33 dX5_commonRun_32 rfl rfl ?_
          refine s_getf C 36 dX5_commonRun_33 rfl f_X5_9 hO2 rfl ?_
          refine s_iload C 38 dX5_commonRun_36 rfl rfl ?_
          refine s_bipush C 40 (nI 24) dX5_commonRun_38 rfl (by decide) ?_
          have hsl := sl_le (f := f) (g := g) (n := n) (m := n2) 24 i j
          refine s_invS C 43 0 0 [.int (nI c2)] dX5_commonRun_40 rfl m_X5_41 (c_sameLength hL hL2 hn hn2 (by omega) (by omega) (by omega)) rfl rfl rfl ⟨by decide, by decide⟩ (Nat.le_of_ble_eq_true rfl) (by omega) (by omega) ?_
          rintro _ M1 ⟨rfl, rfl⟩
          dsimp only [Option.toList, List.cons_append, List.nil_append]
          refine s_maxN C 46 dX5_commonRun_43 rfl mm_X5_45 rfl (by decide) (Nat.le_of_ble_eq_true rfl) (by omega) (by omega) ?_
          refine s_istore_n C 47 dX5_commonRun_46 rfl rfl rfl ?_
          dsimp only [List.set]
          refine s_iinc C 50 (nI (j + 1)) dX5_commonRun_47 rfl rfl (by rw [← nI_add]; rfl) rfl ?_
          dsimp only [List.set]
          refine s_goto C 16 dX5_commonRun_50 (by decide) ?_
          exact ih16 (j + 1) _ (by omega) (by omega) (by rw [hc2, cmJ, Nat.max_assoc])

set_option maxRecDepth 100000 in
set_option maxHeartbeats 4000000 in
/-- Title.hasLettersOf -/
theorem c_hasLettersOf {G : mG} {M : mM} {a la ia n m b lb ib n2 m2 : Nat} {f ini g ini2 : Nat → Int32} {u u2 : Int32} (hO : M a = some (1, .inl (6, [.ref la, .ref ia, .int u]))) (hL : M la = some (1, .inr (1, n, .inl f))) (hI : M ia = some (1, .inr (1, m, .inl ini))) (hO2 : M b = some (1, .inl (6, [.ref lb, .ref ib, .int u2]))) (hL2 : M lb = some (1, .inr (1, n2, .inl g))) (hI2 : M ib = some (1, .inr (1, m2, .inl ini2))) (hn : n < 100000) (hn2 : n2 < 100000) : CC G iX5_hasLettersOf 0 0 [.ref a, .ref b] M (fun r M1 => r = some (.int (mB (eqT f g n n2))) ∧ M = M1) := by
  refine CC.of rfl (Nat.le_of_ble_eq_true rfl) rfl (fun X C T => ?_)
  show V X 0 0 0 [some (.ref a), some (.ref b)] [] M
  refine s_aload_n C 1 dX5_hasLettersOf_0 rfl rfl ?_
  refine s_getf C 4 dX5_hasLettersOf_1 rfl f_X5_9 hO rfl ?_
  refine s_alen C 5 dX5_hasLettersOf_4 rfl hL (by decide) ?_
  refine s_aload_n C 6 dX5_hasLettersOf_5 rfl rfl ?_
  refine s_getf C 9 dX5_hasLettersOf_6 rfl f_X5_9 hO2 rfl ?_
  refine s_alen C 10 dX5_hasLettersOf_9 rfl hL2 (by decide) ?_
  refine s_icmp_neN C 43 13 dX5_hasLettersOf_10 (by decide) rfl (by omega) (by omega) (fun z10 => ?_) (fun z10 => ?_)
  · skip
    have hz : eqT f g n n2 = false := by simp [eqT, z10]
    refine s_iconst C 44 (nI 0) dX5_hasLettersOf_43 rfl (by decide) ?_
    exact s_zret C dX5_hasLettersOf_44 T rfl (by decide) ⟨rF hz, rfl⟩
  · skip
    refine s_aload_n C 14 dX5_hasLettersOf_13 rfl rfl ?_
    refine s_getf C 17 dX5_hasLettersOf_14 rfl f_X5_9 hO rfl ?_
    refine s_iconst C 18 (nI 0) dX5_hasLettersOf_17 rfl (by decide) ?_
    refine s_aload_n C 19 dX5_hasLettersOf_18 rfl rfl ?_
    refine s_getf C 22 dX5_hasLettersOf_19 rfl f_X5_9 hO2 rfl ?_
    refine s_iconst C 23 (nI 0) dX5_hasLettersOf_22 rfl (by decide) ?_
    refine s_aload_n C 24 dX5_hasLettersOf_23 rfl rfl ?_
    refine s_getf C 27 dX5_hasLettersOf_24 rfl f_X5_9 hO rfl ?_
    refine s_alen C 28 dX5_hasLettersOf_27 rfl hL (by decide) ?_
    have hsl := sl_le (f := f) (g := g) (n := n) (m := n2) n 0 0
    refine s_invS C 31 0 0 [] dX5_hasLettersOf_28 rfl m_X5_41 (c_sameLength (i := 0) (j := 0) hL hL2 hn hn2 (by omega) (by omega) (by omega)) rfl rfl rfl ⟨by decide, by decide⟩ (Nat.le_of_ble_eq_true rfl) (by omega) (by omega) ?_
    rintro _ M1 ⟨rfl, rfl⟩
    dsimp only [Option.toList, List.cons_append, List.nil_append]
    refine s_aload_n C 32 dX5_hasLettersOf_31 rfl rfl ?_
    refine s_getf C 35 dX5_hasLettersOf_32 rfl f_X5_9 hO rfl ?_
    refine s_alen C 36 dX5_hasLettersOf_35 rfl hL (by decide) ?_
    refine s_icmp_neN C 43 39 dX5_hasLettersOf_36 (by decide) rfl (by omega) (by omega) (fun z36 => ?_) (fun z36 => ?_)
    · skip
      have hz : eqT f g n n2 = false := by have := (not_congr (sl_full (q := f) (r := g) (a := n) (b := n2) (p := 0) (len := n) (Nat.le_refl _) (by omega))).mp z36; simp [eqT, this]
      refine s_iconst C 44 (nI 0) dX5_hasLettersOf_43 rfl (by decide) ?_
      exact s_zret C dX5_hasLettersOf_44 T rfl (by decide) ⟨rF hz, rfl⟩
    · skip
      have hz : eqT f g n n2 = true := by have := (sl_full (q := f) (r := g) (a := n) (b := n2) (p := 0) (len := n) (Nat.le_refl _) (by omega)).mp z36; subst z10; simp [eqT, this]
      refine s_iconst C 40 (nI 1) dX5_hasLettersOf_39 rfl (by decide) ?_
      refine s_goto C 44 dX5_hasLettersOf_40 (by decide) ?_
      exact s_zret C dX5_hasLettersOf_44 T rfl (by decide) ⟨rT hz, rfl⟩

set_option maxRecDepth 100000 in
set_option maxHeartbeats 4000000 in
/-- Title.comesByNameBefore -/
theorem c_byName {G : mG} {M : mM} {a la ia n m b lb ib n2 m2 : Nat} {f ini g ini2 : Nat → Int32} {u u2 : Int32} (hO : M a = some (1, .inl (6, [.ref la, .ref ia, .int u]))) (hL : M la = some (1, .inr (1, n, .inl f))) (hI : M ia = some (1, .inr (1, m, .inl ini))) (hO2 : M b = some (1, .inl (6, [.ref lb, .ref ib, .int u2]))) (hL2 : M lb = some (1, .inr (1, n2, .inl g))) (hI2 : M ib = some (1, .inr (1, m2, .inl ini2))) (hn : n < 100000) (hn2 : n2 < 100000) : CC G iX5_comesByNameBefore 0 0 [.ref a, .ref b] M (fun r M1 => r = some (.int (mB (nb f g n n2 0 n))) ∧ M = M1) := by
  refine CC.of rfl (Nat.le_of_ble_eq_true rfl) rfl (fun X C T => ?_)
  show V X 0 0 0 [some (.ref a), some (.ref b), none] [] M
  refine s_iconst C 1 (nI 0) dX5_comesByNameBefore_0 rfl (by decide) ?_
  refine s_istore_n C 2 dX5_comesByNameBefore_1 rfl rfl rfl ?_
  dsimp only [List.set]
  suffices lp2 : ∀ (fu2 : Nat) (k : Nat), n - k < fu2 → k ≤ n → nb f g n n2 0 n = nb f g n n2 k (n - k) → V X 0 0 2 [some (.ref a), some (.ref b), some (.int (nI k))] [] M from lp2 (n + 1) 0 (by omega) (by omega) rfl
  intro fu2
  induction fu2 with
  | zero => intro k hk0 hk hkk; omega
  | succ fu2 ih2 =>
    intro k hk0 hk hkk
    refine s_iload_n C 3 dX5_comesByNameBefore_2 rfl rfl ?_
    refine s_aload_n C 4 dX5_comesByNameBefore_3 rfl rfl ?_
    refine s_getf C 7 dX5_comesByNameBefore_4 rfl f_X5_9 hO rfl ?_
    refine s_alen C 8 dX5_comesByNameBefore_7 rfl hL (by decide) ?_
    refine s_icmp_geN C 62 11 dX5_comesByNameBefore_8 (by decide) rfl (by omega) (by omega) (fun z8 => ?_) (fun z8 => ?_)
    · skip
      refine s_aload_n C 63 dX5_comesByNameBefore_62 rfl rfl ?_
      refine s_getf C 66 dX5_comesByNameBefore_63 rfl f_X5_9 hO rfl ?_
      refine s_alen C 67 dX5_comesByNameBefore_66 rfl hL (by decide) ?_
      refine s_aload_n C 68 dX5_comesByNameBefore_67 rfl rfl ?_
      refine s_getf C 71 dX5_comesByNameBefore_68 rfl f_X5_9 hO2 rfl ?_
      refine s_alen C 72 dX5_comesByNameBefore_71 rfl hL2 (by decide) ?_
      refine s_icmp_geN C 79 75 dX5_comesByNameBefore_72 (by decide) rfl (by omega) (by omega) (fun z72 => ?_) (fun z72 => ?_)
      · skip
        have hz : nb f g n n2 0 n = false := by rw [hkk, nb_stop (by omega)]; simp; omega
        refine s_iconst C 80 (nI 0) dX5_comesByNameBefore_79 rfl (by decide) ?_
        exact s_zret C dX5_comesByNameBefore_80 T rfl (by decide) ⟨rF hz, rfl⟩
      · skip
        have hz : nb f g n n2 0 n = true := by rw [hkk, nb_stop (by omega)]; simp; omega
        refine s_iconst C 76 (nI 1) dX5_comesByNameBefore_75 rfl (by decide) ?_
        refine s_goto C 80 dX5_comesByNameBefore_76 (by decide) ?_
        exact s_zret C dX5_comesByNameBefore_80 T rfl (by decide) ⟨rT hz, rfl⟩
    · skip
      refine s_iload_n C 12 dX5_comesByNameBefore_11 rfl rfl ?_
      refine s_aload_n C 13 dX5_comesByNameBefore_12 rfl rfl ?_
      refine s_getf C 16 dX5_comesByNameBefore_13 rfl f_X5_9 hO2 rfl ?_
      refine s_alen C 17 dX5_comesByNameBefore_16 rfl hL2 (by decide) ?_
      refine s_icmp_geN C 62 20 dX5_comesByNameBefore_17 (by decide) rfl (by omega) (by omega) (fun z17 => ?_) (fun z17 => ?_)
      · skip
        refine s_aload_n C 63 dX5_comesByNameBefore_62 rfl rfl ?_
        refine s_getf C 66 dX5_comesByNameBefore_63 rfl f_X5_9 hO rfl ?_
        refine s_alen C 67 dX5_comesByNameBefore_66 rfl hL (by decide) ?_
        refine s_aload_n C 68 dX5_comesByNameBefore_67 rfl rfl ?_
        refine s_getf C 71 dX5_comesByNameBefore_68 rfl f_X5_9 hO2 rfl ?_
        refine s_alen C 72 dX5_comesByNameBefore_71 rfl hL2 (by decide) ?_
        refine s_icmp_geN C 79 75 dX5_comesByNameBefore_72 (by decide) rfl (by omega) (by omega) (fun z72 => ?_) (fun z72 => ?_)
        · skip
          have hz : nb f g n n2 0 n = false := by rw [hkk, nb_stop (by omega)]; simp; omega
          refine s_iconst C 80 (nI 0) dX5_comesByNameBefore_79 rfl (by decide) ?_
          exact s_zret C dX5_comesByNameBefore_80 T rfl (by decide) ⟨rF hz, rfl⟩
        · skip
          have hz : nb f g n n2 0 n = true := by rw [hkk, nb_stop (by omega)]; simp; omega
          refine s_iconst C 76 (nI 1) dX5_comesByNameBefore_75 rfl (by decide) ?_
          refine s_goto C 80 dX5_comesByNameBefore_76 (by decide) ?_
          exact s_zret C dX5_comesByNameBefore_80 T rfl (by decide) ⟨rT hz, rfl⟩
      · skip
        refine s_aload_n C 21 dX5_comesByNameBefore_20 rfl rfl ?_
        refine s_getf C 24 dX5_comesByNameBefore_21 rfl f_X5_9 hO rfl ?_
        refine s_iload_n C 25 dX5_comesByNameBefore_24 rfl rfl ?_
        refine s_cald C 26 dX5_comesByNameBefore_25 rfl hL (by omega) (by omega) ?_
        refine s_aload_n C 27 dX5_comesByNameBefore_26 rfl rfl ?_
        refine s_getf C 30 dX5_comesByNameBefore_27 rfl f_X5_9 hO2 rfl ?_
        refine s_iload_n C 31 dX5_comesByNameBefore_30 rfl rfl ?_
        refine s_cald C 32 dX5_comesByNameBefore_31 rfl hL2 (by omega) (by omega) ?_
        refine s_icmp_eq C 56 35 dX5_comesByNameBefore_32 (by decide) rfl (fun z32 => ?_) (fun z32 => ?_)
        · skip
          refine s_iinc C 59 (nI (k + 1)) dX5_comesByNameBefore_56 rfl rfl (by rw [← nI_add]; rfl) rfl ?_
          dsimp only [List.set]
          refine s_goto C 2 dX5_comesByNameBefore_59 (by decide) ?_
          exact ih2 (k + 1) (by omega) (by omega) (by rw [hkk, nb_eq (by omega) (by omega) (by omega) z32, show n - k - 1 = n - (k + 1) by omega])
        · skip
          refine s_aload_n C 36 dX5_comesByNameBefore_35 rfl rfl ?_
          refine s_getf C 39 dX5_comesByNameBefore_36 rfl f_X5_9 hO rfl ?_
          refine s_iload_n C 40 dX5_comesByNameBefore_39 rfl rfl ?_
          refine s_cald C 41 dX5_comesByNameBefore_40 rfl hL (by omega) (by omega) ?_
          refine s_aload_n C 42 dX5_comesByNameBefore_41 rfl rfl ?_
          refine s_getf C 45 dX5_comesByNameBefore_42 rfl f_X5_9 hO2 rfl ?_
          refine s_iload_n C 46 dX5_comesByNameBefore_45 rfl rfl ?_
          refine s_cald C 47 dX5_comesByNameBefore_46 rfl hL2 (by omega) (by omega) ?_
          refine s_icmp_ge C 54 50 dX5_comesByNameBefore_47 (by decide) rfl (fun z47 => ?_) (fun z47 => ?_)
          · skip
            have hz : nb f g n n2 0 n = false := by rw [hkk, nb_ne (by omega) (by omega) (by omega) z32]; simpa using i32_le.mp z47
            refine s_iconst C 55 (nI 0) dX5_comesByNameBefore_54 rfl (by decide) ?_
            exact s_zret C dX5_comesByNameBefore_55 T rfl (by decide) ⟨rF hz, rfl⟩
          · skip
            have hz : nb f g n n2 0 n = true := by rw [hkk, nb_ne (by omega) (by omega) (by omega) z32]; simpa using i32_nle.mp z47
            refine s_iconst C 51 (nI 1) dX5_comesByNameBefore_50 rfl (by decide) ?_
            refine s_goto C 55 dX5_comesByNameBefore_51 (by decide) ?_
            exact s_zret C dX5_comesByNameBefore_55 T rfl (by decide) ⟨rT hz, rfl⟩

set_option maxRecDepth 100000 in
set_option maxHeartbeats 4000000 in
/-- Title.wordCount -/
theorem c_wordCount {G : mG} {M : mM} {a t n : Nat} {f : Nat → Int32} (hA : M a = some (t, .inr (1, n, .inl f))) (hn : n < 100000) : CC G iX5_wordCount 0 0 [.ref a] M (fun r M1 => r = some (.int (nI (1 + cnB f n))) ∧ M = M1) := by
  refine CC.of rfl (Nat.le_of_ble_eq_true rfl) rfl (fun X C T => ?_)
  show V X 0 0 0 [some (.ref a), none, none] [] M
  refine s_iconst C 1 (nI 1) dX5_wordCount_0 rfl (by decide) ?_
  refine s_istore_n C 2 dX5_wordCount_1 rfl rfl rfl ?_
  dsimp only [List.set]
  refine s_iconst C 3 (nI 0) dX5_wordCount_2 rfl (by decide) ?_
  refine s_istore_n C 4 dX5_wordCount_3 rfl rfl rfl ?_
  dsimp only [List.set]
  suffices lp4 : ∀ (fu4 : Nat) (k c : Nat), n - k < fu4 → k ≤ n → c = 1 + cnB f k → V X 0 0 4 [some (.ref a), some (.int (nI c)), some (.int (nI k))] [] M from lp4 (n + 1) 0 1 (by omega) (by omega) rfl
  intro fu4
  induction fu4 with
  | zero => intro k c hk0 hk hc; omega
  | succ fu4 ih4 =>
    intro k c hk0 hk hc
    have hcb := cnB_le (f := f) k
    have hcl : c ≤ n + 1 := by omega
    refine s_iload_n C 5 dX5_wordCount_4 rfl rfl ?_
    refine s_aload_n C 6 dX5_wordCount_5 rfl rfl ?_
    refine s_alen C 7 dX5_wordCount_6 rfl hA (by decide) ?_
    refine s_icmp_geN C 27 10 dX5_wordCount_7 (by decide) rfl (by omega) (by omega) (fun z7 => ?_) (fun z7 => ?_)
    · skip
      refine s_iload_n C 28 dX5_wordCount_27 rfl rfl ?_
      exact s_iret C dX5_wordCount_28 T rfl ⟨by rw [hc, show k = n by omega], rfl⟩
    · skip
      refine s_aload_n C 11 dX5_wordCount_10 rfl rfl ?_
      refine s_iload_n C 12 dX5_wordCount_11 rfl rfl ?_
      refine s_cald C 13 dX5_wordCount_12 rfl hA (by omega) (by omega) ?_
      refine s_bipush C 15 (nI 32) dX5_wordCount_13 rfl (by decide) ?_
      refine s_icmp_ne C 21 18 dX5_wordCount_15 (by decide) rfl (fun z15 => ?_) (fun z15 => ?_)
      · skip
        refine s_iinc C 24 (nI (k + 1)) dX5_wordCount_21 rfl rfl (by rw [← nI_add]; rfl) rfl ?_
        dsimp only [List.set]
        refine s_goto C 4 dX5_wordCount_24 (by decide) ?_
        exact ih4 (k + 1) _ (by omega) (by omega) (by rw [hc, cnB, if_neg z15]; omega)
      · skip
        refine s_iinc C 21 (nI (c + 1)) dX5_wordCount_18 rfl rfl (by rw [← nI_add]; rfl) rfl ?_
        dsimp only [List.set]
        refine s_iinc C 24 (nI (k + 1)) dX5_wordCount_21 rfl rfl (by rw [← nI_add]; rfl) rfl ?_
        dsimp only [List.set]
        refine s_goto C 4 dX5_wordCount_24 (by decide) ?_
        exact ih4 (k + 1) _ (by omega) (by omega) (by rw [hc, cnB, if_pos z15]; omega)

set_option maxRecDepth 100000 in
set_option maxHeartbeats 4000000 in
/-- Title.initialsOf -/
theorem c_initialsOf {G : mG} {M : mM} {a t n : Nat} {f : Nat → Int32} (hA : M a = some (t, .inr (1, n, .inl f))) (ht2 : t ≠ 2) (hn : n ≤ 24) (hch : ∀ k, k < n → vp_nar .char (f k) = f k) : CC G iX5_initialsOf 1 25 [.ref a] M (fun r M1 => ∃ ia ini, r = some (.ref ia) ∧ M ia = none ∧ inT f ini n ∧ M1 ia = some (2, .inr (1, 1 + cnB f n, .inl ini)) ∧ mZ [] M M1) := by
  refine CC.of rfl (Nat.le_of_ble_eq_true rfl) rfl (fun X C T => ?_)
  show V X 1 25 0 [some (.ref a), none, none, none] [] M
  have hF : mZ [] M M := mZ.rf
  refine s_aload_n C 1 dX5_initialsOf_0 rfl rfl ?_
  refine s_invS C 4 1 25 [] dX5_initialsOf_1 rfl m_X5_29 (c_wordCount hA (by omega)) rfl rfl rfl ⟨by decide, by decide⟩ (Nat.le_of_ble_eq_true rfl) (by omega) (by omega) ?_
  rintro _ M1 ⟨rfl, rfl⟩
  dsimp only [Option.toList, List.cons_append, List.nil_append]
  have hcb := cnB_le (f := f) n
  refine s_newaU C 6 0 0 2 dX5_initialsOf_4 rfl (Or.inr ⟨rfl, rfl, ac_char⟩) (by omega) (by decide) (by omega) (by omega) (fun ia M2 hnia U3 => ?_)
  have hA := U3.n hnia hA
  have hnia0 := hF.no hnia
  have hF := hF.new U3 hnia
  have hI := U3.s
  refine s_astore_n C 7 dX5_initialsOf_6 rfl rfl rfl ?_
  dsimp only [List.set]
  refine s_iconst C 8 (nI 0) dX5_initialsOf_7 rfl (by decide) ?_
  refine s_istore_n C 9 dX5_initialsOf_8 rfl rfl rfl ?_
  dsimp only [List.set]
  refine s_iconst C 10 (nI 0) dX5_initialsOf_9 rfl (by decide) ?_
  refine s_istore_n C 11 dX5_initialsOf_10 rfl rfl rfl ?_
  dsimp only [List.set]
  suffices lp11 : ∀ (fu11 : Nat) (i x : Nat) (h : Nat → Int32) (M9 : mM), n - i < fu11 → i ≤ n → x = wsN f i → (∀ k, k < i → wsB f k = true → h (wsN f k) = f k) → M9 a = some (t, .inr (1, n, .inl f)) → M9 ia = some (2, .inr (1, 1 + cnB f n, .inl h)) → mZ [] M M9 → V X 0 0 11 [some (.ref a), some (.ref ia), some (.int (nI x)), some (.int (nI i))] [] M9 from lp11 (n + 1) 0 0 _ _ (by omega) (by omega) rfl (fun k hk => by omega) hA hI hF
  intro fu11
  induction fu11 with
  | zero => intro i x h M9 hi0 hi hx hh hA hI hF; omega
  | succ fu11 ih11 =>
    intro i x h M9 hi0 hi hx hh hA hI hF
    have hcb := cnB_le (f := f) n
    have hxn : x ≤ n + 1 := by rw [hx]; cases i with | zero => exact Nat.zero_le _ | succ i => rw [wsN_cnB]; have := cnB_mono (f := f) (a := i) n (by omega); omega
    refine s_iload_n C 12 dX5_initialsOf_11 rfl rfl ?_
    refine s_aload_n C 13 dX5_initialsOf_12 rfl rfl ?_
    refine s_alen C 14 dX5_initialsOf_13 rfl hA (by decide) ?_
    refine s_icmp_geN C 52 17 dX5_initialsOf_14 (by decide) rfl (by omega) (by omega) (fun z14 => ?_) (fun z14 => ?_)
    · skip
      have hz : inT f h n := fun k hk hwk => hh k (by omega) hwk
      refine s_aload_n C 53 dX5_initialsOf_52 rfl rfl ?_
      exact s_aret C dX5_initialsOf_53 T rfl (Or.inr ⟨_, rfl⟩) ⟨_, _, rfl, hnia0, hz, hI, hF⟩
    · skip
      refine s_iload_n C 18 dX5_initialsOf_17 rfl rfl ?_
      refine s_aload_n C 19 dX5_initialsOf_18 rfl rfl ?_
      refine s_alen C 20 dX5_initialsOf_19 rfl hI (by decide) ?_
      refine s_icmp_geN C 52 23 dX5_initialsOf_20 (by decide) rfl (by omega) (by omega) (fun z20 => ?_) (fun z20 => ?_)
      · skip
        have hz : inT f h n := fun k hk hwk => by
          by_cases e : k < i
          · exact hh k e hwk
          · have h1 := wsN_lt (f := f) (show k < k + 1 by omega) hwk
            rw [wsN_cnB] at h1
            have h2 := wsN_mono (f := f) k (show i ≤ k by omega)
            have h3 := wsN_cnB (f := f) k
            rw [wsN, if_pos hwk] at h3
            have h4 := cnB_mono (f := f) (a := k) n (by omega)
            omega
        refine s_aload_n C 53 dX5_initialsOf_52 rfl rfl ?_
        exact s_aret C dX5_initialsOf_53 T rfl (Or.inr ⟨_, rfl⟩) ⟨_, _, rfl, hnia0, hz, hI, hF⟩
      · skip
        refine s_iload_n C 24 dX5_initialsOf_23 rfl rfl ?_
        refine s_if_eqN C 37 27 dX5_initialsOf_24 (by decide) rfl (by omega) (fun z24 => ?_) (fun z24 => ?_)
        · skip
          have hw : wsB f i = true := by simp [wsB, z24]
          refine s_aload_n C 38 dX5_initialsOf_37 rfl rfl ?_
          refine s_iload_n C 39 dX5_initialsOf_38 rfl rfl ?_
          refine s_aload_n C 40 dX5_initialsOf_39 rfl rfl ?_
          refine s_iload_n C 41 dX5_initialsOf_40 rfl rfl ?_
          refine s_cald C 42 dX5_initialsOf_41 rfl hA (by omega) (by omega) ?_
          refine s_castU C 43 dX5_initialsOf_42 rfl hI (by first | decide | omega) (by omega) (by omega) (hch _ (by omega)) (fun M4 U5 => ?_)
          have hA := U5.o hI hA (by first | decide | omega)
          have hF := hF.putn U5 hnia0
          have hI := U5.s
          refine s_iinc C 46 (nI (x + 1)) dX5_initialsOf_43 rfl rfl (by rw [← nI_add]; rfl) rfl ?_
          dsimp only [List.set]
          refine s_iinc C 49 (nI (i + 1)) dX5_initialsOf_46 rfl rfl (by rw [← nI_add]; rfl) rfl ?_
          dsimp only [List.set]
          refine s_goto C 11 dX5_initialsOf_49 (by decide) ?_
          have hh2 : ∀ k, k < i + 1 → wsB f k = true → upd h x (f i) (wsN f k) = f k := by
            intro k hk2 hwk
            by_cases e : k = i
            · rw [e, hx]; exact pk_us
            · rw [pk_un (by have := wsN_lt (f := f) (show k < i by omega) hwk; omega)]; exact hh k (by omega) hwk
          exact ih11 (i + 1) _ _ _ (by omega) (by omega) (by rw [hx, wsN, if_pos hw]) hh2 hA hI hF
        · skip
          refine s_aload_n C 28 dX5_initialsOf_27 rfl rfl ?_
          refine s_iload_n C 29 dX5_initialsOf_28 rfl rfl ?_
          refine s_iconst C 30 (nI 1) dX5_initialsOf_29 rfl (by decide) ?_
          refine s_isubN C 31 dX5_initialsOf_30 rfl (by omega) ?_
          refine s_cald C 32 dX5_initialsOf_31 rfl hA (by omega) (by omega) ?_
          refine s_bipush C 34 (nI 32) dX5_initialsOf_32 rfl (by decide) ?_
          refine s_icmp_ne C 46 37 dX5_initialsOf_34 (by decide) rfl (fun z34 => ?_) (fun z34 => ?_)
          · skip
            have hw : wsB f i = false := by simp [wsB, z24, z34]
            refine s_iinc C 49 (nI (i + 1)) dX5_initialsOf_46 rfl rfl (by rw [← nI_add]; rfl) rfl ?_
            dsimp only [List.set]
            refine s_goto C 11 dX5_initialsOf_49 (by decide) ?_
            have hh2 : ∀ k, k < i + 1 → wsB f k = true → h (wsN f k) = f k := by
              intro k hk2 hwk
              by_cases e : k = i
              · rw [e, hw] at hwk; cases hwk
              · exact hh k (by omega) hwk
            exact ih11 (i + 1) _ _ _ (by omega) (by omega) (by rw [hx, wsN, if_neg (by rw [hw]; decide), Nat.add_zero]) hh2 hA hI hF
          · skip
            have hw : wsB f i = true := by simp [wsB, z34]
            refine s_aload_n C 38 dX5_initialsOf_37 rfl rfl ?_
            refine s_iload_n C 39 dX5_initialsOf_38 rfl rfl ?_
            refine s_aload_n C 40 dX5_initialsOf_39 rfl rfl ?_
            refine s_iload_n C 41 dX5_initialsOf_40 rfl rfl ?_
            refine s_cald C 42 dX5_initialsOf_41 rfl hA (by omega) (by omega) ?_
            refine s_castU C 43 dX5_initialsOf_42 rfl hI (by first | decide | omega) (by omega) (by omega) (hch _ (by omega)) (fun M6 U7 => ?_)
            have hA := U7.o hI hA (by first | decide | omega)
            have hF := hF.putn U7 hnia0
            have hI := U7.s
            refine s_iinc C 46 (nI (x + 1)) dX5_initialsOf_43 rfl rfl (by rw [← nI_add]; rfl) rfl ?_
            dsimp only [List.set]
            refine s_iinc C 49 (nI (i + 1)) dX5_initialsOf_46 rfl rfl (by rw [← nI_add]; rfl) rfl ?_
            dsimp only [List.set]
            refine s_goto C 11 dX5_initialsOf_49 (by decide) ?_
            have hh2 : ∀ k, k < i + 1 → wsB f k = true → upd h x (f i) (wsN f k) = f k := by
              intro k hk2 hwk
              by_cases e : k = i
              · rw [e, hx]; exact pk_us
              · rw [pk_un (by have := wsN_lt (f := f) (show k < i by omega) hwk; omega)]; exact hh k (by omega) hwk
            exact ih11 (i + 1) _ _ _ (by omega) (by omega) (by rw [hx, wsN, if_pos hw]) hh2 hA hI hF

set_option maxRecDepth 100000 in
set_option maxHeartbeats 4000000 in
/-- Title() -/
theorem c_titleInit {G : mG} {M : mM} {a la ia : Nat} {u : Int32} (hO : M a = some (4, .inl (6, [.null, .null, .int 0]))) : CC G iX5_init 0 0 [.ref a, .ref la, .ref ia, .int u] M (fun r M1 => r = none ∧ mU M a (4, .inl (6, [.ref la, .ref ia, .int u])) M1) := by
  refine CC.of rfl (Nat.le_of_ble_eq_true rfl) rfl (fun X C T => ?_)
  show V X 0 0 0 [some (.ref a), some (.ref la), some (.ref ia), some (.int u)] [] M
  refine s_aload_n C 1 dX5_init_0 rfl rfl ?_
  refine s_oi C 4 dX5_init_1 rfl oi_X5_3 rfl (by decide) (Nat.le_of_ble_eq_true rfl) ?_
  refine s_aload_n C 5 dX5_init_4 rfl rfl ?_
  refine s_aload_n C 6 dX5_init_5 rfl rfl ?_
  refine s_putFU C 9 dX5_init_6 rfl p_X5_9 rfl hO (by first | decide | omega) rfl rfl rfl (fs' := [.ref la, .null, .int 0]) rfl (fun M1 U2 => ?_)
  have hO := U2.s
  refine s_aload_n C 10 dX5_init_9 rfl rfl ?_
  refine s_aload_n C 11 dX5_init_10 rfl rfl ?_
  refine s_putFU C 14 dX5_init_11 rfl p_X5_15 rfl hO (by first | decide | omega) rfl rfl rfl (fs' := [.ref la, .ref ia, .int 0]) rfl (fun M3 U4 => ?_)
  have hO := U4.s
  refine s_aload_n C 15 dX5_init_14 rfl rfl ?_
  refine s_iload_n C 16 dX5_init_15 rfl rfl ?_
  refine s_putFU C 19 dX5_init_16 rfl p_X5_18 rfl hO (by first | decide | omega) rfl rfl rfl (fs' := [.ref la, .ref ia, .int u]) rfl (fun M5 U6 => ?_)
  have hO := U6.s
  exact s_vret C dX5_init_19 T rfl ⟨rfl, hO, fun b hb => by rw [U6.2 b hb, U4.2 b hb, U2.2 b hb]⟩

set_option maxRecDepth 100000 in
set_option maxHeartbeats 4000000 in
/-- Title.unused -/
theorem c_unused {G : mG} {M : mM} {la n : Nat} {f : Nat → Int32} (hL : M la = some (3, .inr (1, n, .inl f))) (hn : n ≤ 24) (hch : ∀ k, k < n → vp_nar .char (f k) = f k) : CC G iX5_unused 2 28 [.ref la] M (fun r M1 => ∃ a ini, r = some (.ref a) ∧ M a = none ∧ inT f ini n ∧ tR M1 a n f (1 + cnB f n) ini (nI 0) ∧ mZ [3] M M1) := by
  refine CC.of rfl (Nat.le_of_ble_eq_true rfl) rfl (fun X C T => ?_)
  show V X 2 28 0 [some (.ref la)] [] M
  have hF : mZ [3] M M := mZ.rf
  refine s_newU C 3 1 25 4 dX5_unused_0 rfl n_X5_10 (by decide) (by omega) (by first | omega | (show _ + _ ≤ _; simp only [List.length_cons, List.length_nil]; omega)) (fun a M1 hna U2 => ?_)
  have hL := U2.n hna hL
  have hna0 := hF.no hna
  have hF := hF.new U2 hna
  have hO := U2.s
  refine s_dup C 4 dX5_unused_3 rfl rfl ?_
  refine s_aload_n C 5 dX5_unused_4 rfl rfl ?_
  refine s_aload_n C 6 dX5_unused_5 rfl rfl ?_
  refine s_invS C 9 0 0 [.ref la, .ref a, .ref a] dX5_unused_6 rfl m_X5_22 (c_initialsOf hL (by decide) hn hch) rfl rfl rfl ⟨by decide, by decide⟩ (Nat.le_of_ble_eq_true rfl) (by omega) (by omega) ?_
  rintro _ M3 ⟨ia, ini, rfl, hni, hin, hI, hFi⟩
  dsimp only [Option.toList, List.cons_append, List.nil_append]
  have hnia := hni
  have hL := hFi.at hL (by decide)
  have hO := hFi.at hO (by decide)
  have hnia0 := hF.no hni
  have hF := hF.tr (hFi.mono (fun t ht => nomatch ht))
  refine s_iconst C 10 (nI 0) dX5_unused_9 rfl (by decide) ?_
  refine s_invI C 13 0 0 [.ref a] dX5_unused_10 rfl m_X5_26 (c_titleInit hO) rfl rfl rfl ⟨by decide, by decide⟩ (Nat.le_of_ble_eq_true rfl) (by omega) (by omega) ?_
  rintro _ M5 ⟨rfl, U4⟩
  dsimp only [Option.toList, List.cons_append, List.nil_append]
  have hL := U4.o hO hL (by first | decide | omega)
  have hI := U4.o hO hI (by first | decide | omega)
  have hF := hF.putn U4 hna0
  have hO := U4.s
  refine s_tagU la 3 1 hL (by decide) (by decide) (fun M6 U7 => ?_)
  have hO := U7.o hL hO (by first | decide | omega)
  have hI := U7.o hL hI (by first | decide | omega)
  have hF := hF.put U7 hL (by first | decide | simp)
  have hL := U7.s
  refine s_tagU ia 2 1 hI (by decide) (by decide) (fun M8 U9 => ?_)
  have hL := U9.o hI hL (by first | decide | omega)
  have hO := U9.o hI hO (by first | decide | omega)
  have hF := hF.putn U9 hnia0
  have hI := U9.s
  refine s_tagU a 4 1 hO (by decide) (by decide) (fun M10 U11 => ?_)
  have hL := U11.o hO hL (by first | decide | omega)
  have hI := U11.o hO hI (by first | decide | omega)
  have hF := hF.putn U11 hna0
  have hO := U11.s
  exact s_aret C dX5_unused_13 T rfl (Or.inl ⟨_, rfl⟩) ⟨a, ini, rfl, hna0, hin, ⟨la, ia, hO, hL, hI⟩, hF⟩

set_option maxRecDepth 100000 in
set_option maxHeartbeats 4000000 in
/-- Title.usedOnceMore -/
theorem c_usedOnceMore {G : mG} {M : mM} {a la ia n m : Nat} {f ini : Nat → Int32} {u : Int32} (hO : M a = some (1, .inl (6, [.ref la, .ref ia, .int u]))) (hL : M la = some (1, .inr (1, n, .inl f))) (hI : M ia = some (1, .inr (1, m, .inl ini))) : CC G iX5_usedOnceMore 1 3 [.ref a] M (fun r M1 => ∃ b, r = some (.ref b) ∧ M b = none ∧ tR M1 b n f m ini (u + nI 1) ∧ mZ [] M M1) := by
  refine CC.of rfl (Nat.le_of_ble_eq_true rfl) rfl (fun X C T => ?_)
  show V X 1 3 0 [some (.ref a)] [] M
  have hF : mZ [] M M := mZ.rf
  refine s_newU C 3 0 0 4 dX5_usedOnceMore_0 rfl n_X5_10 (by decide) (by omega) (by first | omega | (show _ + _ ≤ _; simp only [List.length_cons, List.length_nil]; omega)) (fun b M1 hnb U2 => ?_)
  have hO := U2.n hnb hO
  have hL := U2.n hnb hL
  have hI := U2.n hnb hI
  have hnb0 := hF.no hnb
  have hF := hF.new U2 hnb
  have hB := U2.s
  refine s_dup C 4 dX5_usedOnceMore_3 rfl rfl ?_
  refine s_aload_n C 5 dX5_usedOnceMore_4 rfl rfl ?_
  refine s_getf C 8 dX5_usedOnceMore_5 rfl f_X5_9 hO rfl ?_
  refine s_aload_n C 9 dX5_usedOnceMore_8 rfl rfl ?_
  refine s_getf C 12 dX5_usedOnceMore_9 rfl f_X5_15 hO rfl ?_
  refine s_aload_n C 13 dX5_usedOnceMore_12 rfl rfl ?_
  refine s_getf C 16 dX5_usedOnceMore_13 rfl f_X5_18 hO rfl ?_
  refine s_iconst C 17 (nI 1) dX5_usedOnceMore_16 rfl (by decide) ?_
  refine s_iadd C 18 dX5_usedOnceMore_17 rfl ?_
  refine s_invI C 21 0 0 [.ref b] dX5_usedOnceMore_18 rfl m_X5_26 (c_titleInit hB) rfl rfl rfl ⟨by decide, by decide⟩ (Nat.le_of_ble_eq_true rfl) (by omega) (by omega) ?_
  rintro _ M4 ⟨rfl, U3⟩
  dsimp only [Option.toList, List.cons_append, List.nil_append]
  have hO := U3.o hB hO (by first | decide | omega)
  have hL := U3.o hB hL (by first | decide | omega)
  have hI := U3.o hB hI (by first | decide | omega)
  have hF := hF.putn U3 hnb0
  have hB := U3.s
  refine s_tagU b 4 1 hB (by decide) (by decide) (fun M5 U6 => ?_)
  have hO := U6.o hB hO (by first | decide | omega)
  have hL := U6.o hB hL (by first | decide | omega)
  have hI := U6.o hB hI (by first | decide | omega)
  have hF := hF.putn U6 hnb0
  have hB := U6.s
  exact s_aret C dX5_usedOnceMore_21 T rfl (Or.inl ⟨_, rfl⟩) ⟨b, rfl, hnb0, ⟨la, ia, hB, hL, hI⟩, hF⟩
end
