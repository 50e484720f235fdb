section
-- ===== PART A: goes FIRST, ahead of the names: the tables' words, and 'selects' of the private methods out of them =====
/-- a private method of a class that the tables say can be made, by its rows of tables_1 -/
def lw_okq (q : MethodName × Nat) : Prop := (q.1.cls ≠ "java/lang/invoke/MethodHandle" ∧ q.1.cls ≠ "java/lang/invoke/VarHandle") ∧ Cond.instantiable q.1.cls q.2 ∈ tables_1 ∧ Cond.privateMethod q.1 ∈ tables_1 ∧ Cond.instanceMethod q.1 ∈ tables_1
theorem lw_p0 : lw_okq (⟨"TitleFinder$Text", "passOneOf", "(II)I"⟩, 7) := ⟨⟨by decide +kernel, by decide +kernel⟩, List.mem_of_getElem? (i := 108) (by decide +kernel), List.mem_of_getElem? (i := 236) (by decide +kernel), List.mem_of_getElem? (i := 237) (by decide +kernel)⟩
theorem lw_p1 : lw_okq (⟨"TitleFinder$Text", "sameLength", "(Ljava/lang/String;)I"⟩, 7) := ⟨⟨by decide +kernel, by decide +kernel⟩, List.mem_of_getElem? (i := 108) (by decide +kernel), List.mem_of_getElem? (i := 260) (by decide +kernel), List.mem_of_getElem? (i := 261) (by decide +kernel)⟩
theorem lw_p2 : lw_okq (⟨"TitleFinder$Text", "passTitle", "()Z"⟩, 7) := ⟨⟨by decide +kernel, by decide +kernel⟩, List.mem_of_getElem? (i := 108) (by decide +kernel), List.mem_of_getElem? (i := 315) (by decide +kernel), List.mem_of_getElem? (i := 316) (by decide +kernel)⟩
theorem lw_p3 : lw_okq (⟨"TitleFinder$Text", "hasSign", "()Z"⟩, 7) := ⟨⟨by decide +kernel, by decide +kernel⟩, List.mem_of_getElem? (i := 108) (by decide +kernel), List.mem_of_getElem? (i := 319) (by decide +kernel), List.mem_of_getElem? (i := 320) (by decide +kernel)⟩
theorem lw_p4 : lw_okq (⟨"TitleFinder$Text", "passNumber", "()Z"⟩, 7) := ⟨⟨by decide +kernel, by decide +kernel⟩, List.mem_of_getElem? (i := 108) (by decide +kernel), List.mem_of_getElem? (i := 329) (by decide +kernel), List.mem_of_getElem? (i := 330) (by decide +kernel)⟩
theorem lw_p5 : lw_okq (⟨"TitleFinder$Text", "passName", "(II)Z"⟩, 7) := ⟨⟨by decide +kernel, by decide +kernel⟩, List.mem_of_getElem? (i := 108) (by decide +kernel), List.mem_of_getElem? (i := 333) (by decide +kernel), List.mem_of_getElem? (i := 334) (by decide +kernel)⟩
theorem lw_p6 : lw_okq (⟨"java/util/ArrayList", "add", "(Ljava/lang/Object;[Ljava/lang/Object;I)V"⟩, 3) := ⟨⟨by decide +kernel, by decide +kernel⟩, List.mem_of_getElem? (i := 36) (by decide +kernel), List.mem_of_getElem? (i := 379) (by decide +kernel), List.mem_of_getElem? (i := 380) (by decide +kernel)⟩
theorem lw_p7 : lw_okq (⟨"java/util/ArrayList", "grow", "()[Ljava/lang/Object;"⟩, 3) := ⟨⟨by decide +kernel, by decide +kernel⟩, List.mem_of_getElem? (i := 36) (by decide +kernel), List.mem_of_getElem? (i := 383) (by decide +kernel), List.mem_of_getElem? (i := 384) (by decide +kernel)⟩
theorem lw_p8 : lw_okq (⟨"java/util/ArrayList", "grow", "(I)[Ljava/lang/Object;"⟩, 3) := ⟨⟨by decide +kernel, by decide +kernel⟩, List.mem_of_getElem? (i := 36) (by decide +kernel), List.mem_of_getElem? (i := 387) (by decide +kernel), List.mem_of_getElem? (i := 388) (by decide +kernel)⟩
theorem lw_p9 : lw_okq (⟨"TitleFinder", "obeyed", "()Z"⟩, 6) := ⟨⟨by decide +kernel, by decide +kernel⟩, List.mem_of_getElem? (i := 22) (by decide +kernel), List.mem_of_getElem? (i := 432) (by decide +kernel), List.mem_of_getElem? (i := 433) (by decide +kernel)⟩
theorem lw_p10 : lw_okq (⟨"TitleFinder", "addIfPossible", "(LTitleFinder$Title;)I"⟩, 6) := ⟨⟨by decide +kernel, by decide +kernel⟩, List.mem_of_getElem? (i := 22) (by decide +kernel), List.mem_of_getElem? (i := 470) (by decide +kernel), List.mem_of_getElem? (i := 471) (by decide +kernel)⟩
theorem lw_p11 : lw_okq (⟨"TitleFinder", "dropIfThere", "(I)Z"⟩, 6) := ⟨⟨by decide +kernel, by decide +kernel⟩, List.mem_of_getElem? (i := 22) (by decide +kernel), List.mem_of_getElem? (i := 487) (by decide +kernel), List.mem_of_getElem? (i := 488) (by decide +kernel)⟩
theorem lw_p12 : lw_okq (⟨"java/util/ArrayList", "fastRemove", "([Ljava/lang/Object;I)V"⟩, 3) := ⟨⟨by decide +kernel, by decide +kernel⟩, List.mem_of_getElem? (i := 36) (by decide +kernel), List.mem_of_getElem? (i := 499) (by decide +kernel), List.mem_of_getElem? (i := 500) (by decide +kernel)⟩
theorem lw_p13 : lw_okq (⟨"TitleFinder", "pickIfThere", "(I)I"⟩, 6) := ⟨⟨by decide +kernel, by decide +kernel⟩, List.mem_of_getElem? (i := 22) (by decide +kernel), List.mem_of_getElem? (i := 512) (by decide +kernel), List.mem_of_getElem? (i := 513) (by decide +kernel)⟩
theorem lw_p14 : lw_okq (⟨"TitleFinder$Ranking", "insert", "(LTitleFinder$State;II)V"⟩, 3) := ⟨⟨by decide +kernel, by decide +kernel⟩, List.mem_of_getElem? (i := 139) (by decide +kernel), List.mem_of_getElem? (i := 541) (by decide +kernel), List.mem_of_getElem? (i := 542) (by decide +kernel)⟩
theorem lw_p15 : lw_okq (⟨"TitleFinder$Study", "lookAtPiecesFrom", "(I[CLTitleFinder$State;I)V"⟩, 5) := ⟨⟨by decide +kernel, by decide +kernel⟩, List.mem_of_getElem? (i := 157) (by decide +kernel), List.mem_of_getElem? (i := 606) (by decide +kernel), List.mem_of_getElem? (i := 607) (by decide +kernel)⟩
def lw_privs_1 : List (MethodName × Nat) := [(⟨"TitleFinder$Text", "passOneOf", "(II)I"⟩, 7), (⟨"TitleFinder$Text", "sameLength", "(Ljava/lang/String;)I"⟩, 7), (⟨"TitleFinder$Text", "passTitle", "()Z"⟩, 7), (⟨"TitleFinder$Text", "hasSign", "()Z"⟩, 7), (⟨"TitleFinder$Text", "passNumber", "()Z"⟩, 7), (⟨"TitleFinder$Text", "passName", "(II)Z"⟩, 7), (⟨"java/util/ArrayList", "add", "(Ljava/lang/Object;[Ljava/lang/Object;I)V"⟩, 3), (⟨"java/util/ArrayList", "grow", "()[Ljava/lang/Object;"⟩, 3), (⟨"java/util/ArrayList", "grow", "(I)[Ljava/lang/Object;"⟩, 3), (⟨"TitleFinder", "obeyed", "()Z"⟩, 6), (⟨"TitleFinder", "addIfPossible", "(LTitleFinder$Title;)I"⟩, 6), (⟨"TitleFinder", "dropIfThere", "(I)Z"⟩, 6), (⟨"java/util/ArrayList", "fastRemove", "([Ljava/lang/Object;I)V"⟩, 3), (⟨"TitleFinder", "pickIfThere", "(I)I"⟩, 6), (⟨"TitleFinder$Ranking", "insert", "(LTitleFinder$State;II)V"⟩, 3), (⟨"TitleFinder$Study", "lookAtPiecesFrom", "(I[CLTitleFinder$State;I)V"⟩, 5)]
theorem lw_r1 : ∀ q ∈ lw_privs_1, lw_okq q := List.forall_mem_cons.mpr ⟨lw_p0, List.forall_mem_cons.mpr ⟨lw_p1, List.forall_mem_cons.mpr ⟨lw_p2, List.forall_mem_cons.mpr ⟨lw_p3, List.forall_mem_cons.mpr ⟨lw_p4, List.forall_mem_cons.mpr ⟨lw_p5, List.forall_mem_cons.mpr ⟨lw_p6, List.forall_mem_cons.mpr ⟨lw_p7, List.forall_mem_cons.mpr ⟨lw_p8, List.forall_mem_cons.mpr ⟨lw_p9, List.forall_mem_cons.mpr ⟨lw_p10, List.forall_mem_cons.mpr ⟨lw_p11, List.forall_mem_cons.mpr ⟨lw_p12, List.forall_mem_cons.mpr ⟨lw_p13, List.forall_mem_cons.mpr ⟨lw_p14, List.forall_mem_cons.mpr ⟨lw_p15, fun _ h => absurd h List.not_mem_nil⟩⟩⟩⟩⟩⟩⟩⟩⟩⟩⟩⟩⟩⟩⟩⟩
theorem lw_p16 : lw_okq (⟨"TitleFinder$Study", "longestWanted", "()I"⟩, 5) := ⟨⟨by decide +kernel, by decide +kernel⟩, List.mem_of_getElem? (i := 157) (by decide +kernel), List.mem_of_getElem? (i := 610) (by decide +kernel), List.mem_of_getElem? (i := 611) (by decide +kernel)⟩
theorem lw_p17 : lw_okq (⟨"TitleFinder$Study", "isKnownBy", "(ILTitleFinder$State;I)Z"⟩, 5) := ⟨⟨by decide +kernel, by decide +kernel⟩, List.mem_of_getElem? (i := 157) (by decide +kernel), List.mem_of_getElem? (i := 629) (by decide +kernel), List.mem_of_getElem? (i := 630) (by decide +kernel)⟩
theorem lw_p18 : lw_okq (⟨"TitleFinder$Study", "placeOf", "(II)I"⟩, 5) := ⟨⟨by decide +kernel, by decide +kernel⟩, List.mem_of_getElem? (i := 157) (by decide +kernel), List.mem_of_getElem? (i := 633) (by decide +kernel), List.mem_of_getElem? (i := 634) (by decide +kernel)⟩
theorem lw_p19 : lw_okq (⟨"TitleFinder$Study", "isFirstFor", "(ILTitleFinder$State;I)Z"⟩, 5) := ⟨⟨by decide +kernel, by decide +kernel⟩, List.mem_of_getElem? (i := 157) (by decide +kernel), List.mem_of_getElem? (i := 637) (by decide +kernel), List.mem_of_getElem? (i := 638) (by decide +kernel)⟩
theorem lw_p20 : lw_okq (⟨"TitleFinder", "studiedNumber", "(LTitleFinder$Title;I)I"⟩, 6) := ⟨⟨by decide +kernel, by decide +kernel⟩, List.mem_of_getElem? (i := 22) (by decide +kernel), List.mem_of_getElem? (i := 642) (by decide +kernel), List.mem_of_getElem? (i := 643) (by decide +kernel)⟩
theorem lw_p21 : lw_okq (⟨"TitleFinder", "keyWouldChange", "(I)Z"⟩, 6) := ⟨⟨by decide +kernel, by decide +kernel⟩, List.mem_of_getElem? (i := 22) (by decide +kernel), List.mem_of_getElem? (i := 674) (by decide +kernel), List.mem_of_getElem? (i := 675) (by decide +kernel)⟩
theorem lw_p22 : lw_okq (⟨"TitleFinder", "hashWithTitle", "(JILTitleFinder$Title;)J"⟩, 6) := ⟨⟨by decide +kernel, by decide +kernel⟩, List.mem_of_getElem? (i := 22) (by decide +kernel), List.mem_of_getElem? (i := 752) (by decide +kernel), List.mem_of_getElem? (i := 753) (by decide +kernel)⟩
theorem lw_p23 : lw_okq (⟨"TitleFinder", "hashWithResults", "(J)J"⟩, 6) := ⟨⟨by decide +kernel, by decide +kernel⟩, List.mem_of_getElem? (i := 22) (by decide +kernel), List.mem_of_getElem? (i := 762) (by decide +kernel), List.mem_of_getElem? (i := 763) (by decide +kernel)⟩
theorem lw_p24 : lw_okq (⟨"TitleFinderModel", "findError", "()I"⟩, 22) := ⟨⟨by decide +kernel, by decide +kernel⟩, List.mem_of_getElem? (i := 766) (by decide +kernel), List.mem_of_getElem? (i := 854) (by decide +kernel), List.mem_of_getElem? (i := 855) (by decide +kernel)⟩
theorem lw_p25 : lw_okq (⟨"TitleFinderModel", "readsCommand", "()Z"⟩, 22) := ⟨⟨by decide +kernel, by decide +kernel⟩, List.mem_of_getElem? (i := 766) (by decide +kernel), List.mem_of_getElem? (i := 858) (by decide +kernel), List.mem_of_getElem? (i := 859) (by decide +kernel)⟩
theorem lw_p26 : lw_okq (⟨"TitleFinderModel", "typedAt", "(I)I"⟩, 22) := ⟨⟨by decide +kernel, by decide +kernel⟩, List.mem_of_getElem? (i := 766) (by decide +kernel), List.mem_of_getElem? (i := 862) (by decide +kernel), List.mem_of_getElem? (i := 863) (by decide +kernel)⟩
theorem lw_p27 : lw_okq (⟨"TitleFinderModel", "readsAddOrAsk", "()Z"⟩, 22) := ⟨⟨by decide +kernel, by decide +kernel⟩, List.mem_of_getElem? (i := 766) (by decide +kernel), List.mem_of_getElem? (i := 866) (by decide +kernel), List.mem_of_getElem? (i := 867) (by decide +kernel)⟩
theorem lw_p28 : lw_okq (⟨"TitleFinderModel", "readsWord", "(J)Z"⟩, 22) := ⟨⟨by decide +kernel, by decide +kernel⟩, List.mem_of_getElem? (i := 766) (by decide +kernel), List.mem_of_getElem? (i := 872) (by decide +kernel), List.mem_of_getElem? (i := 873) (by decide +kernel)⟩
theorem lw_p29 : lw_okq (⟨"TitleFinderModel", "isNext", "(I)Z"⟩, 22) := ⟨⟨by decide +kernel, by decide +kernel⟩, List.mem_of_getElem? (i := 766) (by decide +kernel), List.mem_of_getElem? (i := 877) (by decide +kernel), List.mem_of_getElem? (i := 878) (by decide +kernel)⟩
theorem lw_p30 : lw_okq (⟨"TitleFinderModel", "readsTitle", "()Z"⟩, 22) := ⟨⟨by decide +kernel, by decide +kernel⟩, List.mem_of_getElem? (i := 766) (by decide +kernel), List.mem_of_getElem? (i := 881) (by decide +kernel), List.mem_of_getElem? (i := 882) (by decide +kernel)⟩
theorem lw_p31 : lw_okq (⟨"TitleFinderModel", "readsNumber", "()Z"⟩, 22) := ⟨⟨by decide +kernel, by decide +kernel⟩, List.mem_of_getElem? (i := 766) (by decide +kernel), List.mem_of_getElem? (i := 889) (by decide +kernel), List.mem_of_getElem? (i := 890) (by decide +kernel)⟩
def lw_privs_2 : List (MethodName × Nat) := [(⟨"TitleFinder$Study", "longestWanted", "()I"⟩, 5), (⟨"TitleFinder$Study", "isKnownBy", "(ILTitleFinder$State;I)Z"⟩, 5), (⟨"TitleFinder$Study", "placeOf", "(II)I"⟩, 5), (⟨"TitleFinder$Study", "isFirstFor", "(ILTitleFinder$State;I)Z"⟩, 5), (⟨"TitleFinder", "studiedNumber", "(LTitleFinder$Title;I)I"⟩, 6), (⟨"TitleFinder", "keyWouldChange", "(I)Z"⟩, 6), (⟨"TitleFinder", "hashWithTitle", "(JILTitleFinder$Title;)J"⟩, 6), (⟨"TitleFinder", "hashWithResults", "(J)J"⟩, 6), (⟨"TitleFinderModel", "findError", "()I"⟩, 22), (⟨"TitleFinderModel", "readsCommand", "()Z"⟩, 22), (⟨"TitleFinderModel", "typedAt", "(I)I"⟩, 22), (⟨"TitleFinderModel", "readsAddOrAsk", "()Z"⟩, 22), (⟨"TitleFinderModel", "readsWord", "(J)Z"⟩, 22), (⟨"TitleFinderModel", "isNext", "(I)Z"⟩, 22), (⟨"TitleFinderModel", "readsTitle", "()Z"⟩, 22), (⟨"TitleFinderModel", "readsNumber", "()Z"⟩, 22)]
theorem lw_r2 : ∀ q ∈ lw_privs_2, lw_okq q := List.forall_mem_cons.mpr ⟨lw_p16, List.forall_mem_cons.mpr ⟨lw_p17, List.forall_mem_cons.mpr ⟨lw_p18, List.forall_mem_cons.mpr ⟨lw_p19, List.forall_mem_cons.mpr ⟨lw_p20, List.forall_mem_cons.mpr ⟨lw_p21, List.forall_mem_cons.mpr ⟨lw_p22, List.forall_mem_cons.mpr ⟨lw_p23, List.forall_mem_cons.mpr ⟨lw_p24, List.forall_mem_cons.mpr ⟨lw_p25, List.forall_mem_cons.mpr ⟨lw_p26, List.forall_mem_cons.mpr ⟨lw_p27, List.forall_mem_cons.mpr ⟨lw_p28, List.forall_mem_cons.mpr ⟨lw_p29, List.forall_mem_cons.mpr ⟨lw_p30, List.forall_mem_cons.mpr ⟨lw_p31, fun _ h => absurd h List.not_mem_nil⟩⟩⟩⟩⟩⟩⟩⟩⟩⟩⟩⟩⟩⟩⟩⟩
theorem lw_p32 : lw_okq (⟨"TitleFinderModel", "readsMode", "()Z"⟩, 22) := ⟨⟨by decide +kernel, by decide +kernel⟩, List.mem_of_getElem? (i := 766) (by decide +kernel), List.mem_of_getElem? (i := 894) (by decide +kernel), List.mem_of_getElem? (i := 895) (by decide +kernel)⟩
theorem lw_p33 : lw_okq (⟨"TitleFinderModel", "readsOrder", "()Z"⟩, 22) := ⟨⟨by decide +kernel, by decide +kernel⟩, List.mem_of_getElem? (i := 766) (by decide +kernel), List.mem_of_getElem? (i := 903) (by decide +kernel), List.mem_of_getElem? (i := 904) (by decide +kernel)⟩
theorem lw_p34 : lw_okq (⟨"TitleFinderModel", "record", "()V"⟩, 22) := ⟨⟨by decide +kernel, by decide +kernel⟩, List.mem_of_getElem? (i := 766) (by decide +kernel), List.mem_of_getElem? (i := 916) (by decide +kernel), List.mem_of_getElem? (i := 917) (by decide +kernel)⟩
theorem lw_p35 : lw_okq (⟨"TitleFinderModel", "mayDo", "()Z"⟩, 22) := ⟨⟨by decide +kernel, by decide +kernel⟩, List.mem_of_getElem? (i := 766) (by decide +kernel), List.mem_of_getElem? (i := 920) (by decide +kernel), List.mem_of_getElem? (i := 921) (by decide +kernel)⟩
theorem lw_p36 : lw_okq (⟨"TitleFinderModel", "whyNotAdded", "(II)I"⟩, 22) := ⟨⟨by decide +kernel, by decide +kernel⟩, List.mem_of_getElem? (i := 766) (by decide +kernel), List.mem_of_getElem? (i := 924) (by decide +kernel), List.mem_of_getElem? (i := 925) (by decide +kernel)⟩
theorem lw_p37 : lw_okq (⟨"TitleFinderModel", "isThere", "(II)Z"⟩, 22) := ⟨⟨by decide +kernel, by decide +kernel⟩, List.mem_of_getElem? (i := 766) (by decide +kernel), List.mem_of_getElem? (i := 928) (by decide +kernel), List.mem_of_getElem? (i := 929) (by decide +kernel)⟩
theorem lw_p38 : lw_okq (⟨"TitleFinderModel", "lengthOf", "(I)I"⟩, 22) := ⟨⟨by decide +kernel, by decide +kernel⟩, List.mem_of_getElem? (i := 766) (by decide +kernel), List.mem_of_getElem? (i := 932) (by decide +kernel), List.mem_of_getElem? (i := 933) (by decide +kernel)⟩
theorem lw_p39 : lw_okq (⟨"TitleFinderModel", "part", "(II)I"⟩, 22) := ⟨⟨by decide +kernel, by decide +kernel⟩, List.mem_of_getElem? (i := 766) (by decide +kernel), List.mem_of_getElem? (i := 936) (by decide +kernel), List.mem_of_getElem? (i := 937) (by decide +kernel)⟩
theorem lw_p40 : lw_okq (⟨"TitleFinderModel", "characterOf", "(II)I"⟩, 22) := ⟨⟨by decide +kernel, by decide +kernel⟩, List.mem_of_getElem? (i := 766) (by decide +kernel), List.mem_of_getElem? (i := 940) (by decide +kernel), List.mem_of_getElem? (i := 941) (by decide +kernel)⟩
theorem lw_p41 : lw_okq (⟨"TitleFinderModel", "isTitle", "(I)Z"⟩, 22) := ⟨⟨by decide +kernel, by decide +kernel⟩, List.mem_of_getElem? (i := 766) (by decide +kernel), List.mem_of_getElem? (i := 944) (by decide +kernel), List.mem_of_getElem? (i := 945) (by decide +kernel)⟩
theorem lw_p42 : lw_okq (⟨"TitleFinderModel", "isRank", "(I)Z"⟩, 22) := ⟨⟨by decide +kernel, by decide +kernel⟩, List.mem_of_getElem? (i := 766) (by decide +kernel), List.mem_of_getElem? (i := 948) (by decide +kernel), List.mem_of_getElem? (i := 949) (by decide +kernel)⟩
theorem lw_p43 : lw_okq (⟨"TitleFinderModel", "findResults", "()V"⟩, 22) := ⟨⟨by decide +kernel, by decide +kernel⟩, List.mem_of_getElem? (i := 766) (by decide +kernel), List.mem_of_getElem? (i := 952) (by decide +kernel), List.mem_of_getElem? (i := 953) (by decide +kernel)⟩
theorem lw_p44 : lw_okq (⟨"TitleFinderModel", "findSources", "()V"⟩, 22) := ⟨⟨by decide +kernel, by decide +kernel⟩, List.mem_of_getElem? (i := 766) (by decide +kernel), List.mem_of_getElem? (i := 956) (by decide +kernel), List.mem_of_getElem? (i := 957) (by decide +kernel)⟩
theorem lw_p45 : lw_okq (⟨"TitleFinderModel", "beginsWord", "(II)Z"⟩, 22) := ⟨⟨by decide +kernel, by decide +kernel⟩, List.mem_of_getElem? (i := 766) (by decide +kernel), List.mem_of_getElem? (i := 960) (by decide +kernel), List.mem_of_getElem? (i := 961) (by decide +kernel)⟩
theorem lw_p46 : lw_okq (⟨"TitleFinderModel", "findPlaces", "()V"⟩, 22) := ⟨⟨by decide +kernel, by decide +kernel⟩, List.mem_of_getElem? (i := 766) (by decide +kernel), List.mem_of_getElem? (i := 964) (by decide +kernel), List.mem_of_getElem? (i := 965) (by decide +kernel)⟩
theorem lw_p47 : lw_okq (⟨"TitleFinderModel", "placeIn", "(I)I"⟩, 22) := ⟨⟨by decide +kernel, by decide +kernel⟩, List.mem_of_getElem? (i := 766) (by decide +kernel), List.mem_of_getElem? (i := 968) (by decide +kernel), List.mem_of_getElem? (i := 969) (by decide +kernel)⟩
def lw_privs_3 : List (MethodName × Nat) := [(⟨"TitleFinderModel", "readsMode", "()Z"⟩, 22), (⟨"TitleFinderModel", "readsOrder", "()Z"⟩, 22), (⟨"TitleFinderModel", "record", "()V"⟩, 22), (⟨"TitleFinderModel", "mayDo", "()Z"⟩, 22), (⟨"TitleFinderModel", "whyNotAdded", "(II)I"⟩, 22), (⟨"TitleFinderModel", "isThere", "(II)Z"⟩, 22), (⟨"TitleFinderModel", "lengthOf", "(I)I"⟩, 22), (⟨"TitleFinderModel", "part", "(II)I"⟩, 22), (⟨"TitleFinderModel", "characterOf", "(II)I"⟩, 22), (⟨"TitleFinderModel", "isTitle", "(I)Z"⟩, 22), (⟨"TitleFinderModel", "isRank", "(I)Z"⟩, 22), (⟨"TitleFinderModel", "findResults", "()V"⟩, 22), (⟨"TitleFinderModel", "findSources", "()V"⟩, 22), (⟨"TitleFinderModel", "beginsWord", "(II)Z"⟩, 22), (⟨"TitleFinderModel", "findPlaces", "()V"⟩, 22), (⟨"TitleFinderModel", "placeIn", "(I)I"⟩, 22)]
theorem lw_r3 : ∀ q ∈ lw_privs_3, lw_okq q := List.forall_mem_cons.mpr ⟨lw_p32, List.forall_mem_cons.mpr ⟨lw_p33, List.forall_mem_cons.mpr ⟨lw_p34, List.forall_mem_cons.mpr ⟨lw_p35, List.forall_mem_cons.mpr ⟨lw_p36, List.forall_mem_cons.mpr ⟨lw_p37, List.forall_mem_cons.mpr ⟨lw_p38, List.forall_mem_cons.mpr ⟨lw_p39, List.forall_mem_cons.mpr ⟨lw_p40, List.forall_mem_cons.mpr ⟨lw_p41, List.forall_mem_cons.mpr ⟨lw_p42, List.forall_mem_cons.mpr ⟨lw_p43, List.forall_mem_cons.mpr ⟨lw_p44, List.forall_mem_cons.mpr ⟨lw_p45, List.forall_mem_cons.mpr ⟨lw_p46, List.forall_mem_cons.mpr ⟨lw_p47, fun _ h => absurd h List.not_mem_nil⟩⟩⟩⟩⟩⟩⟩⟩⟩⟩⟩⟩⟩⟩⟩⟩
theorem lw_p48 : lw_okq (⟨"TitleFinderModel", "isPiece", "(III)Z"⟩, 22) := ⟨⟨by decide +kernel, by decide +kernel⟩, List.mem_of_getElem? (i := 766) (by decide +kernel), List.mem_of_getElem? (i := 972) (by decide +kernel), List.mem_of_getElem? (i := 973) (by decide +kernel)⟩
theorem lw_p49 : lw_okq (⟨"TitleFinderModel", "canStart", "(II)Z"⟩, 22) := ⟨⟨by decide +kernel, by decide +kernel⟩, List.mem_of_getElem? (i := 766) (by decide +kernel), List.mem_of_getElem? (i := 976) (by decide +kernel), List.mem_of_getElem? (i := 977) (by decide +kernel)⟩
theorem lw_p50 : lw_okq (⟨"TitleFinderModel", "sourceAt", "(II)I"⟩, 22) := ⟨⟨by decide +kernel, by decide +kernel⟩, List.mem_of_getElem? (i := 766) (by decide +kernel), List.mem_of_getElem? (i := 980) (by decide +kernel), List.mem_of_getElem? (i := 981) (by decide +kernel)⟩
theorem lw_p51 : lw_okq (⟨"TitleFinderModel", "isAhead", "(II)Z"⟩, 22) := ⟨⟨by decide +kernel, by decide +kernel⟩, List.mem_of_getElem? (i := 766) (by decide +kernel), List.mem_of_getElem? (i := 984) (by decide +kernel), List.mem_of_getElem? (i := 985) (by decide +kernel)⟩
theorem lw_p52 : lw_okq (⟨"TitleFinderModel", "isAheadByName", "(II)Z"⟩, 22) := ⟨⟨by decide +kernel, by decide +kernel⟩, List.mem_of_getElem? (i := 766) (by decide +kernel), List.mem_of_getElem? (i := 988) (by decide +kernel), List.mem_of_getElem? (i := 989) (by decide +kernel)⟩
theorem lw_p53 : lw_okq (⟨"TitleFinderModel", "isAheadByPlace", "(II)Z"⟩, 22) := ⟨⟨by decide +kernel, by decide +kernel⟩, List.mem_of_getElem? (i := 766) (by decide +kernel), List.mem_of_getElem? (i := 992) (by decide +kernel), List.mem_of_getElem? (i := 993) (by decide +kernel)⟩
theorem lw_p54 : lw_okq (⟨"TitleFinderModel", "does", "()V"⟩, 22) := ⟨⟨by decide +kernel, by decide +kernel⟩, List.mem_of_getElem? (i := 766) (by decide +kernel), List.mem_of_getElem? (i := 996) (by decide +kernel), List.mem_of_getElem? (i := 997) (by decide +kernel)⟩
theorem lw_p55 : lw_okq (⟨"TitleFinderModel", "adds", "(II)I"⟩, 22) := ⟨⟨by decide +kernel, by decide +kernel⟩, List.mem_of_getElem? (i := 766) (by decide +kernel), List.mem_of_getElem? (i := 1000) (by decide +kernel), List.mem_of_getElem? (i := 1001) (by decide +kernel)⟩
theorem lw_p56 : lw_okq (⟨"TitleFinderModel", "drops", "(I)I"⟩, 22) := ⟨⟨by decide +kernel, by decide +kernel⟩, List.mem_of_getElem? (i := 766) (by decide +kernel), List.mem_of_getElem? (i := 1004) (by decide +kernel), List.mem_of_getElem? (i := 1005) (by decide +kernel)⟩
theorem lw_p57 : lw_okq (⟨"TitleFinderModel", "picks", "(I)I"⟩, 22) := ⟨⟨by decide +kernel, by decide +kernel⟩, List.mem_of_getElem? (i := 766) (by decide +kernel), List.mem_of_getElem? (i := 1008) (by decide +kernel), List.mem_of_getElem? (i := 1009) (by decide +kernel)⟩
theorem lw_p58 : lw_okq (⟨"TitleFinderModel", "clearsQuery", "()V"⟩, 22) := ⟨⟨by decide +kernel, by decide +kernel⟩, List.mem_of_getElem? (i := 766) (by decide +kernel), List.mem_of_getElem? (i := 1012) (by decide +kernel), List.mem_of_getElem? (i := 1013) (by decide +kernel)⟩
theorem lw_p59 : lw_okq (⟨"TitleFinderModel", "whyNotTyped", "()I"⟩, 22) := ⟨⟨by decide +kernel, by decide +kernel⟩, List.mem_of_getElem? (i := 766) (by decide +kernel), List.mem_of_getElem? (i := 1020) (by decide +kernel), List.mem_of_getElem? (i := 1021) (by decide +kernel)⟩
theorem lw_p60 : lw_okq (⟨"TitleFinderModel", "ofTitle", "(II)I"⟩, 22) := ⟨⟨by decide +kernel, by decide +kernel⟩, List.mem_of_getElem? (i := 766) (by decide +kernel), List.mem_of_getElem? (i := 1040) (by decide +kernel), List.mem_of_getElem? (i := 1041) (by decide +kernel)⟩
theorem lw_p61 : lw_okq (⟨"TitleFinderModel", "words", "(I)I"⟩, 22) := ⟨⟨by decide +kernel, by decide +kernel⟩, List.mem_of_getElem? (i := 766) (by decide +kernel), List.mem_of_getElem? (i := 1044) (by decide +kernel), List.mem_of_getElem? (i := 1045) (by decide +kernel)⟩
theorem lw_p62 : lw_okq (⟨"TitleFinderModel", "findPiece", "(IZ)V"⟩, 22) := ⟨⟨by decide +kernel, by decide +kernel⟩, List.mem_of_getElem? (i := 766) (by decide +kernel), List.mem_of_getElem? (i := 1048) (by decide +kernel), List.mem_of_getElem? (i := 1049) (by decide +kernel)⟩
theorem lw_p63 : lw_okq (⟨"TitleFinderModel", "asks", "(III)V"⟩, 22) := ⟨⟨by decide +kernel, by decide +kernel⟩, List.mem_of_getElem? (i := 766) (by decide +kernel), List.mem_of_getElem? (i := 1052) (by decide +kernel), List.mem_of_getElem? (i := 1053) (by decide +kernel)⟩
def lw_privs_4 : List (MethodName × Nat) := [(⟨"TitleFinderModel", "isPiece", "(III)Z"⟩, 22), (⟨"TitleFinderModel", "canStart", "(II)Z"⟩, 22), (⟨"TitleFinderModel", "sourceAt", "(II)I"⟩, 22), (⟨"TitleFinderModel", "isAhead", "(II)Z"⟩, 22), (⟨"TitleFinderModel", "isAheadByName", "(II)Z"⟩, 22), (⟨"TitleFinderModel", "isAheadByPlace", "(II)Z"⟩, 22), (⟨"TitleFinderModel", "does", "()V"⟩, 22), (⟨"TitleFinderModel", "adds", "(II)I"⟩, 22), (⟨"TitleFinderModel", "drops", "(I)I"⟩, 22), (⟨"TitleFinderModel", "picks", "(I)I"⟩, 22), (⟨"TitleFinderModel", "clearsQuery", "()V"⟩, 22), (⟨"TitleFinderModel", "whyNotTyped", "()I"⟩, 22), (⟨"TitleFinderModel", "ofTitle", "(II)I"⟩, 22), (⟨"TitleFinderModel", "words", "(I)I"⟩, 22), (⟨"TitleFinderModel", "findPiece", "(IZ)V"⟩, 22), (⟨"TitleFinderModel", "asks", "(III)V"⟩, 22)]
theorem lw_r4 : ∀ q ∈ lw_privs_4, lw_okq q := List.forall_mem_cons.mpr ⟨lw_p48, List.forall_mem_cons.mpr ⟨lw_p49, List.forall_mem_cons.mpr ⟨lw_p50, List.forall_mem_cons.mpr ⟨lw_p51, List.forall_mem_cons.mpr ⟨lw_p52, List.forall_mem_cons.mpr ⟨lw_p53, List.forall_mem_cons.mpr ⟨lw_p54, List.forall_mem_cons.mpr ⟨lw_p55, List.forall_mem_cons.mpr ⟨lw_p56, List.forall_mem_cons.mpr ⟨lw_p57, List.forall_mem_cons.mpr ⟨lw_p58, List.forall_mem_cons.mpr ⟨lw_p59, List.forall_mem_cons.mpr ⟨lw_p60, List.forall_mem_cons.mpr ⟨lw_p61, List.forall_mem_cons.mpr ⟨lw_p62, List.forall_mem_cons.mpr ⟨lw_p63, fun _ h => absurd h List.not_mem_nil⟩⟩⟩⟩⟩⟩⟩⟩⟩⟩⟩⟩⟩⟩⟩⟩
theorem lw_p64 : lw_okq (⟨"TitleFinderModel", "isAlone", "(I)Z"⟩, 22) := ⟨⟨by decide +kernel, by decide +kernel⟩, List.mem_of_getElem? (i := 766) (by decide +kernel), List.mem_of_getElem? (i := 1056) (by decide +kernel), List.mem_of_getElem? (i := 1057) (by decide +kernel)⟩
theorem lw_p65 : lw_okq (⟨"TitleFinderModel", "isFirst", "(I)Z"⟩, 22) := ⟨⟨by decide +kernel, by decide +kernel⟩, List.mem_of_getElem? (i := 766) (by decide +kernel), List.mem_of_getElem? (i := 1060) (by decide +kernel), List.mem_of_getElem? (i := 1061) (by decide +kernel)⟩
theorem lw_p66 : lw_okq (⟨"TitleFinderModel", "longestRun", "(II)I"⟩, 22) := ⟨⟨by decide +kernel, by decide +kernel⟩, List.mem_of_getElem? (i := 766) (by decide +kernel), List.mem_of_getElem? (i := 1068) (by decide +kernel), List.mem_of_getElem? (i := 1069) (by decide +kernel)⟩
theorem lw_p67 : lw_okq (⟨"TitleFinderModel", "findKeys", "()V"⟩, 22) := ⟨⟨by decide +kernel, by decide +kernel⟩, List.mem_of_getElem? (i := 766) (by decide +kernel), List.mem_of_getElem? (i := 1080) (by decide +kernel), List.mem_of_getElem? (i := 1081) (by decide +kernel)⟩
theorem lw_p68 : lw_okq (⟨"TitleFinderModel", "unknownNow", "()I"⟩, 22) := ⟨⟨by decide +kernel, by decide +kernel⟩, List.mem_of_getElem? (i := 766) (by decide +kernel), List.mem_of_getElem? (i := 1084) (by decide +kernel), List.mem_of_getElem? (i := 1085) (by decide +kernel)⟩
theorem lw_p69 : lw_okq (⟨"TitleFinderModel", "hardestNow", "()I"⟩, 22) := ⟨⟨by decide +kernel, by decide +kernel⟩, List.mem_of_getElem? (i := 766) (by decide +kernel), List.mem_of_getElem? (i := 1092) (by decide +kernel), List.mem_of_getElem? (i := 1093) (by decide +kernel)⟩
theorem lw_p70 : lw_okq (⟨"TitleFinderModel", "resultsMany", "()I"⟩, 22) := ⟨⟨by decide +kernel, by decide +kernel⟩, List.mem_of_getElem? (i := 766) (by decide +kernel), List.mem_of_getElem? (i := 1120) (by decide +kernel), List.mem_of_getElem? (i := 1121) (by decide +kernel)⟩
def lw_privs_5 : List (MethodName × Nat) := [(⟨"TitleFinderModel", "isAlone", "(I)Z"⟩, 22), (⟨"TitleFinderModel", "isFirst", "(I)Z"⟩, 22), (⟨"TitleFinderModel", "longestRun", "(II)I"⟩, 22), (⟨"TitleFinderModel", "findKeys", "()V"⟩, 22), (⟨"TitleFinderModel", "unknownNow", "()I"⟩, 22), (⟨"TitleFinderModel", "hardestNow", "()I"⟩, 22), (⟨"TitleFinderModel", "resultsMany", "()I"⟩, 22)]
theorem lw_r5 : ∀ q ∈ lw_privs_5, lw_okq q := List.forall_mem_cons.mpr ⟨lw_p64, List.forall_mem_cons.mpr ⟨lw_p65, List.forall_mem_cons.mpr ⟨lw_p66, List.forall_mem_cons.mpr ⟨lw_p67, List.forall_mem_cons.mpr ⟨lw_p68, List.forall_mem_cons.mpr ⟨lw_p69, List.forall_mem_cons.mpr ⟨lw_p70, fun _ h => absurd h List.not_mem_nil⟩⟩⟩⟩⟩⟩⟩
def lw_privs : List (MethodName × Nat) := lw_privs_1 ++ (lw_privs_2 ++ (lw_privs_3 ++ (lw_privs_4 ++ (lw_privs_5))))
def lw_tbl : List Cond := k2_sels lw_privs ++ tables_1
theorem lw_privs_ok : ∀ q ∈ lw_privs, lw_okq q := by
  show ∀ q ∈ lw_privs_1 ++ (lw_privs_2 ++ (lw_privs_3 ++ (lw_privs_4 ++ (lw_privs_5)))), lw_okq q
  exact List.forall_mem_append.mpr ⟨lw_r1, List.forall_mem_append.mpr ⟨lw_r2, List.forall_mem_append.mpr ⟨lw_r3, List.forall_mem_append.mpr ⟨lw_r4, lw_r5⟩⟩⟩⟩
-- ===== end of PART A; then your names; then what follows =====
/-! ===== BEGIN words of one list among another's, by their places ===== -/
theorem goodIn_r {big : List Cond} (ws : List Cond) (ps : List Nat) (hp : ws = ps.filterMap (fun i => big[i]?)) (h : ws.all goodWord = true) : GoodIn big ws := by
  intro w hw
  have h1 := List.all_eq_true.mp h w hw
  rw [hp] at hw
  obtain ⟨i, -, hi⟩ := List.mem_filterMap.mp hw
  have hm : w ∈ big := by first | exact List.mem_of_getElem? hi | exact List.getElem?_mem hi
  exact ⟨hm, good_of_word h1⟩
theorem goodIn_app {big a b : List Cond} (ha : GoodIn big a) (hb : GoodIn big b) : GoodIn big (a ++ b) := fun w h => (List.mem_append.mp h).elim (ha w) (hb w)
theorem goodIn_ca {big a b : List Cond} {c : Cond} (ha : GoodIn big (c :: a)) (hb : GoodIn big b) : GoodIn big (c :: (a ++ b)) := fun w h => (List.mem_cons.mp h).elim (fun e => ha w (List.mem_cons.mpr (Or.inl e))) (fun h => (List.mem_append.mp h).elim (fun h => ha w (List.mem_cons.mpr (Or.inr h))) (hb w))
theorem goodIn_sub {big ws : List Cond} (hm : ∀ w ∈ ws, w ∈ big) (h : ws.all goodWord = true) : GoodIn big ws := fun w hw => ⟨hm w hw, good_of_word (List.all_eq_true.mp h w hw)⟩
/-! ===== END ===== -/


/-! ===== BEGIN printed: names, fields, word lists, decode rows ===== -/
def RX0 : String := "TitleFinder$History"
def TX0 : u_T := fun k => match k with
  | 0 => ("TitleFinder$History", "rows", "[LTitleFinder$State;", true)
  | 1 => ("TitleFinder$History", "newest", "I", false)
  | _ => ("TitleFinder$History", "count", "I", false)
def tyX0 : Nat → FieldType := fun k => match k with
  | 0 => .array (.object "TitleFinder$State")
  | 1 => .int
  | _ => .int
abbrev wsX00 : List Cond := u_ws RX0 TX0 3
theorem nmX0 : ∀ a, a < 3 → ∀ b, b < 3 → a ≠ b → (TX0 a).2.1 ≠ (TX0 b).2.1 := by decide +kernel
theorem tyX0_ok : ∀ k, k < 3 → parseFieldDescriptor (TX0 k).2.2.1 = some (tyX0 k) := by decide +kernel
abbrev cX0_init : ByteArray := prog_2_method_1_code
def yX0_init : MethodName := ⟨RX0, "<init>", "()V"⟩
abbrev cX0_save : ByteArray := prog_2_method_2_code
def yX0_save : MethodName := ⟨RX0, "save", "(LTitleFinder$State;)V"⟩
abbrev cX0_restore : ByteArray := prog_2_method_3_code
def yX0_restore : MethodName := ⟨RX0, "restore", "(LTitleFinder$State;)V"⟩
def RX1 : String := "TitleFinder$Ranking"
def TX1 : u_T := fun k => match k with
  | 0 => ("TitleFinder$Ranking", "ranked", "[I", true)
  | 1 => ("TitleFinder$Ranking", "places", "[I", true)
  | _ => ("TitleFinder$Ranking", "count", "I", false)
def tyX1 : Nat → FieldType := fun k => match k with
  | 0 => .array .int
  | 1 => .array .int
  | _ => .int
abbrev wsX10 : List Cond := u_ws RX1 TX1 3
theorem nmX1 : ∀ a, a < 3 → ∀ b, b < 3 → a ≠ b → (TX1 a).2.1 ≠ (TX1 b).2.1 := by decide +kernel
theorem tyX1_ok : ∀ k, k < 3 → parseFieldDescriptor (TX1 k).2.2.1 = some (tyX1 k) := by decide +kernel
abbrev cX1_init : ByteArray := prog_3_method_1_code
def yX1_init : MethodName := ⟨RX1, "<init>", "()V"⟩
abbrev cX1_rank : ByteArray := prog_3_method_2_code
def yX1_rank : MethodName := ⟨RX1, "rank", "(LTitleFinder$State;)V"⟩
abbrev cX1_insert : ByteArray := prog_3_method_3_code
def yX1_insert : MethodName := ⟨RX1, "insert", "(LTitleFinder$State;II)V"⟩
abbrev cX1_has : ByteArray := prog_3_method_4_code
def yX1_has : MethodName := ⟨RX1, "has", "(I)Z"⟩
abbrev cX1_titleAt : ByteArray := prog_3_method_5_code
def yX1_titleAt : MethodName := ⟨RX1, "titleAt", "(I)I"⟩
abbrev cX1_placeAt : ByteArray := prog_3_method_6_code
def yX1_placeAt : MethodName := ⟨RX1, "placeAt", "(I)I"⟩
def RX2 : String := "TitleFinder$State"
def TX2 : u_T := fun k => match k with
  | 0 => ("TitleFinder$State", "titles", "Ljava/util/ArrayList;", true)
  | 1 => ("TitleFinder$State", "query", "[C", true)
  | 2 => ("TitleFinder$State", "queryLength", "I", false)
  | 3 => ("TitleFinder$State", "mode", "I", false)
  | _ => ("TitleFinder$State", "order", "I", false)
def tyX2 : Nat → FieldType := fun k => match k with
  | 0 => .object "java/util/ArrayList"
  | 1 => .array .char
  | 2 => .int
  | 3 => .int
  | _ => .int
abbrev wsX20 : List Cond := u_ws RX2 TX2 5
theorem nmX2 : ∀ a, a < 5 → ∀ b, b < 5 → a ≠ b → (TX2 a).2.1 ≠ (TX2 b).2.1 := by decide +kernel
theorem tyX2_ok : ∀ k, k < 5 → parseFieldDescriptor (TX2 k).2.2.1 = some (tyX2 k) := by decide +kernel
abbrev cX2_init : ByteArray := prog_4_method_1_code
def yX2_init : MethodName := ⟨RX2, "<init>", "()V"⟩
abbrev cX2_copyFrom : ByteArray := prog_4_method_2_code
def yX2_copyFrom : MethodName := ⟨RX2, "copyFrom", "(LTitleFinder$State;)V"⟩
abbrev cX2_has : ByteArray := prog_4_method_3_code
def yX2_has : MethodName := ⟨RX2, "has", "(I)Z"⟩
abbrev cX2_refusal : ByteArray := prog_4_method_4_code
def yX2_refusal : MethodName := ⟨RX2, "refusal", "(LTitleFinder$Title;)I"⟩
abbrev cX2_appendToQuery : ByteArray := prog_4_method_5_code
def yX2_appendToQuery : MethodName := ⟨RX2, "appendToQuery", "(C)V"⟩
abbrev cX2_queryEndsWithLetter : ByteArray := prog_4_method_6_code
def yX2_queryEndsWithLetter : MethodName := ⟨RX2, "queryEndsWithLetter", "()Z"⟩
abbrev cX2_placeOfMatch : ByteArray := prog_4_method_7_code
def yX2_placeOfMatch : MethodName := ⟨RX2, "placeOfMatch", "(I)I"⟩
abbrev cX2_comesBefore : ByteArray := prog_4_method_8_code
def yX2_comesBefore : MethodName := ⟨RX2, "comesBefore", "(IIII)Z"⟩
def RX3 : String := "TitleFinder$Study"
def TX3 : u_T := fun k => match k with
  | 0 => ("TitleFinder$Study", "places", "[[I", true)
  | 1 => ("TitleFinder$Study", "keyStart", "I", false)
  | 2 => ("TitleFinder$Study", "keyLength", "I", false)
  | 3 => ("TitleFinder$Study", "shortcutStart", "I", false)
  | _ => ("TitleFinder$Study", "shortcutLength", "I", false)
def tyX3 : Nat → FieldType := fun k => match k with
  | 0 => .array (.array .int)
  | 1 => .int
  | 2 => .int
  | 3 => .int
  | _ => .int
abbrev wsX30 : List Cond := u_ws RX3 TX3 5
theorem nmX3 : ∀ a, a < 5 → ∀ b, b < 5 → a ≠ b → (TX3 a).2.1 ≠ (TX3 b).2.1 := by decide +kernel
theorem tyX3_ok : ∀ k, k < 5 → parseFieldDescriptor (TX3 k).2.2.1 = some (tyX3 k) := by decide +kernel
abbrev cX3_init : ByteArray := prog_5_method_1_code
def yX3_init : MethodName := ⟨RX3, "<init>", "()V"⟩
abbrev cX3_look : ByteArray := prog_5_method_2_code
def yX3_look : MethodName := ⟨RX3, "look", "(LTitleFinder$State;I)V"⟩
abbrev cX3_hasKey : ByteArray := prog_5_method_3_code
def yX3_hasKey : MethodName := ⟨RX3, "hasKey", "()Z"⟩
abbrev cX3_hasShortcut : ByteArray := prog_5_method_4_code
def yX3_hasShortcut : MethodName := ⟨RX3, "hasShortcut", "()Z"⟩
abbrev cX3_lookAtPiecesFrom : ByteArray := prog_5_method_5_code
def yX3_lookAtPiecesFrom : MethodName := ⟨RX3, "lookAtPiecesFrom", "(I[CLTitleFinder$State;I)V"⟩
abbrev cX3_longestWanted : ByteArray := prog_5_method_6_code
def yX3_longestWanted : MethodName := ⟨RX3, "longestWanted", "()I"⟩
abbrev cX3_findPlaces : ByteArray := prog_5_method_7_code
def yX3_findPlaces : MethodName := ⟨RX3, "findPlaces", "([II[CILTitleFinder$Title;I)V"⟩
abbrev cX3_isKnownBy : ByteArray := prog_5_method_8_code
def yX3_isKnownBy : MethodName := ⟨RX3, "isKnownBy", "(ILTitleFinder$State;I)Z"⟩
abbrev cX3_isFirstFor : ByteArray := prog_5_method_9_code
def yX3_isFirstFor : MethodName := ⟨RX3, "isFirstFor", "(ILTitleFinder$State;I)Z"⟩
abbrev cX3_placeOf : ByteArray := prog_5_method_10_code
def yX3_placeOf : MethodName := ⟨RX3, "placeOf", "(II)I"⟩
def RX4 : String := "TitleFinder$Text"
def TX4 : u_T := fun k => match k with
  | 0 => ("TitleFinder$Text", "signs", "[C", true)
  | 1 => ("TitleFinder$Text", "length", "I", false)
  | 2 => ("TitleFinder$Text", "at", "I", false)
  | 3 => ("TitleFinder$Text", "command", "I", false)
  | 4 => ("TitleFinder$Text", "value", "I", false)
  | 5 => ("TitleFinder$Text", "from", "I", false)
  | _ => ("TitleFinder$Text", "to", "I", false)
def tyX4 : Nat → FieldType := fun k => match k with
  | 0 => .array .char
  | 1 => .int
  | 2 => .int
  | 3 => .int
  | 4 => .int
  | 5 => .int
  | _ => .int
abbrev wsX40 : List Cond := u_ws RX4 TX4 7
theorem nmX4 : ∀ a, a < 7 → ∀ b, b < 7 → a ≠ b → (TX4 a).2.1 ≠ (TX4 b).2.1 := by decide +kernel
theorem tyX4_ok : ∀ k, k < 7 → parseFieldDescriptor (TX4 k).2.2.1 = some (tyX4 k) := by decide +kernel
abbrev cX4_init : ByteArray := prog_6_method_1_code
def yX4_init : MethodName := ⟨RX4, "<init>", "()V"⟩
abbrev cX4_append : ByteArray := prog_6_method_2_code
def yX4_append : MethodName := ⟨RX4, "append", "(C)Z"⟩
abbrev cX4_makeEmpty : ByteArray := prog_6_method_3_code
def yX4_makeEmpty : MethodName := ⟨RX4, "makeEmpty", "()V"⟩
abbrev cX4_rewind : ByteArray := prog_6_method_4_code
def yX4_rewind : MethodName := ⟨RX4, "rewind", "()V"⟩
abbrev cX4_findFault : ByteArray := prog_6_method_5_code
def yX4_findFault : MethodName := ⟨RX4, "findFault", "()I"⟩
abbrev cX4_isTitle : ByteArray := prog_6_method_6_code
def yX4_isTitle : MethodName := ⟨RX4, "isTitle", "()Z"⟩
abbrev cX4_passCommand : ByteArray := prog_6_method_7_code
def yX4_passCommand : MethodName := ⟨RX4, "passCommand", "()Z"⟩
abbrev cX4_passSemicolon : ByteArray := prog_6_method_8_code
def yX4_passSemicolon : MethodName := ⟨RX4, "passSemicolon", "()Z"⟩
abbrev cX4_passTitle : ByteArray := prog_6_method_9_code
def yX4_passTitle : MethodName := ⟨RX4, "passTitle", "()Z"⟩
abbrev cX4_passNumber : ByteArray := prog_6_method_10_code
def yX4_passNumber : MethodName := ⟨RX4, "passNumber", "()Z"⟩
abbrev cX4_passName : ByteArray := prog_6_method_11_code
def yX4_passName : MethodName := ⟨RX4, "passName", "(II)Z"⟩
abbrev cX4_passOneOf : ByteArray := prog_6_method_12_code
def yX4_passOneOf : MethodName := ⟨RX4, "passOneOf", "(II)I"⟩
abbrev cX4_sameLength : ByteArray := prog_6_method_13_code
def yX4_sameLength : MethodName := ⟨RX4, "sameLength", "(Ljava/lang/String;)I"⟩
abbrev cX4_hasSign : ByteArray := prog_6_method_14_code
def yX4_hasSign : MethodName := ⟨RX4, "hasSign", "()Z"⟩
abbrev cX4_word : ByteArray := prog_6_method_15_code
def yX4_word : MethodName := ⟨RX4, "word", "(I)Ljava/lang/String;"⟩
abbrev cX4_name : ByteArray := prog_6_method_16_code
def yX4_name : MethodName := ⟨RX4, "name", "(I)Ljava/lang/String;"⟩
abbrev cX4_isLetter : ByteArray := prog_6_method_17_code
def yX4_isLetter : MethodName := ⟨RX4, "isLetter", "(I)Z"⟩
abbrev cX4_isDigit : ByteArray := prog_6_method_18_code
def yX4_isDigit : MethodName := ⟨RX4, "isDigit", "(I)Z"⟩
abbrev cX4_passedTitle : ByteArray := prog_6_method_19_code
def yX4_passedTitle : MethodName := ⟨RX4, "passedTitle", "()LTitleFinder$Title;"⟩
abbrev cX4_copyPassed : ByteArray := prog_6_method_20_code
def yX4_copyPassed : MethodName := ⟨RX4, "copyPassed", "(LTitleFinder$State;)V"⟩
def RX5 : String := "TitleFinder$Title"
def TX5 : u_T := fun k => match k with
  | 0 => ("TitleFinder$Title", "letters", "[C", true)
  | 1 => ("TitleFinder$Title", "initials", "[C", true)
  | _ => ("TitleFinder$Title", "uses", "I", true)
def tyX5 : Nat → FieldType := fun k => match k with
  | 0 => .array .char
  | 1 => .array .char
  | _ => .int
abbrev wsX50 : List Cond := u_ws RX5 TX5 3
theorem nmX5 : ∀ a, a < 3 → ∀ b, b < 3 → a ≠ b → (TX5 a).2.1 ≠ (TX5 b).2.1 := by decide +kernel
theorem tyX5_ok : ∀ k, k < 3 → parseFieldDescriptor (TX5 k).2.2.1 = some (tyX5 k) := by decide +kernel
abbrev cX5_init : ByteArray := prog_7_method_1_code
def yX5_init : MethodName := ⟨RX5, "<init>", "([C[CI)V"⟩
abbrev cX5_unused : ByteArray := prog_7_method_2_code
def yX5_unused : MethodName := ⟨RX5, "unused", "([C)LTitleFinder$Title;"⟩
abbrev cX5_initialsOf : ByteArray := prog_7_method_3_code
def yX5_initialsOf : MethodName := ⟨RX5, "initialsOf", "([C)[C"⟩
abbrev cX5_wordCount : ByteArray := prog_7_method_4_code
def yX5_wordCount : MethodName := ⟨RX5, "wordCount", "([C)I"⟩
abbrev cX5_usedOnceMore : ByteArray := prog_7_method_5_code
def yX5_usedOnceMore : MethodName := ⟨RX5, "usedOnceMore", "()LTitleFinder$Title;"⟩
abbrev cX5_run : ByteArray := prog_7_method_6_code
def yX5_run : MethodName := ⟨RX5, "run", "(I)[C"⟩
abbrev cX5_startsPiece : ByteArray := prog_7_method_7_code
def yX5_startsPiece : MethodName := ⟨RX5, "startsPiece", "(II)Z"⟩
abbrev cX5_placeOf : ByteArray := prog_7_method_8_code
def yX5_placeOf : MethodName := ⟨RX5, "placeOf", "([CII)I"⟩
abbrev cX5_commonRun : ByteArray := prog_7_method_9_code
def yX5_commonRun : MethodName := ⟨RX5, "commonRun", "(LTitleFinder$Title;)I"⟩
abbrev cX5_hasLettersOf : ByteArray := prog_7_method_10_code
def yX5_hasLettersOf : MethodName := ⟨RX5, "hasLettersOf", "(LTitleFinder$Title;)Z"⟩
abbrev cX5_comesByNameBefore : ByteArray := prog_7_method_11_code
def yX5_comesByNameBefore : MethodName := ⟨RX5, "comesByNameBefore", "(LTitleFinder$Title;)Z"⟩
abbrev cX5_sameLength : ByteArray := prog_7_method_12_code
def yX5_sameLength : MethodName := ⟨RX5, "sameLength", "([CI[CII)I"⟩
def RX6 : String := "TitleFinder"
def TX6 : u_T := fun k => match k with
  | 0 => ("TitleFinder", "state", "LTitleFinder$State;", true)
  | 1 => ("TitleFinder", "trial", "LTitleFinder$State;", true)
  | 2 => ("TitleFinder", "history", "LTitleFinder$History;", true)
  | 3 => ("TitleFinder", "text", "LTitleFinder$Text;", true)
  | 4 => ("TitleFinder", "ranking", "LTitleFinder$Ranking;", true)
  | _ => ("TitleFinder", "study", "LTitleFinder$Study;", true)
def tyX6 : Nat → FieldType := fun k => match k with
  | 0 => .object "TitleFinder$State"
  | 1 => .object "TitleFinder$State"
  | 2 => .object "TitleFinder$History"
  | 3 => .object "TitleFinder$Text"
  | 4 => .object "TitleFinder$Ranking"
  | _ => .object "TitleFinder$Study"
abbrev wsX60 : List Cond := u_ws RX6 TX6 6
theorem nmX6 : ∀ a, a < 6 → ∀ b, b < 6 → a ≠ b → (TX6 a).2.1 ≠ (TX6 b).2.1 := by decide +kernel
theorem tyX6_ok : ∀ k, k < 6 → parseFieldDescriptor (TX6 k).2.2.1 = some (tyX6 k) := by decide +kernel
abbrev cX6_init : ByteArray := prog_1_method_1_code
def yX6_init : MethodName := ⟨RX6, "<init>", "()V"⟩
abbrev cX6_type : ByteArray := prog_1_method_2_code
def yX6_type : MethodName := ⟨RX6, "type", "(I)I"⟩
abbrev cX6_clearText : ByteArray := prog_1_method_3_code
def yX6_clearText : MethodName := ⟨RX6, "clearText", "()I"⟩
abbrev cX6_syntaxError : ByteArray := prog_1_method_4_code
def yX6_syntaxError : MethodName := ⟨RX6, "syntaxError", "()I"⟩
abbrev cX6_carryOut : ByteArray := prog_1_method_5_code
def yX6_carryOut : MethodName := ⟨RX6, "carryOut", "()I"⟩
abbrev cX6_obeyed : ByteArray := prog_1_method_6_code
def yX6_obeyed : MethodName := ⟨RX6, "obeyed", "()Z"⟩
abbrev cX6_add : ByteArray := prog_1_method_7_code
def yX6_add : MethodName := ⟨RX6, "add", "()I"⟩
abbrev cX6_addIfPossible : ByteArray := prog_1_method_8_code
def yX6_addIfPossible : MethodName := ⟨RX6, "addIfPossible", "(LTitleFinder$Title;)I"⟩
abbrev cX6_drop : ByteArray := prog_1_method_9_code
def yX6_drop : MethodName := ⟨RX6, "drop", "(I)I"⟩
abbrev cX6_dropIfThere : ByteArray := prog_1_method_10_code
def yX6_dropIfThere : MethodName := ⟨RX6, "dropIfThere", "(I)Z"⟩
abbrev cX6_titles : ByteArray := prog_1_method_11_code
def yX6_titles : MethodName := ⟨RX6, "titles", "()I"⟩
abbrev cX6_character : ByteArray := prog_1_method_12_code
def yX6_character : MethodName := ⟨RX6, "character", "(II)I"⟩
abbrev cX6_of : ByteArray := prog_1_method_13_code
def yX6_of : MethodName := ⟨RX6, "of", "(II)I"⟩
abbrev cX6_studiedNumber : ByteArray := prog_1_method_14_code
def yX6_studiedNumber : MethodName := ⟨RX6, "studiedNumber", "(LTitleFinder$Title;I)I"⟩
abbrev cX6_common : ByteArray := prog_1_method_15_code
def yX6_common : MethodName := ⟨RX6, "common", "(II)I"⟩
abbrev cX6_closest : ByteArray := prog_1_method_16_code
def yX6_closest : MethodName := ⟨RX6, "closest", "(I)I"⟩
abbrev cX6_unknown : ByteArray := prog_1_method_17_code
def yX6_unknown : MethodName := ⟨RX6, "unknown", "()I"⟩
abbrev cX6_hardest : ByteArray := prog_1_method_18_code
def yX6_hardest : MethodName := ⟨RX6, "hardest", "()I"⟩
abbrev cX6_ifAdded : ByteArray := prog_1_method_19_code
def yX6_ifAdded : MethodName := ⟨RX6, "ifAdded", "()I"⟩
abbrev cX6_keyWouldChange : ByteArray := prog_1_method_20_code
def yX6_keyWouldChange : MethodName := ⟨RX6, "keyWouldChange", "(I)Z"⟩
abbrev cX6_setMode : ByteArray := prog_1_method_21_code
def yX6_setMode : MethodName := ⟨RX6, "setMode", "(I)I"⟩
abbrev cX6_setOrder : ByteArray := prog_1_method_22_code
def yX6_setOrder : MethodName := ⟨RX6, "setOrder", "(I)I"⟩
abbrev cX6_mode : ByteArray := prog_1_method_23_code
def yX6_mode : MethodName := ⟨RX6, "mode", "()I"⟩
abbrev cX6_order : ByteArray := prog_1_method_24_code
def yX6_order : MethodName := ⟨RX6, "order", "()I"⟩
abbrev cX6_ask : ByteArray := prog_1_method_25_code
def yX6_ask : MethodName := ⟨RX6, "ask", "(I)I"⟩
abbrev cX6_erase : ByteArray := prog_1_method_26_code
def yX6_erase : MethodName := ⟨RX6, "erase", "()I"⟩
abbrev cX6_queryLength : ByteArray := prog_1_method_27_code
def yX6_queryLength : MethodName := ⟨RX6, "queryLength", "()I"⟩
abbrev cX6_queryCharacter : ByteArray := prog_1_method_28_code
def yX6_queryCharacter : MethodName := ⟨RX6, "queryCharacter", "(I)I"⟩
abbrev cX6_results : ByteArray := prog_1_method_29_code
def yX6_results : MethodName := ⟨RX6, "results", "()I"⟩
abbrev cX6_result : ByteArray := prog_1_method_30_code
def yX6_result : MethodName := ⟨RX6, "result", "(I)I"⟩
abbrev cX6_matchPlace : ByteArray := prog_1_method_31_code
def yX6_matchPlace : MethodName := ⟨RX6, "matchPlace", "(I)I"⟩
abbrev cX6_pick : ByteArray := prog_1_method_32_code
def yX6_pick : MethodName := ⟨RX6, "pick", "(I)I"⟩
abbrev cX6_pickIfThere : ByteArray := prog_1_method_33_code
def yX6_pickIfThere : MethodName := ⟨RX6, "pickIfThere", "(I)I"⟩
abbrev cX6_undo : ByteArray := prog_1_method_34_code
def yX6_undo : MethodName := ⟨RX6, "undo", "()I"⟩
abbrev cX6_digest : ByteArray := prog_1_method_35_code
def yX6_digest : MethodName := ⟨RX6, "digest", "()J"⟩
abbrev cX6_hashWithTitle : ByteArray := prog_1_method_36_code
def yX6_hashWithTitle : MethodName := ⟨RX6, "hashWithTitle", "(JILTitleFinder$Title;)J"⟩
abbrev cX6_hashWithResults : ByteArray := prog_1_method_37_code
def yX6_hashWithResults : MethodName := ⟨RX6, "hashWithResults", "(J)J"⟩
abbrev cX6_hashWith : ByteArray := prog_1_method_38_code
def yX6_hashWith : MethodName := ⟨RX6, "hashWith", "(JI)J"⟩
def RX7 : String := "TitleFinderModel"
def TX7 : u_T := fun k => match k with
  | 0 => ("TitleFinderModel", "state", "[I", true)
  | 1 => ("TitleFinderModel", "history", "[I", true)
  | 2 => ("TitleFinderModel", "recorded", "I", false)
  | 3 => ("TitleFinderModel", "text", "[I", true)
  | 4 => ("TitleFinderModel", "textLength", "I", false)
  | 5 => ("TitleFinderModel", "source", "[I", true)
  | 6 => ("TitleFinderModel", "sourceLength", "[I", true)
  | 7 => ("TitleFinderModel", "asked", "[I", true)
  | 8 => ("TitleFinderModel", "askedLength", "I", false)
  | 9 => ("TitleFinderModel", "ranked", "[I", true)
  | 10 => ("TitleFinderModel", "rankedMany", "I", false)
  | 11 => ("TitleFinderModel", "places", "[I", true)
  | 12 => ("TitleFinderModel", "foundStart", "I", false)
  | 13 => ("TitleFinderModel", "foundLength", "I", false)
  | 14 => ("TitleFinderModel", "starts", "[I", true)
  | 15 => ("TitleFinderModel", "lengths", "[I", true)
  | 16 => ("TitleFinderModel", "runs", "[I", true)
  | 17 => ("TitleFinderModel", "at", "I", false)
  | 18 => ("TitleFinderModel", "command", "I", false)
  | 19 => ("TitleFinderModel", "number", "I", false)
  | 20 => ("TitleFinderModel", "begin", "I", false)
  | _ => ("TitleFinderModel", "end", "I", false)
def tyX7 : Nat → FieldType := fun k => match k with
  | 0 => .array .int
  | 1 => .array .int
  | 2 => .int
  | 3 => .array .int
  | 4 => .int
  | 5 => .array .int
  | 6 => .array .int
  | 7 => .array .int
  | 8 => .int
  | 9 => .array .int
  | 10 => .int
  | 11 => .array .int
  | 12 => .int
  | 13 => .int
  | 14 => .array .int
  | 15 => .array .int
  | 16 => .array .int
  | 17 => .int
  | 18 => .int
  | 19 => .int
  | 20 => .int
  | _ => .int
abbrev wsX70 : List Cond := u_ws RX7 TX7 22
theorem nmX7 : ∀ a, a < 22 → ∀ b, b < 22 → a ≠ b → (TX7 a).2.1 ≠ (TX7 b).2.1 := by decide +kernel
theorem tyX7_ok : ∀ k, k < 22 → parseFieldDescriptor (TX7 k).2.2.1 = some (tyX7 k) := by decide +kernel
abbrev cX7_init : ByteArray := prog_9_method_1_code
def yX7_init : MethodName := ⟨RX7, "<init>", "()V"⟩
abbrev cX7_within : ByteArray := prog_9_method_3_code
def yX7_within : MethodName := ⟨RX7, "within", "(III)Z"⟩
abbrev cX7_record : ByteArray := prog_9_method_4_code
def yX7_record : MethodName := ⟨RX7, "record", "()V"⟩
abbrev cX7_isTitle : ByteArray := prog_9_method_5_code
def yX7_isTitle : MethodName := ⟨RX7, "isTitle", "(I)Z"⟩
abbrev cX7_part : ByteArray := prog_9_method_6_code
def yX7_part : MethodName := ⟨RX7, "part", "(II)I"⟩
abbrev cX7_lengthOf : ByteArray := prog_9_method_7_code
def yX7_lengthOf : MethodName := ⟨RX7, "lengthOf", "(I)I"⟩
abbrev cX7_characterOf : ByteArray := prog_9_method_8_code
def yX7_characterOf : MethodName := ⟨RX7, "characterOf", "(II)I"⟩
abbrev cX7_isLetter : ByteArray := prog_9_method_9_code
def yX7_isLetter : MethodName := ⟨RX7, "isLetter", "(I)Z"⟩
abbrev cX7_beginsWord : ByteArray := prog_9_method_10_code
def yX7_beginsWord : MethodName := ⟨RX7, "beginsWord", "(II)Z"⟩
abbrev cX7_findSources : ByteArray := prog_9_method_11_code
def yX7_findSources : MethodName := ⟨RX7, "findSources", "()V"⟩
abbrev cX7_sourceAt : ByteArray := prog_9_method_12_code
def yX7_sourceAt : MethodName := ⟨RX7, "sourceAt", "(II)I"⟩
abbrev cX7_canStart : ByteArray := prog_9_method_13_code
def yX7_canStart : MethodName := ⟨RX7, "canStart", "(II)Z"⟩
abbrev cX7_isPiece : ByteArray := prog_9_method_14_code
def yX7_isPiece : MethodName := ⟨RX7, "isPiece", "(III)Z"⟩
abbrev cX7_asks : ByteArray := prog_9_method_15_code
def yX7_asks : MethodName := ⟨RX7, "asks", "(III)V"⟩
abbrev cX7_placeIn : ByteArray := prog_9_method_16_code
def yX7_placeIn : MethodName := ⟨RX7, "placeIn", "(I)I"⟩
abbrev cX7_isAheadByName : ByteArray := prog_9_method_17_code
def yX7_isAheadByName : MethodName := ⟨RX7, "isAheadByName", "(II)Z"⟩
abbrev cX7_isAheadByPlace : ByteArray := prog_9_method_18_code
def yX7_isAheadByPlace : MethodName := ⟨RX7, "isAheadByPlace", "(II)Z"⟩
abbrev cX7_isAhead : ByteArray := prog_9_method_19_code
def yX7_isAhead : MethodName := ⟨RX7, "isAhead", "(II)Z"⟩
abbrev cX7_findPlaces : ByteArray := prog_9_method_20_code
def yX7_findPlaces : MethodName := ⟨RX7, "findPlaces", "()V"⟩
abbrev cX7_findResults : ByteArray := prog_9_method_21_code
def yX7_findResults : MethodName := ⟨RX7, "findResults", "()V"⟩
abbrev cX7_isAlone : ByteArray := prog_9_method_22_code
def yX7_isAlone : MethodName := ⟨RX7, "isAlone", "(I)Z"⟩
abbrev cX7_isFirst : ByteArray := prog_9_method_23_code
def yX7_isFirst : MethodName := ⟨RX7, "isFirst", "(I)Z"⟩
abbrev cX7_findPiece : ByteArray := prog_9_method_24_code
def yX7_findPiece : MethodName := ⟨RX7, "findPiece", "(IZ)V"⟩
abbrev cX7_findKeys : ByteArray := prog_9_method_25_code
def yX7_findKeys : MethodName := ⟨RX7, "findKeys", "()V"⟩
abbrev cX7_unknownNow : ByteArray := prog_9_method_26_code
def yX7_unknownNow : MethodName := ⟨RX7, "unknownNow", "()I"⟩
abbrev cX7_hardestNow : ByteArray := prog_9_method_27_code
def yX7_hardestNow : MethodName := ⟨RX7, "hardestNow", "()I"⟩
abbrev cX7_type : ByteArray := prog_9_method_28_code
def yX7_type : MethodName := ⟨RX7, "type", "(I)I"⟩
abbrev cX7_clearText : ByteArray := prog_9_method_29_code
def yX7_clearText : MethodName := ⟨RX7, "clearText", "()I"⟩
abbrev cX7_typedAt : ByteArray := prog_9_method_30_code
def yX7_typedAt : MethodName := ⟨RX7, "typedAt", "(I)I"⟩
abbrev cX7_isNext : ByteArray := prog_9_method_31_code
def yX7_isNext : MethodName := ⟨RX7, "isNext", "(I)Z"⟩
abbrev cX7_readsWord : ByteArray := prog_9_method_32_code
def yX7_readsWord : MethodName := ⟨RX7, "readsWord", "(J)Z"⟩
abbrev cX7_readsTitle : ByteArray := prog_9_method_33_code
def yX7_readsTitle : MethodName := ⟨RX7, "readsTitle", "()Z"⟩
abbrev cX7_readsNumber : ByteArray := prog_9_method_34_code
def yX7_readsNumber : MethodName := ⟨RX7, "readsNumber", "()Z"⟩
abbrev cX7_readsMode : ByteArray := prog_9_method_35_code
def yX7_readsMode : MethodName := ⟨RX7, "readsMode", "()Z"⟩
abbrev cX7_readsOrder : ByteArray := prog_9_method_36_code
def yX7_readsOrder : MethodName := ⟨RX7, "readsOrder", "()Z"⟩
abbrev cX7_readsAddOrAsk : ByteArray := prog_9_method_37_code
def yX7_readsAddOrAsk : MethodName := ⟨RX7, "readsAddOrAsk", "()Z"⟩
abbrev cX7_readsCommand : ByteArray := prog_9_method_38_code
def yX7_readsCommand : MethodName := ⟨RX7, "readsCommand", "()Z"⟩
abbrev cX7_findError : ByteArray := prog_9_method_39_code
def yX7_findError : MethodName := ⟨RX7, "findError", "()I"⟩
abbrev cX7_syntaxError : ByteArray := prog_9_method_40_code
def yX7_syntaxError : MethodName := ⟨RX7, "syntaxError", "()I"⟩
abbrev cX7_isThere : ByteArray := prog_9_method_41_code
def yX7_isThere : MethodName := ⟨RX7, "isThere", "(II)Z"⟩
abbrev cX7_whyNotAdded : ByteArray := prog_9_method_42_code
def yX7_whyNotAdded : MethodName := ⟨RX7, "whyNotAdded", "(II)I"⟩
abbrev cX7_adds : ByteArray := prog_9_method_43_code
def yX7_adds : MethodName := ⟨RX7, "adds", "(II)I"⟩
abbrev cX7_drops : ByteArray := prog_9_method_44_code
def yX7_drops : MethodName := ⟨RX7, "drops", "(I)I"⟩
abbrev cX7_clearsQuery : ByteArray := prog_9_method_45_code
def yX7_clearsQuery : MethodName := ⟨RX7, "clearsQuery", "()V"⟩
abbrev cX7_picks : ByteArray := prog_9_method_46_code
def yX7_picks : MethodName := ⟨RX7, "picks", "(I)I"⟩
abbrev cX7_isRank : ByteArray := prog_9_method_47_code
def yX7_isRank : MethodName := ⟨RX7, "isRank", "(I)Z"⟩
abbrev cX7_mayDo : ByteArray := prog_9_method_48_code
def yX7_mayDo : MethodName := ⟨RX7, "mayDo", "()Z"⟩
abbrev cX7_does : ByteArray := prog_9_method_49_code
def yX7_does : MethodName := ⟨RX7, "does", "()V"⟩
abbrev cX7_carryOut : ByteArray := prog_9_method_50_code
def yX7_carryOut : MethodName := ⟨RX7, "carryOut", "()I"⟩
abbrev cX7_whyNotTyped : ByteArray := prog_9_method_51_code
def yX7_whyNotTyped : MethodName := ⟨RX7, "whyNotTyped", "()I"⟩
abbrev cX7_add : ByteArray := prog_9_method_52_code
def yX7_add : MethodName := ⟨RX7, "add", "()I"⟩
abbrev cX7_drop : ByteArray := prog_9_method_53_code
def yX7_drop : MethodName := ⟨RX7, "drop", "(I)I"⟩
abbrev cX7_titles : ByteArray := prog_9_method_54_code
def yX7_titles : MethodName := ⟨RX7, "titles", "()I"⟩
abbrev cX7_character : ByteArray := prog_9_method_55_code
def yX7_character : MethodName := ⟨RX7, "character", "(II)I"⟩
abbrev cX7_words : ByteArray := prog_9_method_56_code
def yX7_words : MethodName := ⟨RX7, "words", "(I)I"⟩
abbrev cX7_ofTitle : ByteArray := prog_9_method_57_code
def yX7_ofTitle : MethodName := ⟨RX7, "ofTitle", "(II)I"⟩
abbrev cX7_of : ByteArray := prog_9_method_58_code
def yX7_of : MethodName := ⟨RX7, "of", "(II)I"⟩
abbrev cX7_longestRun : ByteArray := prog_9_method_59_code
def yX7_longestRun : MethodName := ⟨RX7, "longestRun", "(II)I"⟩
abbrev cX7_common : ByteArray := prog_9_method_60_code
def yX7_common : MethodName := ⟨RX7, "common", "(II)I"⟩
abbrev cX7_closest : ByteArray := prog_9_method_61_code
def yX7_closest : MethodName := ⟨RX7, "closest", "(I)I"⟩
abbrev cX7_unknown : ByteArray := prog_9_method_62_code
def yX7_unknown : MethodName := ⟨RX7, "unknown", "()I"⟩
abbrev cX7_hardest : ByteArray := prog_9_method_63_code
def yX7_hardest : MethodName := ⟨RX7, "hardest", "()I"⟩
abbrev cX7_ifAdded : ByteArray := prog_9_method_64_code
def yX7_ifAdded : MethodName := ⟨RX7, "ifAdded", "()I"⟩
abbrev cX7_setMode : ByteArray := prog_9_method_65_code
def yX7_setMode : MethodName := ⟨RX7, "setMode", "(I)I"⟩
abbrev cX7_setOrder : ByteArray := prog_9_method_66_code
def yX7_setOrder : MethodName := ⟨RX7, "setOrder", "(I)I"⟩
abbrev cX7_mode : ByteArray := prog_9_method_67_code
def yX7_mode : MethodName := ⟨RX7, "mode", "()I"⟩
abbrev cX7_order : ByteArray := prog_9_method_68_code
def yX7_order : MethodName := ⟨RX7, "order", "()I"⟩
abbrev cX7_resultsMany : ByteArray := prog_9_method_69_code
def yX7_resultsMany : MethodName := ⟨RX7, "resultsMany", "()I"⟩
abbrev cX7_ask : ByteArray := prog_9_method_70_code
def yX7_ask : MethodName := ⟨RX7, "ask", "(I)I"⟩
abbrev cX7_erase : ByteArray := prog_9_method_71_code
def yX7_erase : MethodName := ⟨RX7, "erase", "()I"⟩
abbrev cX7_queryLength : ByteArray := prog_9_method_72_code
def yX7_queryLength : MethodName := ⟨RX7, "queryLength", "()I"⟩
abbrev cX7_queryCharacter : ByteArray := prog_9_method_73_code
def yX7_queryCharacter : MethodName := ⟨RX7, "queryCharacter", "(I)I"⟩
abbrev cX7_results : ByteArray := prog_9_method_74_code
def yX7_results : MethodName := ⟨RX7, "results", "()I"⟩
abbrev cX7_result : ByteArray := prog_9_method_75_code
def yX7_result : MethodName := ⟨RX7, "result", "(I)I"⟩
abbrev cX7_matchPlace : ByteArray := prog_9_method_76_code
def yX7_matchPlace : MethodName := ⟨RX7, "matchPlace", "(I)I"⟩
abbrev cX7_pick : ByteArray := prog_9_method_77_code
def yX7_pick : MethodName := ⟨RX7, "pick", "(I)I"⟩
abbrev cX7_undo : ByteArray := prog_9_method_78_code
def yX7_undo : MethodName := ⟨RX7, "undo", "()I"⟩
abbrev cX7_digest : ByteArray := prog_9_method_79_code
def yX7_digest : MethodName := ⟨RX7, "digest", "()J"⟩
def RJx145de : String := "java/io/Serializable"
def TJx145de : u_T := fun k => match k with
  | _ => ("", "", "", false)
def tyJx145de : Nat → FieldType := fun k => match k with
  | _ => .int
abbrev wsJx145de0 : List Cond := u_ws RJx145de TJx145de 0
theorem nmJx145de : ∀ a, a < 0 → ∀ b, b < 0 → a ≠ b → (TJx145de a).2.1 ≠ (TJx145de b).2.1 := by decide +kernel
theorem tyJx145de_ok : ∀ k, k < 0 → parseFieldDescriptor (TJx145de k).2.2.1 = some (tyJx145de k) := by decide +kernel
def RJx9f9b0 : String := "java/lang/CharSequence"
def TJx9f9b0 : u_T := fun k => match k with
  | _ => ("", "", "", false)
def tyJx9f9b0 : Nat → FieldType := fun k => match k with
  | _ => .int
abbrev wsJx9f9b00 : List Cond := u_ws RJx9f9b0 TJx9f9b0 0
theorem nmJx9f9b0 : ∀ a, a < 0 → ∀ b, b < 0 → a ≠ b → (TJx9f9b0 a).2.1 ≠ (TJx9f9b0 b).2.1 := by decide +kernel
theorem tyJx9f9b0_ok : ∀ k, k < 0 → parseFieldDescriptor (TJx9f9b0 k).2.2.1 = some (tyJx9f9b0 k) := by decide +kernel
def RJx8e188 : String := "java/lang/Cloneable"
def TJx8e188 : u_T := fun k => match k with
  | _ => ("", "", "", false)
def tyJx8e188 : Nat → FieldType := fun k => match k with
  | _ => .int
abbrev wsJx8e1880 : List Cond := u_ws RJx8e188 TJx8e188 0
theorem nmJx8e188 : ∀ a, a < 0 → ∀ b, b < 0 → a ≠ b → (TJx8e188 a).2.1 ≠ (TJx8e188 b).2.1 := by decide +kernel
theorem tyJx8e188_ok : ∀ k, k < 0 → parseFieldDescriptor (TJx8e188 k).2.2.1 = some (tyJx8e188 k) := by decide +kernel
def RJxb160c : String := "java/lang/Comparable"
def TJxb160c : u_T := fun k => match k with
  | _ => ("", "", "", false)
def tyJxb160c : Nat → FieldType := fun k => match k with
  | _ => .int
abbrev wsJxb160c0 : List Cond := u_ws RJxb160c TJxb160c 0
theorem nmJxb160c : ∀ a, a < 0 → ∀ b, b < 0 → a ≠ b → (TJxb160c a).2.1 ≠ (TJxb160c b).2.1 := by decide +kernel
theorem tyJxb160c_ok : ∀ k, k < 0 → parseFieldDescriptor (TJxb160c k).2.2.1 = some (tyJxb160c k) := by decide +kernel
def RJxab1ab : String := "java/lang/Iterable"
def TJxab1ab : u_T := fun k => match k with
  | _ => ("", "", "", false)
def tyJxab1ab : Nat → FieldType := fun k => match k with
  | _ => .int
abbrev wsJxab1ab0 : List Cond := u_ws RJxab1ab TJxab1ab 0
theorem nmJxab1ab : ∀ a, a < 0 → ∀ b, b < 0 → a ≠ b → (TJxab1ab a).2.1 ≠ (TJxab1ab b).2.1 := by decide +kernel
theorem tyJxab1ab_ok : ∀ k, k < 0 → parseFieldDescriptor (TJxab1ab k).2.2.1 = some (tyJxab1ab k) := by decide +kernel
def RJ9 : String := "java/lang/Math"
def TJ9 : u_T := fun k => match k with
  | _ => ("", "", "", false)
def tyJ9 : Nat → FieldType := fun k => match k with
  | _ => .int
abbrev wsJ90 : List Cond := u_ws RJ9 TJ9 0
theorem nmJ9 : ∀ a, a < 0 → ∀ b, b < 0 → a ≠ b → (TJ9 a).2.1 ≠ (TJ9 b).2.1 := by decide +kernel
theorem tyJ9_ok : ∀ k, k < 0 → parseFieldDescriptor (TJ9 k).2.2.1 = some (tyJ9 k) := by decide +kernel
abbrev cJ9_max_7cf53 : ByteArray := prog_15_method_65_code
def yJ9_max_7cf53 : MethodName := ⟨RJ9, "max", "(II)I"⟩
abbrev cJ9_min_7cf53 : ByteArray := prog_15_method_69_code
def yJ9_min_7cf53 : MethodName := ⟨RJ9, "min", "(II)I"⟩
def RJ0 : String := "java/lang/String"
def TJ0 : u_T := fun k => match k with
  | _ => ("", "", "", false)
def tyJ0 : Nat → FieldType := fun k => match k with
  | _ => .int
abbrev wsJ00 : List Cond := u_ws RJ0 TJ0 0
theorem nmJ0 : ∀ a, a < 0 → ∀ b, b < 0 → a ≠ b → (TJ0 a).2.1 ≠ (TJ0 b).2.1 := by decide +kernel
theorem tyJ0_ok : ∀ k, k < 0 → parseFieldDescriptor (TJ0 k).2.2.1 = some (tyJ0 k) := by decide +kernel
abbrev cJ0_length_8abf5 : ByteArray := prog_16_method_54_code
def yJ0_length_8abf5 : MethodName := ⟨RJ0, "length", "()I"⟩
abbrev cJ0_charAt_5068e : ByteArray := prog_16_method_56_code
def yJ0_charAt_5068e : MethodName := ⟨RJ0, "charAt", "(I)C"⟩
abbrev cJ0_coder_7d493 : ByteArray := prog_16_method_152_code
def yJ0_coder_7d493 : MethodName := ⟨RJ0, "coder", "()B"⟩
abbrev cJ0_isLatin1_aae02 : ByteArray := prog_16_method_154_code
def yJ0_isLatin1_aae02 : MethodName := ⟨RJ0, "isLatin1", "()Z"⟩
abbrev cJ0_checkIndex_df160 : ByteArray := prog_16_method_155_code
def yJ0_checkIndex_df160 : MethodName := ⟨RJ0, "checkIndex", "(II)V"⟩
def RJ1 : String := "java/lang/StringLatin1"
def TJ1 : u_T := fun k => match k with
  | _ => ("", "", "", false)
def tyJ1 : Nat → FieldType := fun k => match k with
  | _ => .int
abbrev wsJ10 : List Cond := u_ws RJ1 TJ1 0
theorem nmJ1 : ∀ a, a < 0 → ∀ b, b < 0 → a ≠ b → (TJ1 a).2.1 ≠ (TJ1 b).2.1 := by decide +kernel
theorem tyJ1_ok : ∀ k, k < 0 → parseFieldDescriptor (TJ1 k).2.2.1 = some (tyJ1 k) := by decide +kernel
abbrev cJ1_charAt_3b067 : ByteArray := prog_17_method_2_code
def yJ1_charAt_3b067 : MethodName := ⟨RJ1, "charAt", "([BI)C"⟩
def RJ2 : String := "java/lang/StringUTF16"
def TJ2 : u_T := fun k => match k with
  | _ => ("", "", "", false)
def tyJ2 : Nat → FieldType := fun k => match k with
  | _ => .int
abbrev wsJ20 : List Cond := u_ws RJ2 TJ2 0
theorem nmJ2 : ∀ a, a < 0 → ∀ b, b < 0 → a ≠ b → (TJ2 a).2.1 ≠ (TJ2 b).2.1 := by decide +kernel
theorem tyJ2_ok : ∀ k, k < 0 → parseFieldDescriptor (TJ2 k).2.2.1 = some (tyJ2 k) := by decide +kernel
abbrev cJ2_getChar_3b067 : ByteArray := prog_18_method_5_code
def yJ2_getChar_3b067 : MethodName := ⟨RJ2, "getChar", "([BI)C"⟩
abbrev cJ2_length_9d52b : ByteArray := prog_18_method_6_code
def yJ2_length_9d52b : MethodName := ⟨RJ2, "length", "([B)I"⟩
abbrev cJ2_charAt_3b067 : ByteArray := prog_18_method_83_code
def yJ2_charAt_3b067 : MethodName := ⟨RJ2, "charAt", "([BI)C"⟩
abbrev cJ2_checkIndex_2214a : ByteArray := prog_18_method_91_code
def yJ2_checkIndex_2214a : MethodName := ⟨RJ2, "checkIndex", "(I[B)V"⟩
def RJ10 : String := "java/lang/System"
def TJ10 : u_T := fun k => match k with
  | _ => ("", "", "", false)
def tyJ10 : Nat → FieldType := fun k => match k with
  | _ => .int
abbrev wsJ100 : List Cond := u_ws RJ10 TJ10 0
theorem nmJ10 : ∀ a, a < 0 → ∀ b, b < 0 → a ≠ b → (TJ10 a).2.1 ≠ (TJ10 b).2.1 := by decide +kernel
theorem tyJ10_ok : ∀ k, k < 0 → parseFieldDescriptor (TJ10 k).2.2.1 = some (tyJ10 k) := by decide +kernel
def RJxfd54e : String := "java/lang/constant/Constable"
def TJxfd54e : u_T := fun k => match k with
  | _ => ("", "", "", false)
def tyJxfd54e : Nat → FieldType := fun k => match k with
  | _ => .int
abbrev wsJxfd54e0 : List Cond := u_ws RJxfd54e TJxfd54e 0
theorem nmJxfd54e : ∀ a, a < 0 → ∀ b, b < 0 → a ≠ b → (TJxfd54e a).2.1 ≠ (TJxfd54e b).2.1 := by decide +kernel
theorem tyJxfd54e_ok : ∀ k, k < 0 → parseFieldDescriptor (TJxfd54e k).2.2.1 = some (tyJxfd54e k) := by decide +kernel
def RJx3cf43 : String := "java/lang/constant/ConstantDesc"
def TJx3cf43 : u_T := fun k => match k with
  | _ => ("", "", "", false)
def tyJx3cf43 : Nat → FieldType := fun k => match k with
  | _ => .int
abbrev wsJx3cf430 : List Cond := u_ws RJx3cf43 TJx3cf43 0
theorem nmJx3cf43 : ∀ a, a < 0 → ∀ b, b < 0 → a ≠ b → (TJx3cf43 a).2.1 ≠ (TJx3cf43 b).2.1 := by decide +kernel
theorem tyJx3cf43_ok : ∀ k, k < 0 → parseFieldDescriptor (TJx3cf43 k).2.2.1 = some (tyJx3cf43 k) := by decide +kernel
def RJxa1e45 : String := "java/util/AbstractCollection"
def TJxa1e45 : u_T := fun k => match k with
  | _ => ("", "", "", false)
def tyJxa1e45 : Nat → FieldType := fun k => match k with
  | _ => .int
abbrev wsJxa1e450 : List Cond := u_ws RJxa1e45 TJxa1e45 0
theorem nmJxa1e45 : ∀ a, a < 0 → ∀ b, b < 0 → a ≠ b → (TJxa1e45 a).2.1 ≠ (TJxa1e45 b).2.1 := by decide +kernel
theorem tyJxa1e45_ok : ∀ k, k < 0 → parseFieldDescriptor (TJxa1e45 k).2.2.1 = some (tyJxa1e45 k) := by decide +kernel
abbrev cJxa1e45_init_da8c8 : ByteArray := prog_22_method_1_code
def yJxa1e45_init_da8c8 : MethodName := ⟨RJxa1e45, "<init>", "()V"⟩
def RJxc12de : String := "java/util/AbstractList"
def TJxc12de : u_T := fun k => match k with
  | _ => ("", "", "", false)
def tyJxc12de : Nat → FieldType := fun k => match k with
  | _ => .int
abbrev wsJxc12de0 : List Cond := u_ws RJxc12de TJxc12de 0
theorem nmJxc12de : ∀ a, a < 0 → ∀ b, b < 0 → a ≠ b → (TJxc12de a).2.1 ≠ (TJxc12de b).2.1 := by decide +kernel
theorem tyJxc12de_ok : ∀ k, k < 0 → parseFieldDescriptor (TJxc12de k).2.2.1 = some (tyJxc12de k) := by decide +kernel
abbrev cJxc12de_init_da8c8 : ByteArray := prog_23_method_1_code
def yJxc12de_init_da8c8 : MethodName := ⟨RJxc12de, "<init>", "()V"⟩
def RJx4a65c : String := "java/util/ArrayList"
def TJx4a65c : u_T := fun k => match k with
  | 0 => ("java/util/AbstractList", "modCount", "I", false)
  | 1 => ("java/util/ArrayList", "elementData", "[Ljava/lang/Object;", false)
  | _ => ("java/util/ArrayList", "size", "I", false)
def tyJx4a65c : Nat → FieldType := fun k => match k with
  | 0 => .int
  | 1 => .array (.object "java/lang/Object")
  | _ => .int
abbrev wsJx4a65c0 : List Cond := u_ws RJx4a65c TJx4a65c 3
theorem nmJx4a65c : ∀ a, a < 3 → ∀ b, b < 3 → a ≠ b → (TJx4a65c a).2.1 ≠ (TJx4a65c b).2.1 := by decide +kernel
theorem tyJx4a65c_ok : ∀ k, k < 3 → parseFieldDescriptor (TJx4a65c k).2.2.1 = some (tyJx4a65c k) := by decide +kernel
abbrev cJx4a65c_init_da8c8 : ByteArray := prog_24_method_2_code
def yJx4a65c_init_da8c8 : MethodName := ⟨RJx4a65c, "<init>", "()V"⟩
abbrev cJx4a65c_grow_92f84 : ByteArray := prog_24_method_6_code
def yJx4a65c_grow_92f84 : MethodName := ⟨RJx4a65c, "grow", "(I)[Ljava/lang/Object;"⟩
abbrev cJx4a65c_grow_d5877 : ByteArray := prog_24_method_7_code
def yJx4a65c_grow_d5877 : MethodName := ⟨RJx4a65c, "grow", "()[Ljava/lang/Object;"⟩
abbrev cJx4a65c_size_8abf5 : ByteArray := prog_24_method_8_code
def yJx4a65c_size_8abf5 : MethodName := ⟨RJx4a65c, "size", "()I"⟩
abbrev cJx4a65c_elementData_915e3 : ByteArray := prog_24_method_18_code
def yJx4a65c_elementData_915e3 : MethodName := ⟨RJx4a65c, "elementData", "(I)Ljava/lang/Object;"⟩
abbrev cJx4a65c_get_915e3 : ByteArray := prog_24_method_20_code
def yJx4a65c_get_915e3 : MethodName := ⟨RJx4a65c, "get", "(I)Ljava/lang/Object;"⟩
abbrev cJx4a65c_set_bcc79 : ByteArray := prog_24_method_23_code
def yJx4a65c_set_bcc79 : MethodName := ⟨RJx4a65c, "set", "(ILjava/lang/Object;)Ljava/lang/Object;"⟩
abbrev cJx4a65c_add_72be8 : ByteArray := prog_24_method_24_code
def yJx4a65c_add_72be8 : MethodName := ⟨RJx4a65c, "add", "(Ljava/lang/Object;[Ljava/lang/Object;I)V"⟩
abbrev cJx4a65c_add_9ea2d : ByteArray := prog_24_method_25_code
def yJx4a65c_add_9ea2d : MethodName := ⟨RJx4a65c, "add", "(Ljava/lang/Object;)Z"⟩
abbrev cJx4a65c_remove_915e3 : ByteArray := prog_24_method_29_code
def yJx4a65c_remove_915e3 : MethodName := ⟨RJx4a65c, "remove", "(I)Ljava/lang/Object;"⟩
abbrev cJx4a65c_fastRemove_b59b0 : ByteArray := prog_24_method_39_code
def yJx4a65c_fastRemove_b59b0 : MethodName := ⟨RJx4a65c, "fastRemove", "([Ljava/lang/Object;I)V"⟩
abbrev cJx4a65c_clear_da8c8 : ByteArray := prog_24_method_40_code
def yJx4a65c_clear_da8c8 : MethodName := ⟨RJx4a65c, "clear", "()V"⟩
def RJ7 : String := "java/util/Arrays"
def TJ7 : u_T := fun k => match k with
  | _ => ("", "", "", false)
def tyJ7 : Nat → FieldType := fun k => match k with
  | _ => .int
abbrev wsJ70 : List Cond := u_ws RJ7 TJ7 0
theorem nmJ7 : ∀ a, a < 0 → ∀ b, b < 0 → a ≠ b → (TJ7 a).2.1 ≠ (TJ7 b).2.1 := by decide +kernel
theorem tyJ7_ok : ∀ k, k < 0 → parseFieldDescriptor (TJ7 k).2.2.1 = some (tyJ7 k) := by decide +kernel
abbrev cJ7_copyOf_1904c : ByteArray := prog_25_method_119_code
def yJ7_copyOf_1904c : MethodName := ⟨RJ7, "copyOf", "([Ljava/lang/Object;I)[Ljava/lang/Object;"⟩
abbrev cJ7_copyOf_6403c : ByteArray := prog_25_method_120_code
def yJ7_copyOf_6403c : MethodName := ⟨RJ7, "copyOf", "([Ljava/lang/Object;ILjava/lang/Class;)[Ljava/lang/Object;"⟩
def RJx5ef63 : String := "java/util/Collection"
def TJx5ef63 : u_T := fun k => match k with
  | _ => ("", "", "", false)
def tyJx5ef63 : Nat → FieldType := fun k => match k with
  | _ => .int
abbrev wsJx5ef630 : List Cond := u_ws RJx5ef63 TJx5ef63 0
theorem nmJx5ef63 : ∀ a, a < 0 → ∀ b, b < 0 → a ≠ b → (TJx5ef63 a).2.1 ≠ (TJx5ef63 b).2.1 := by decide +kernel
theorem tyJx5ef63_ok : ∀ k, k < 0 → parseFieldDescriptor (TJx5ef63 k).2.2.1 = some (tyJx5ef63 k) := by decide +kernel
def RJxbd725 : String := "java/util/List"
def TJxbd725 : u_T := fun k => match k with
  | _ => ("", "", "", false)
def tyJxbd725 : Nat → FieldType := fun k => match k with
  | _ => .int
abbrev wsJxbd7250 : List Cond := u_ws RJxbd725 TJxbd725 0
theorem nmJxbd725 : ∀ a, a < 0 → ∀ b, b < 0 → a ≠ b → (TJxbd725 a).2.1 ≠ (TJxbd725 b).2.1 := by decide +kernel
theorem tyJxbd725_ok : ∀ k, k < 0 → parseFieldDescriptor (TJxbd725 k).2.2.1 = some (tyJxbd725 k) := by decide +kernel
def RJ15 : String := "java/util/Objects"
def TJ15 : u_T := fun k => match k with
  | _ => ("", "", "", false)
def tyJ15 : Nat → FieldType := fun k => match k with
  | _ => .int
abbrev wsJ150 : List Cond := u_ws RJ15 TJ15 0
theorem nmJ15 : ∀ a, a < 0 → ∀ b, b < 0 → a ≠ b → (TJ15 a).2.1 ≠ (TJ15 b).2.1 := by decide +kernel
theorem tyJ15_ok : ∀ k, k < 0 → parseFieldDescriptor (TJ15 k).2.2.1 = some (tyJ15 k) := by decide +kernel
abbrev cJ15_checkIndex_7cf53 : ByteArray := prog_28_method_17_code
def yJ15_checkIndex_7cf53 : MethodName := ⟨RJ15, "checkIndex", "(II)I"⟩
def RJxf0a74 : String := "java/util/RandomAccess"
def TJxf0a74 : u_T := fun k => match k with
  | _ => ("", "", "", false)
def tyJxf0a74 : Nat → FieldType := fun k => match k with
  | _ => .int
abbrev wsJxf0a740 : List Cond := u_ws RJxf0a74 TJxf0a74 0
theorem nmJxf0a74 : ∀ a, a < 0 → ∀ b, b < 0 → a ≠ b → (TJxf0a74 a).2.1 ≠ (TJxf0a74 b).2.1 := by decide +kernel
theorem tyJxf0a74_ok : ∀ k, k < 0 → parseFieldDescriptor (TJxf0a74 k).2.2.1 = some (tyJxf0a74 k) := by decide +kernel
def RJxa66e6 : String := "java/util/SequencedCollection"
def TJxa66e6 : u_T := fun k => match k with
  | _ => ("", "", "", false)
def tyJxa66e6 : Nat → FieldType := fun k => match k with
  | _ => .int
abbrev wsJxa66e60 : List Cond := u_ws RJxa66e6 TJxa66e6 0
theorem nmJxa66e6 : ∀ a, a < 0 → ∀ b, b < 0 → a ≠ b → (TJxa66e6 a).2.1 ≠ (TJxa66e6 b).2.1 := by decide +kernel
theorem tyJxa66e6_ok : ∀ k, k < 0 → parseFieldDescriptor (TJxa66e6 k).2.2.1 = some (tyJxa66e6 k) := by decide +kernel
def RJ8 : String := "jdk/internal/util/ArraysSupport"
def TJ8 : u_T := fun k => match k with
  | _ => ("", "", "", false)
def tyJ8 : Nat → FieldType := fun k => match k with
  | _ => .int
abbrev wsJ80 : List Cond := u_ws RJ8 TJ8 0
theorem nmJ8 : ∀ a, a < 0 → ∀ b, b < 0 → a ≠ b → (TJ8 a).2.1 ≠ (TJ8 b).2.1 := by decide +kernel
theorem tyJ8_ok : ∀ k, k < 0 → parseFieldDescriptor (TJ8 k).2.2.1 = some (tyJ8 k) := by decide +kernel
abbrev cJ8_newLength_cabcc : ByteArray := prog_31_method_27_code
def yJ8_newLength_cabcc : MethodName := ⟨RJ8, "newLength", "(III)I"⟩
abbrev cJ8_hugeLength_7cf53 : ByteArray := prog_31_method_28_code
def yJ8_hugeLength_7cf53 : MethodName := ⟨RJ8, "hugeLength", "(II)I"⟩
def RJ3 : String := "jdk/internal/util/Preconditions"
def TJ3 : u_T := fun k => match k with
  | _ => ("", "", "", false)
def tyJ3 : Nat → FieldType := fun k => match k with
  | _ => .int
abbrev wsJ30 : List Cond := u_ws RJ3 TJ3 0
theorem nmJ3 : ∀ a, a < 0 → ∀ b, b < 0 → a ≠ b → (TJ3 a).2.1 ≠ (TJ3 b).2.1 := by decide +kernel
theorem tyJ3_ok : ∀ k, k < 0 → parseFieldDescriptor (TJ3 k).2.2.1 = some (tyJ3 k) := by decide +kernel
abbrev cJ3_checkIndex_8e157 : ByteArray := prog_32_method_11_code
def yJ3_checkIndex_8e157 : MethodName := ⟨RJ3, "checkIndex", "(IILjava/util/function/BiFunction;)I"⟩
def RL : String := "TitleFinderLaw"
abbrev cL_law : ByteArray := code
def yL_law : MethodName := ⟨RL, "law", "([I)Z"⟩
abbrev vwCl : List vw_C := [(RJx4a65c, TJx4a65c, 3), (RX0, TX0, 3), (RX1, TX1, 3), (RX2, TX2, 5), (RX3, TX3, 5), (RX4, TX4, 7), (RX5, TX5, 3), (RX6, TX6, 6), (RX7, TX7, 22)]
/-- the tables' words that every method may take along -/
def BIG : List Cond := lw_tbl.filter goodWord
theorem big_good : ∀ w ∈ BIG, (w.onTables && w.keeps) = true ∨ ∃ ty, w = .arrayClass ty := fun w h => good_of_word (List.mem_filter.mp h).2
theorem bw (i : Nat) {w : Cond} (h : lw_tbl[i]? = some w) (hg : goodWord w = true) : w ∈ BIG := List.mem_filter.mpr ⟨List.mem_of_getElem? h, hg⟩
end
section
/-! THE LAYER: memory as a map from addresses to tagged cells; a judgement V over it, an instruction a row; a contract CC over it, a call a row -/
abbrev mE : Type := (Nat × List Value) ⊕ (Nat × Nat × ((Nat → Int32) ⊕ (Nat → Option Nat)))
abbrev mM : Type := Nat → Option (Nat × mE)
/-- the machine's cell of a cell -/
def mv (KA : Nat → ClassId) (e : mE) : va_E := match e with
  | .inl o => .inr o
  | .inr (k, n, .inl f) => .inl (KA k, n, .inl f)
  | .inr (k, n, .inr g) => .inl (KA k, n, .inr (.inr (.inr (.inr g))))
def mup (M : mM) (a : Nat) (x : Nat × mE) : mM := fun b => if b = a then some x else M b
theorem mup_s {M : mM} {a : Nat} {x : Nat × mE} : mup M a x a = some x := if_pos rfl
theorem mup_n {M : mM} {a b : Nat} {x : Nat × mE} (h : b ≠ a) : mup M a x b = M b := if_neg h
/-- the kinds of arrays -/
def tysK (KA : Nat → ClassId) : List (ClassId × FieldType) := [(KA 0, .int), (KA 1, .char), (KA 2, .object "java/lang/Object"), (KA 3, .object "TitleFinder$State"), (KA 4, .array .int), (KA 5, .byte)]
/-- the surroundings: the launch, the law's start heap, the classes, the arrays' classes, the literals' addresses, the empty list's array -/
abbrev mG : Type := Launch × Heap × va_G × (Nat → ClassId) × (Nat → Nat) × (Nat → Nat) × Nat
abbrev mAf (H0 : Heap) : Nat → Prop := fun q => H0.size ≤ q
def mR (G : mG) (M : mM) (H : Heap) (locs : List Loc) : Prop :=
  (∀ a t e, M a = some (t, e) → va_at G.2.2.1 vwCl (a, mv G.2.2.2.1 e) H) ∧ (∀ a t e, M a = some (t, e) → (t = 0 ↔ a < G.2.1.size)) ∧ va_S (mAf G.2.1) G.2.1 H locs
/-- the literals of Text: their entries, their signs -/
def sIdx : List Nat := [90, 92, 94, 96, 98, 100, 102, 107, 109, 111, 112, 114, 116, 118]
def sTxt : List String := ["add ", "drop ", "mode ", "order ", "ask ", "pick ", "clear", "part", "start", "word", "initials", "place", "often", "name"]
def sLen : List Nat := [4, 5, 5, 6, 4, 5, 5, 4, 5, 4, 8, 5, 5, 4]
def sByt : List (List Int32) := [[97, 100, 100, 32], [100, 114, 111, 112, 32], [109, 111, 100, 101, 32], [111, 114, 100, 101, 114, 32], [97, 115, 107, 32], [112, 105, 99, 107, 32], [99, 108, 101, 97, 114], [112, 97, 114, 116], [115, 116, 97, 114, 116], [119, 111, 114, 100], [105, 110, 105, 116, 105, 97, 108, 115], [112, 108, 97, 99, 101], [111, 102, 116, 101, 110], [110, 97, 109, 101]]
def mNest : List Cond := [.methodLinkNest "TitleFinder" 9 yX2_init "TitleFinder", .methodLinkNest "TitleFinder$History" 17 yX2_init "TitleFinder", .methodLinkNest "TitleFinder" 28 yX4_init "TitleFinder", .methodLinkNest "TitleFinder" 35 yX1_init "TitleFinder", .methodLinkNest "TitleFinder" 42 yX3_init "TitleFinder"]
/-- arrays of rows of ints -/
def va_AOA (t : FieldType) (U : State) : Prop := (Cond.arrayOver (.array t)).before #[] U = true
theorem va_AOA.use {t : FieldType} {A : Array Value} {U : State} (h : va_AOA t U) : (Cond.arrayOver (.array t)).before A U = true := h
theorem va_AOA.moved {t : FieldType} {u U : State} (hvm : u.vm.Alike U.vm) (h : va_AOA t u) : va_AOA t U := arrayOver_alikeB hvm h
/-- what is known of the tables and of what was there before -/
def mK (G : mG) (U : State) : Prop := va_K G.2.2.1 vwCl (tysK G.2.2.2.1) U ∧ va_Z "java/util/ArrayList" "DEFAULTCAPACITY_EMPTY_ELEMENTDATA" "[Ljava/lang/Object;" (.ref G.2.2.2.2.2.2) (mAf G.2.1) U G.2.1
  ∧ va_Z "java/lang/String" "COMPACT_STRINGS" "Z" (.int 1) (mAf G.2.1) U G.2.1 ∧ va_Zq "jdk/internal/util/Preconditions" "SIOOBE_FORMATTER" "Ljava/util/function/BiFunction;" (mAf G.2.1) U G.2.1
  ∧ vk_S 14 sLen sByt G.2.2.2.2.1 G.2.2.2.2.2.1 (mAf G.2.1) U G.2.1 ∧ (∀ i, i < 14 → vk_R "TitleFinder$Text" (sIdx.getD i 0) (sTxt.getD i "") (G.2.2.2.2.1 i) U)
  ∧ va_AO "java/lang/Object" U ∧ va_AO "TitleFinder$State" U ∧ va_AOA .int U ∧ (∀ w ∈ mNest, va_Nw w U) ∧ va_Nw (.castable "TitleFinder$Title" "java/lang/Object") U ∧ (∃ mi, va_Mi "[Ljava/lang/Object;" mi U) ∧ va_Dc U
theorem mK.warm {G : mG} {s U : State} (hW : s.WarmedH U.vm) (h : mK G s) : mK G U := by
  obtain ⟨h1, h2, h3, h4, h5, h6, h7, h8, h9, h10, h11, ⟨mi, h12⟩, h13⟩ := h
  have hvm := hW.alike
  refine ⟨va_K.moved hvm h1, va_Z.moved hvm h2, va_Z.moved hvm h3, va_Zq.moved hvm h4, vk_S.moved hvm h5, fun i hi => vk_R.warm hW (h6 i hi), va_AO.moved hvm h7, va_AO.moved hvm h8, va_AOA.moved hvm h9, fun w hw => ?_, va_Nw.warmC hW h11, ⟨mi, va_Mi.moved hvm h12⟩, va_Dc.moved hvm h13⟩
  have hz := h10 w hw
  simp only [mNest, List.mem_cons, List.not_mem_nil, or_false] at hw
  rcases hw with rfl | rfl | rfl | rfl | rfl <;> exact va_Nw.warmM hW hz
theorem mK.same {G : mG} {u U : State} (hv : U.vm = u.vm) (h : mK G u) : mK G U := by
  obtain ⟨h1, h2, h3, h4, h5, h6, h7, h8, h9, h10, h11, ⟨mi, h12⟩, h13⟩ := h
  have hvm : u.vm.Alike U.vm := by rw [hv]; exact Vm.Alike.refl _
  refine ⟨va_K.moved hvm h1, va_Z.moved hvm h2, va_Z.moved hvm h3, va_Zq.moved hvm h4, vk_S.moved hvm h5, fun i hi => vk_R.same hv (h6 i hi), va_AO.moved hvm h7, va_AO.moved hvm h8, va_AOA.moved hvm h9, fun w hw => ?_, va_Nw.same rfl hv.symm h11, ⟨mi, va_Mi.moved hvm h12⟩, va_Dc.moved hvm h13⟩
  have hz := h10 w hw
  simp only [mNest, List.mem_cons, List.not_mem_nil, or_false] at hw
  rcases hw with rfl | rfl | rfl | rfl | rfl <;> exact va_Nw.same rfl hv.symm hz
/-- locals: what is known of them, by their places -/
def mP (L : List (Option Value)) : List (Nat × Value) := (List.range L.length).filterMap (fun i => (L[i]?).join.map (fun v => (i, v)))
theorem mP_mem {L : List (Option Value)} {i : Nat} {v : Value} : (i, v) ∈ mP L ↔ L[i]? = some (some v) := by
  unfold mP
  rw [List.mem_filterMap]
  constructor
  · rintro ⟨j, hj, h⟩
    cases hq : L[j]? with
    | none => rw [hq] at h; cases h
    | some x =>
      cases x with
      | none => rw [hq] at h; cases h
      | some w =>
        rw [hq] at h
        cases h
        exact hq
  · intro h
    have hlt : i < L.length := (List.getElem?_eq_some_iff.mp h).1
    exact ⟨i, List.mem_range.mpr hlt, by rw [h]; rfl⟩
def mL (ls : Array Slot) (L : List (Option Value)) : Prop := lv_has ls L.length (mP L)
theorem mL_get {ls : Array Slot} {L : List (Option Value)} (h : mL ls L) {i : Nat} {v : Value} (hi : L[i]? = some (some v)) : ls[i]? = some (.val v) := h.2.2 (i, v) (mP_mem.mpr hi)
/-- no long stands just ahead of place i -/
def mk2 (L : List (Option Value)) (i : Nat) : Bool := match i with
  | 0 => true
  | j + 1 => match L[j]? with
    | some (some v) => v.category == 1
    | _ => true
theorem mL_set {ls : Array Slot} {L : List (Option Value)} {i : Nat} {v : Value} (hk : mk2 L i = true) (hlt : i < L.length)
    (h : lv_has ls L.length ((i, v) :: (mP L).filter (fun q => !(q.1 == i) && !(q.1 + 1 == i && q.2.category == 2)))) : mL ls (L.set i (some v)) := by
  unfold mL
  rw [List.length_set]
  refine ⟨h.1, h.2.1, fun q hq => ?_⟩
  obtain ⟨j, w⟩ := q
  have hq := mP_mem.mp hq
  by_cases hj : j = i
  · subst hj
    rw [List.getElem?_set_self hlt] at hq
    cases hq
    exact h.2.2 _ List.mem_cons_self
  · rw [List.getElem?_set_ne (fun e => hj e.symm)] at hq
    refine h.2.2 _ (List.mem_cons_of_mem _ (List.mem_filter.mpr ⟨mP_mem.mpr hq, ?_⟩))
    simp only [Bool.and_eq_true, Bool.not_eq_true', beq_eq_false_iff_ne, ne_eq, Bool.and_eq_false_iff]
    refine ⟨hj, ?_⟩
    by_cases e : j + 1 = i
    · refine Or.inr ?_
      rw [← e] at hk
      simp only [mk2, hq] at hk
      have : w.category = 1 := by simpa using hk
      omega
    · exact Or.inl e
theorem mL_set2 {ls : Array Slot} {L : List (Option Value)} {i : Nat} {v : Value} (hk : mk2 L i = true) (hlt : i + 1 < L.length)
    (h : lv_has ls L.length ((i, v) :: (mP L).filter (fun q => !(q.1 == i) && (!(q.1 == i + 1) && !(q.1 + 1 == i && q.2.category == 2))))) : mL ls ((L.set i (some v)).set (i + 1) none) := by
  unfold mL
  rw [List.length_set, List.length_set]
  refine ⟨h.1, h.2.1, fun q hq => ?_⟩
  obtain ⟨j, w⟩ := q
  have hq := mP_mem.mp hq
  by_cases hj1 : j = i + 1
  · subst hj1
    rw [List.getElem?_set_self (by rw [List.length_set]; exact hlt)] at hq
    cases hq
  rw [List.getElem?_set_ne (fun e => hj1 e.symm)] at hq
  by_cases hj : j = i
  · subst hj
    rw [List.getElem?_set_self (by omega)] at hq
    cases hq
    exact h.2.2 _ List.mem_cons_self
  · rw [List.getElem?_set_ne (fun e => hj e.symm)] at hq
    refine h.2.2 _ (List.mem_cons_of_mem _ (List.mem_filter.mpr ⟨mP_mem.mpr hq, ?_⟩))
    simp only [Bool.and_eq_true, Bool.not_eq_true', beq_eq_false_iff_ne, ne_eq, Bool.and_eq_false_iff]
    refine ⟨hj, hj1, ?_⟩
    by_cases e : j + 1 = i
    · refine Or.inr ?_
      rw [← e] at hk
      simp only [mk2, hq] at hk
      have : w.category = 1 := by simpa using hk
      omega
    · exact Or.inl e
/-- a method's locals at its entry -/
def mA : Nat → List Value → List (Option Value)
  | n, [] => List.replicate n none
  | n, .long x :: vs => some (.long x) :: none :: mA (n - 2) vs
  | n, .double x :: vs => some (.double x) :: none :: mA (n - 2) vs
  | n, v :: vs => some v :: mA (n - 1) vs
theorem mA_in : ∀ (As : List Value) (n k i : Nat) (v : Value), (mA n As)[i]? = some (some v) → (k + i, v) ∈ lv_args k As := by
  intro As
  induction As with
  | nil =>
    intro n k i v h
    unfold mA at h
    rw [List.getElem?_replicate] at h
    split at h <;> cases h
  | cons a vs ih =>
    intro n k i v h
    have one : a.category = 1 → (some a :: mA (n - 1) vs)[i]? = some (some v) → (k + i, v) ∈ lv_args k (a :: vs) := by
      intro hc h
      show _ ∈ (k, a) :: lv_args (if a.category = 2 then k + 2 else k + 1) vs
      rw [if_neg (by omega)]
      cases i with
      | zero => cases h; exact List.mem_cons_self
      | succ i =>
        have h2 := ih (n - 1) (k + 1) i v h
        rw [show k + 1 + i = k + (i + 1) by omega] at h2
        exact List.mem_cons_of_mem _ h2
    have two : a.category = 2 → (some a :: none :: mA (n - 2) vs)[i]? = some (some v) → (k + i, v) ∈ lv_args k (a :: vs) := by
      intro hc h
      show _ ∈ (k, a) :: lv_args (if a.category = 2 then k + 2 else k + 1) vs
      rw [if_pos hc]
      cases i with
      | zero => cases h; exact List.mem_cons_self
      | succ i =>
        cases i with
        | zero => cases h
        | succ i =>
          have h2 := ih (n - 2) (k + 2) i v h
          rw [show k + 2 + i = k + (i + 1 + 1) by omega] at h2
          exact List.mem_cons_of_mem _ h2
    cases a with
    | long x => exact two rfl h
    | double x => exact two rfl h
    | int x => exact one rfl h
    | float x => exact one rfl h
    | null => exact one rfl h
    | ref x => exact one rfl h
    | retAddr x => exact one rfl h
/-- an activation: program, launch, environment, room, state at its entry, method, arguments, frames below, method's row, code, aim, most new cells, most new slots, surroundings -/
abbrev mX : Type := Program × Env × Room × State × MethodId × Array Value × List Frame × Method × Code × (State → Prop) × Nat × Nat × mG
def V (X : mX) (bc bs pc : Nat) (L : List (Option Value)) (st : List Value) (M : mM) : Prop := match X with
  | (p, e, R, s, m, args, below, meth, c, Q, mc, ms, G) => ∀ (H : Heap) (locs : List Loc) (cells slots : Nat) (ls : Array Slot), mR G M H locs → cells + bc ≤ mc → slots + bs ≤ ms → mL ls L → W p G.1 e R s m args below meth c H locs cells slots Q (F0 m pc ls st)
/-- a method: its name, code, locals, answer, height -/
abbrev mI : Type := MethodName × ByteArray × Nat × Option FieldType × Nat
/-- what every row needs of an activation -/
def Cx (X : mX) (G : mG) (I : mI) : Prop := match X with
  | (p, _, R, s, m, args, _, meth, c, _, mc, ms, G') => G' = G ∧ p.tables.exec = Jvm.exec ∧ c.code = I.2.1 ∧ c.maxLocals = I.2.2.1 ∧ meth.sig.returnType = I.2.2.2.1 ∧ meth.locks = false ∧ s.vm.findClass I.1.cls = some m.cls ∧ (∀ w ∈ BIG, w.before args s = true) ∧ mK G s ∧ (I.2.2.2.2 ≤ R.frames ∧ 32 * I.2.2.2.2 ≤ R.locals ∧ mc ≤ R.cells ∧ ms ≤ R.slots) ∧ (I.1.name = "<init>" → meth.name = "<init>") ∧ va_S (mAf G.2.1) G.2.1 s.heap []
/-- what an activation aims at: to return with 'post' -/
def Rt (X : mX) (post : Option Value → mM → Prop) : Prop := match X with
  | (_, _, _, s, _, args, below, _, _, Q, mc, ms, G) => Q = MQ below (fun _ _ o t => ∃ r M', o = .returned r ∧ post r M' ∧ mR G M' t.heap []) args s mc ms (mAf G.2.1)
def mRoom (h mc ms : Nat) : Room := { frames := h, cells := mc, slots := ms, locals := 32 * h }
/-- a contract at given arguments and memory -/
def CC (G : mG) (I : mI) (mc ms : Nat) (As : List Value) (M : mM) (post : Option Value → mM → Prop) : Prop :=
  Met G.1 I.1 (.code I.1 I.2.1 I.2.2.1 I.2.2.2.1 :: BIG) (mRoom I.2.2.2.2 mc ms) (fun v U => v = As.toArray ∧ mR G M U.heap [] ∧ mK G U) (fun _ _ o t => ∃ r M', o = .returned r ∧ post r M' ∧ mR G M' t.heap []) mc ms (mAf G.2.1)
/-! rows of the layer: the lists that the kit's rows ask for -/
def mW (KA : Nat → ClassId) (M : mM) (n : Nat) (f : Nat → Bool) : va_W := (List.range n).filterMap (fun b => match M b with
  | some (t, e) => if t ≠ 0 ∧ f b = true then some (b, mv KA e) else none
  | none => none)
theorem mW_mem {KA : Nat → ClassId} {M : mM} {n : Nat} {f : Nat → Bool} {q : Nat × va_E} : q ∈ mW KA M n f ↔ q.1 < n ∧ f q.1 = true ∧ ∃ t e, M q.1 = some (t, e) ∧ t ≠ 0 ∧ q.2 = mv KA e := by
  unfold mW
  rw [List.mem_filterMap]
  constructor
  · rintro ⟨b, hb, h⟩
    cases hM : M b with
    | none => rw [hM] at h; cases h
    | some te =>
      obtain ⟨t, e⟩ := te
      rw [hM] at h
      by_cases hc : t ≠ 0 ∧ f b = true
      · simp only [if_pos hc] at h
        cases h
        exact ⟨List.mem_range.mp hb, hc.2, t, e, hM, hc.1, rfl⟩
      · simp only [if_neg hc] at h
        cases h
  · rintro ⟨h1, h2, t, e, h3, h4, h5⟩
    refine ⟨q.1, List.mem_range.mpr h1, ?_⟩
    rw [h3]
    simp only [if_pos (show t ≠ 0 ∧ f q.1 = true from ⟨h4, h2⟩)]
    rw [← h5]
theorem mW_pair (KA : Nat → ClassId) (M : mM) (n : Nat) (f : Nat → Bool) : (mW KA M n f).Pairwise (fun p q => p.1 ≠ q.1) := by
  unfold mW
  refine List.Pairwise.filterMap _ ?_ List.pairwise_lt_range
  intro a a' hlt b hb b' hb'
  have key : ∀ (x : Nat) (y : Nat × va_E), (match M x with
      | some (t, e) => if t ≠ 0 ∧ f x = true then some (x, mv KA e) else none
      | none => none) = some y → y.1 = x := by
    intro x y h
    cases hM : M x with
    | none => rw [hM] at h; cases h
    | some te =>
      obtain ⟨t, e⟩ := te
      rw [hM] at h
      by_cases hc : t ≠ 0 ∧ f x = true
      · simp only [if_pos hc] at h
        cases h
        rfl
      · simp only [if_neg hc] at h
        cases h
  rw [key a b hb, key a' b' hb']
  omega
theorem va_D_of {A : Nat → Prop} {ws : va_W} (h : ws.Pairwise (fun p q => p.1 ≠ q.1)) (hA : ∀ q ∈ ws, A q.1) : va_D A ws := by
  refine ⟨fun i j p q hi hj e => ?_, fun k q hk => hA q (List.mem_of_getElem? hk)⟩
  have key : ∀ (i j : Nat) (p q : Nat × va_E), i < j → ws[i]? = some p → ws[j]? = some q → p.1 ≠ q.1 := by
    intro i j p q hij hi hj
    obtain ⟨li, ei⟩ := List.getElem?_eq_some_iff.mp hi
    obtain ⟨lj, ej⟩ := List.getElem?_eq_some_iff.mp hj
    have := List.pairwise_iff_getElem.mp h i j li lj hij
    rw [ei, ej] at this
    exact this
  rcases Nat.lt_trichotomy i j with h1 | h1 | h1
  · exact absurd e (key i j p q h1 hi hj)
  · exact h1
  · exact absurd e.symm (key j i q p h1 hj hi)
theorem mW_P {G : mG} {M : mM} {H : Heap} {locs : List Loc} {n : Nat} {f : Nat → Bool} (h : mR G M H locs) : va_P G.2.2.1 vwCl (mW G.2.2.2.1 M n f) H := by
  intro k q hq
  obtain ⟨-, -, t, e, h1, -, h2⟩ := mW_mem.mp (List.mem_of_getElem? hq)
  have := h.1 q.1 t e h1
  rw [← h2] at this
  exact this
theorem mR.lt {G : mG} {M : mM} {H : Heap} {locs : List Loc} (h : mR G M H locs) {a t : Nat} {e : mE} (ha : M a = some (t, e)) : a < H.size := (h.1 a t e ha).lt
theorem mR.none {G : mG} {M : mM} {H : Heap} {locs : List Loc} (h : mR G M H locs) {a : Nat} (ha : H.size ≤ a) : M a = none := by
  cases hM : M a with
  | none => rfl
  | some te => exact absurd (h.lt (show M a = some (te.1, te.2) from hM)) (by omega)
theorem mW_D {G : mG} {M : mM} {H : Heap} {locs : List Loc} {n : Nat} {f : Nat → Bool} (h : mR G M H locs) : va_D (mAf G.2.1) (mW G.2.2.2.1 M n f) := by
  refine va_D_of (mW_pair _ _ _ _) fun q hq => ?_
  obtain ⟨-, -, t, e, h1, h2, -⟩ := mW_mem.mp hq
  have := (h.2.1 q.1 t e h1)
  show G.2.1.size ≤ q.1
  omega
/-- a cell, and all others that may be written -/
def mWx (G : mG) (M : mM) (H : Heap) (a : Nat) : va_W := mW G.2.2.2.1 M H.size (fun b => !(b == a))
theorem mWx_P {G : mG} {M : mM} {H : Heap} {locs : List Loc} {a t : Nat} {e : mE} (h : mR G M H locs) (ha : M a = some (t, e)) : va_P G.2.2.1 vwCl ((a, mv G.2.2.2.1 e) :: mWx G M H a) H := by
  intro k q hq
  cases k with
  | zero => cases hq; exact h.1 a t e ha
  | succ k => exact mW_P h k q hq
theorem mWx_D {G : mG} {M : mM} {H : Heap} {locs : List Loc} {a t : Nat} {e : mE} (h : mR G M H locs) (ha : M a = some (t, e)) (ht : t ≠ 0) (x : va_E) : va_D (mAf G.2.1) ((a, x) :: mWx G M H a) := by
  refine va_D_of (List.pairwise_cons.mpr ⟨fun q hq => ?_, mW_pair _ _ _ _⟩) fun q hq => ?_
  · have := (mW_mem.mp hq).2.1
    intro e
    simp only [Bool.not_eq_true', beq_eq_false_iff_ne] at this
    exact this e.symm
  · have key : ∀ b tb eb, M b = some (tb, eb) → tb ≠ 0 → mAf G.2.1 b := fun b tb eb h1 h2 => by
      have := h.2.1 b tb eb h1
      show G.2.1.size ≤ b
      omega
    rcases List.mem_cons.mp hq with rfl | hq
    · exact key a t e ha ht
    · obtain ⟨-, -, t', e', h1, h2, -⟩ := mW_mem.mp hq
      exact key _ _ _ h1 h2
theorem mR_put {G : mG} {M : mM} {H H1 : Heap} {locs locs1 : List Loc} {a t : Nat} {e e' : mE} (h : mR G M H locs) (ha : M a = some (t, e)) (hP : va_P G.2.2.1 vwCl ((a, mv G.2.2.2.1 e') :: mWx G M H a) H1) (hS : va_S (mAf G.2.1) G.2.1 H1 locs1) : mR G (mup M a (t, e')) H1 locs1 := by
  refine ⟨fun b tb eb hb => ?_, fun b tb eb hb => ?_, hS⟩
  · by_cases hba : b = a
    · subst hba
      rw [mup_s] at hb
      cases hb
      exact hP 0 _ rfl
    · rw [mup_n hba] at hb
      by_cases h0 : tb = 0
      · have hlt := (h.2.1 b tb eb hb).mp h0
        refine (h.1 b tb eb hb).kept ?_
        have hn : ¬ mAf G.2.1 b := by show ¬ G.2.1.size ≤ b; omega
        rw [hS.2.1 b hlt hn, h.2.2.2.1 b hlt hn]
      · have hm : (b, mv G.2.2.2.1 eb) ∈ mWx G M H a := mW_mem.mpr ⟨h.lt hb, by simpa using hba, tb, eb, hb, h0, rfl⟩
        obtain ⟨k, hk⟩ := List.mem_iff_getElem?.mp hm
        exact hP (k + 1) _ hk
  · by_cases hba : b = a
    · subst hba
      rw [mup_s] at hb
      cases hb
      exact h.2.1 b t e ha
    · rw [mup_n hba] at hb
      exact h.2.1 b tb eb hb
theorem mR_new {G : mG} {M : mM} {H H1 : Heap} {locs locs1 : List Loc} {q t : Nat} {e : mE} (h : mR G M H locs) (ht : t ≠ 0) (hP : va_P G.2.2.1 vwCl (mW G.2.2.2.1 M H.size (fun _ => true) ++ [(q, mv G.2.2.2.1 e)]) H1) (hD : va_D (mAf G.2.1) (mW G.2.2.2.1 M H.size (fun _ => true) ++ [(q, mv G.2.2.2.1 e)])) (hS : va_S (mAf G.2.1) G.2.1 H1 locs1) : M q = none ∧ G.2.1.size ≤ q ∧ mR G (mup M q (t, e)) H1 locs1 := by
  have hl : (mW G.2.2.2.1 M H.size (fun _ => true) ++ [(q, mv G.2.2.2.1 e)])[(mW G.2.2.2.1 M H.size (fun _ => true)).length]? = some (q, mv G.2.2.2.1 e) := by simp
  have hq : G.2.1.size ≤ q := hD.2 _ _ hl
  have inW : ∀ b tb eb, M b = some (tb, eb) → tb ≠ 0 → ∃ k : Nat, k < (mW G.2.2.2.1 M H.size (fun _ => true)).length ∧ (mW G.2.2.2.1 M H.size (fun _ => true) ++ [(q, mv G.2.2.2.1 e)])[k]? = some (b, mv G.2.2.2.1 eb) := by
    intro b tb eb hb h0
    have hm : (b, mv G.2.2.2.1 eb) ∈ mW G.2.2.2.1 M H.size (fun _ => true) := mW_mem.mpr ⟨h.lt hb, rfl, tb, eb, hb, h0, rfl⟩
    obtain ⟨k, hk⟩ := List.mem_iff_getElem?.mp hm
    have hlt : k < (mW G.2.2.2.1 M H.size (fun _ => true)).length := (List.getElem?_eq_some_iff.mp hk).1
    exact ⟨k, hlt, by rw [List.getElem?_append_left hlt]; exact hk⟩
  have hnone : M q = none := by
    cases hM : M q with
    | none => rfl
    | some te =>
      obtain ⟨tq, eq⟩ := te
      exfalso
      by_cases h0 : tq = 0
      · have := (h.2.1 q tq eq hM).mp h0
        omega
      · obtain ⟨k, hlt, hk⟩ := inW q tq eq hM h0
        have := hD.1 k _ _ _ hk hl rfl
        omega
  refine ⟨hnone, hq, fun b tb eb hb => ?_, fun b tb eb hb => ?_, hS⟩
  · by_cases hba : b = q
    · subst hba
      rw [mup_s] at hb
      cases hb
      exact hP _ _ hl
    · rw [mup_n hba] at hb
      by_cases h0 : tb = 0
      · have hlt := (h.2.1 b tb eb hb).mp h0
        refine (h.1 b tb eb hb).kept ?_
        have hn : ¬ mAf G.2.1 b := by show ¬ G.2.1.size ≤ b; omega
        rw [hS.2.1 b hlt hn, h.2.2.2.1 b hlt hn]
      · obtain ⟨k, hlt, hk⟩ := inW b tb eb hb h0
        exact hP k _ hk
  · by_cases hba : b = q
    · subst hba
      rw [mup_s] at hb
      cases hb
      constructor
      · intro h1; exact absurd h1 ht
      · intro h1; omega
    · rw [mup_n hba] at hb
      exact h.2.1 b tb eb hb
/-- a cell's ghost tag may change -/
theorem mR_tag {G : mG} {M : mM} {H : Heap} {locs : List Loc} {a t t' : Nat} {e : mE} (h : mR G M H locs) (ha : M a = some (t, e)) (ht : t ≠ 0) (ht' : t' ≠ 0) : mR G (mup M a (t', e)) H locs := by
  refine ⟨fun b tb eb hb => ?_, fun b tb eb hb => ?_, h.2.2⟩
  · by_cases hba : b = a
    · subst hba
      rw [mup_s] at hb
      cases hb
      exact h.1 b t e ha
    · rw [mup_n hba] at hb
      exact h.1 b tb eb hb
  · by_cases hba : b = a
    · subst hba
      rw [mup_s] at hb
      cases hb
      have := h.2.1 b t e ha
      constructor
      · intro h1; exact absurd h1 ht'
      · intro h1; exact absurd (this.mpr h1) ht
    · rw [mup_n hba] at hb
      exact h.2.1 b tb eb hb
theorem mR.ret {G : mG} {M : mM} {H : Heap} {locs : List Loc} (h : mR G M H locs) : mR G M H [] := ⟨h.1, h.2.1, h.2.2.1, h.2.2.2.1, fun l hl => by cases hl⟩
/-- a contract out of the walk of its body -/
theorem CC.of {G : mG} {I : mI} {mc ms : Nat} {As : List Value} {M : mM} {post : Option Value → mM → Prop} (hy : plainName I.1.cls = true) (hlen : (lg_sl As).length ≤ I.2.2.1) (hA : (mA I.2.2.1 As).length = I.2.2.1)
    (body : ∀ X : mX, Cx X G I → Rt X post → V X mc ms 0 (mA I.2.2.1 As) [] M) : CC G I mc ms As M post := by
  refine Met.ofW (cc := I.2.1) (maxL := I.2.2.1) (ret := I.2.2.2.1) hy rfl ?_
  intro p e s m args below meth c s₁ B hml hv
  obtain ⟨rfl, hR, hK⟩ := hv
  have hts0 := atoms_spec (ws := .code I.1 I.2.1 I.2.2.1 I.2.2.2.1 :: BIG) B.pre
  rw [lg_entry_eq]
  have hl := lv_entry As hlen
  have hl2 : mL ((lg_sl As ++ List.replicate (I.2.2.1 - (lg_sl As).length) Slot.unset).toArray) (mA I.2.2.1 As) := by
    unfold mL
    rw [hA]
    refine ⟨hl.1, hl.2.1, fun q hq => hl.2.2 q ?_⟩
    have := mA_in As I.2.2.1 0 q.1 q.2 (mP_mem.mp hq)
    rw [Nat.zero_add] at this
    exact this
  exact body (p, e, (headSpec (.code I.1 I.2.1 I.2.2.1 I.2.2.2.1 :: BIG) (mRoom I.2.2.2.2 mc ms)).room, s, m, As.toArray, below, meth, c, MQ below (fun _ _ o t => ∃ r M', o = .returned r ∧ post r M' ∧ mR G M' t.heap []) As.toArray s mc ms (mAf G.2.1), mc, ms, G)
    ⟨rfl, B.exec, B.bytes, hml, B.returns, B.notSynchronized, findClass_of_methodNamed B.named, fun w hw => hts0 w (List.mem_cons_of_mem _ hw), hK, ⟨Nat.le_refl _, Nat.le_refl _, Nat.le_refl _, Nat.le_refl _⟩, fun hn => (name_of_methodNamed B.named B.method).1.trans hn, hR.2.2⟩ rfl
    s.heap [] 0 0 _ hR (by omega) (by omega) hl2
theorem CC.mono {G : mG} {I : mI} {mc ms : Nat} {As : List Value} {M : mM} {post post' : Option Value → mM → Prop} (h : CC G I mc ms As M post) (hp : ∀ r M', post r M' → post' r M') : CC G I mc ms As M post' := by
  intro p e ha hc hk s m args below hf hap hP ht
  obtain ⟨k, o, h1, h2, h3, ⟨⟨r, M', e1, e2, e3⟩, h5⟩⟩ := h p e ha hc hk s m args below hf hap hP ht
  exact ⟨k, o, h1, h2, h3, ⟨⟨r, M', e1, hp r M' e2, e3⟩, h5⟩⟩
theorem V.widen {X : mX} {bc bs bc' bs' pc : Nat} {L : List (Option Value)} {st : List Value} {M : mM} (h1 : bc' ≤ bc) (h2 : bs' ≤ bs) (k : V X bc' bs' pc L st M) : V X bc bs pc L st M := by
  obtain ⟨p, e, R, s, m, args, below, meth, c, Q, mc, ms, G⟩ := X
  intro H locs cells slots ls hR hc hs hl
  exact k H locs cells slots ls hR (by omega) (by omega) hl
section RWS
theorem s_iload_n {X : mX} {G : mG} {I : mI} (C : Cx X G I) {bc bs pc : Nat} (q : Nat) {L : List (Option Value)} {st : List Value} {M : mM} {k : Fin 4} {x : Int32} (d : decode I.2.1 pc = .ok (.iload_n k, 1)) (e : pc + 1 = q) (hg : L[(k : Nat)]? = some (some (.int x))) (k : V X bc bs q L (.int x :: st) M) : V X bc bs pc L (st) M := by
  obtain ⟨p, e0, R, s, m, args, below, meth, c, Q, mc, ms, G'⟩ := X
  obtain ⟨rfl, hx, hb, hml, hr, hlk, hown, hts, hK, hroom, hini, hS0⟩ := C
  subst e
  intro H locs cells slots ls hR hc hs hl
  exact lv_iload_n hx hb d rfl (mL_get hl hg) (k H locs cells slots ls hR hc hs hl)
theorem s_iload {X : mX} {G : mG} {I : mI} (C : Cx X G I) {bc bs pc : Nat} (q : Nat) {L : List (Option Value)} {st : List Value} {M : mM} {i : Nat} {x : Int32} (d : decode I.2.1 pc = .ok (.iload i, 2)) (e : pc + 2 = q) (hg : L[i]? = some (some (.int x))) (k : V X bc bs q L (.int x :: st) M) : V X bc bs pc L (st) M := by
  obtain ⟨p, e0, R, s, m, args, below, meth, c, Q, mc, ms, G'⟩ := X
  obtain ⟨rfl, hx, hb, hml, hr, hlk, hown, hts, hK, hroom, hini, hS0⟩ := C
  subst e
  intro H locs cells slots ls hR hc hs hl
  exact lv_iload hx hb d (mL_get hl hg) (k H locs cells slots ls hR hc hs hl)
theorem s_lload_n {X : mX} {G : mG} {I : mI} (C : Cx X G I) {bc bs pc : Nat} (q : Nat) {L : List (Option Value)} {st : List Value} {M : mM} {k : Fin 4} {x : Int64} (d : decode I.2.1 pc = .ok (.lload_n k, 1)) (e : pc + 1 = q) (hg : L[(k : Nat)]? = some (some (.long x))) (k : V X bc bs q L (.long x :: st) M) : V X bc bs pc L (st) M := by
  obtain ⟨p, e0, R, s, m, args, below, meth, c, Q, mc, ms, G'⟩ := X
  obtain ⟨rfl, hx, hb, hml, hr, hlk, hown, hts, hK, hroom, hini, hS0⟩ := C
  subst e
  intro H locs cells slots ls hR hc hs hl
  exact lv_lload_n hx hb d rfl (mL_get hl hg) (k H locs cells slots ls hR hc hs hl)
theorem s_lload {X : mX} {G : mG} {I : mI} (C : Cx X G I) {bc bs pc : Nat} (q : Nat) {L : List (Option Value)} {st : List Value} {M : mM} {i : Nat} {x : Int64} (d : decode I.2.1 pc = .ok (.lload i, 2)) (e : pc + 2 = q) (hg : L[i]? = some (some (.long x))) (k : V X bc bs q L (.long x :: st) M) : V X bc bs pc L (st) M := by
  obtain ⟨p, e0, R, s, m, args, below, meth, c, Q, mc, ms, G'⟩ := X
  obtain ⟨rfl, hx, hb, hml, hr, hlk, hown, hts, hK, hroom, hini, hS0⟩ := C
  subst e
  intro H locs cells slots ls hR hc hs hl
  exact lv_lload hx hb d (mL_get hl hg) (k H locs cells slots ls hR hc hs hl)
theorem s_aload_n {X : mX} {G : mG} {I : mI} (C : Cx X G I) {bc bs pc : Nat} (q : Nat) {L : List (Option Value)} {st : List Value} {M : mM} {k : Fin 4} {x : Nat} (d : decode I.2.1 pc = .ok (.aload_n k, 1)) (e : pc + 1 = q) (hg : L[(k : Nat)]? = some (some (.ref x))) (k : V X bc bs q L (.ref x :: st) M) : V X bc bs pc L (st) M := by
  obtain ⟨p, e0, R, s, m, args, below, meth, c, Q, mc, ms, G'⟩ := X
  obtain ⟨rfl, hx, hb, hml, hr, hlk, hown, hts, hK, hroom, hini, hS0⟩ := C
  subst e
  intro H locs cells slots ls hR hc hs hl
  exact lv_aload_n hx hb d rfl (mL_get hl hg) (k H locs cells slots ls hR hc hs hl)
theorem s_aload {X : mX} {G : mG} {I : mI} (C : Cx X G I) {bc bs pc : Nat} (q : Nat) {L : List (Option Value)} {st : List Value} {M : mM} {i : Nat} {x : Nat} (d : decode I.2.1 pc = .ok (.aload i, 2)) (e : pc + 2 = q) (hg : L[i]? = some (some (.ref x))) (k : V X bc bs q L (.ref x :: st) M) : V X bc bs pc L (st) M := by
  obtain ⟨p, e0, R, s, m, args, below, meth, c, Q, mc, ms, G'⟩ := X
  obtain ⟨rfl, hx, hb, hml, hr, hlk, hown, hts, hK, hroom, hini, hS0⟩ := C
  subst e
  intro H locs cells slots ls hR hc hs hl
  exact lv_aload hx hb d (mL_get hl hg) (k H locs cells slots ls hR hc hs hl)
theorem s_aload_nN {X : mX} {G : mG} {I : mI} (C : Cx X G I) {bc bs pc : Nat} (q : Nat) {L : List (Option Value)} {st : List Value} {M : mM} {k : Fin 4} (d : decode I.2.1 pc = .ok (.aload_n k, 1)) (e : pc + 1 = q) (hg : L[(k : Nat)]? = some (some .null)) (k : V X bc bs q L (.null :: st) M) : V X bc bs pc L (st) M := by
  obtain ⟨p, e0, R, s, m, args, below, meth, c, Q, mc, ms, G'⟩ := X
  obtain ⟨rfl, hx, hb, hml, hr, hlk, hown, hts, hK, hroom, hini, hS0⟩ := C
  subst e
  intro H locs cells slots ls hR hc hs hl
  exact lv_aload_nN hx hb d rfl (mL_get hl hg) (k H locs cells slots ls hR hc hs hl)
theorem s_iconst {X : mX} {G : mG} {I : mI} (C : Cx X G I) {bc bs pc : Nat} (q : Nat) {L : List (Option Value)} {st : List Value} {M : mM} {n : Int} (v : Int32) (d : decode I.2.1 pc = .ok (.iconst n, 1)) (e : pc + 1 = q) (hv : Int32.ofInt n = v) (k : V X bc bs q L (.int v :: st) M) : V X bc bs pc L (st) M := by
  obtain ⟨p, e0, R, s, m, args, below, meth, c, Q, mc, ms, G'⟩ := X
  obtain ⟨rfl, hx, hb, hml, hr, hlk, hown, hts, hK, hroom, hini, hS0⟩ := C
  subst e
  intro H locs cells slots ls hR hc hs hl
  exact lv_iconst hx hb d hv (k H locs cells slots ls hR hc hs hl)
theorem s_bipush {X : mX} {G : mG} {I : mI} (C : Cx X G I) {bc bs pc : Nat} (q : Nat) {L : List (Option Value)} {st : List Value} {M : mM} {n : Int} (v : Int32) (d : decode I.2.1 pc = .ok (.bipush n, 2)) (e : pc + 2 = q) (hv : (Int8.ofInt n).toInt32 = v) (k : V X bc bs q L (.int v :: st) M) : V X bc bs pc L (st) M := by
  obtain ⟨p, e0, R, s, m, args, below, meth, c, Q, mc, ms, G'⟩ := X
  obtain ⟨rfl, hx, hb, hml, hr, hlk, hown, hts, hK, hroom, hini, hS0⟩ := C
  subst e
  intro H locs cells slots ls hR hc hs hl
  exact lv_bipush hx hb d hv (k H locs cells slots ls hR hc hs hl)
theorem s_sipush {X : mX} {G : mG} {I : mI} (C : Cx X G I) {bc bs pc : Nat} (q : Nat) {L : List (Option Value)} {st : List Value} {M : mM} {n : Int} (v : Int32) (d : decode I.2.1 pc = .ok (.sipush n, 3)) (e : pc + 3 = q) (hv : (Int16.ofInt n).toInt32 = v) (k : V X bc bs q L (.int v :: st) M) : V X bc bs pc L (st) M := by
  obtain ⟨p, e0, R, s, m, args, below, meth, c, Q, mc, ms, G'⟩ := X
  obtain ⟨rfl, hx, hb, hml, hr, hlk, hown, hts, hK, hroom, hini, hS0⟩ := C
  subst e
  intro H locs cells slots ls hR hc hs hl
  exact lv_sipush hx hb d hv (k H locs cells slots ls hR hc hs hl)
theorem s_lconst {X : mX} {G : mG} {I : mI} (C : Cx X G I) {bc bs pc : Nat} (q : Nat) {L : List (Option Value)} {st : List Value} {M : mM} {n : Fin 2} (v : Int64) (d : decode I.2.1 pc = .ok (.lconst n, 1)) (e : pc + 1 = q) (hv : Int64.ofNat (n : Nat) = v) (k : V X bc bs q L (.long v :: st) M) : V X bc bs pc L (st) M := by
  obtain ⟨p, e0, R, s, m, args, below, meth, c, Q, mc, ms, G'⟩ := X
  obtain ⟨rfl, hx, hb, hml, hr, hlk, hown, hts, hK, hroom, hini, hS0⟩ := C
  subst e
  intro H locs cells slots ls hR hc hs hl
  exact lv_lconst hx hb d hv (k H locs cells slots ls hR hc hs hl)
theorem s_null {X : mX} {G : mG} {I : mI} (C : Cx X G I) {bc bs pc : Nat} (q : Nat) {L : List (Option Value)} {st : List Value} {M : mM}  (d : decode I.2.1 pc = .ok (.aconst_null, 1)) (e : pc + 1 = q)  (k : V X bc bs q L (.null :: st) M) : V X bc bs pc L (st) M := by
  obtain ⟨p, e0, R, s, m, args, below, meth, c, Q, mc, ms, G'⟩ := X
  obtain ⟨rfl, hx, hb, hml, hr, hlk, hown, hts, hK, hroom, hini, hS0⟩ := C
  subst e
  intro H locs cells slots ls hR hc hs hl
  exact lv_null hx hb d (k H locs cells slots ls hR hc hs hl)
theorem s_iadd {X : mX} {G : mG} {I : mI} (C : Cx X G I) {bc bs pc : Nat} (q : Nat) {L : List (Option Value)} {st : List Value} {M : mM} {x y : Int32} (d : decode I.2.1 pc = .ok (.iadd, 1)) (e : pc + 1 = q)  (k : V X bc bs q L (.int (x + y) :: st) M) : V X bc bs pc L (.int y :: .int x :: st) M := by
  obtain ⟨p, e0, R, s, m, args, below, meth, c, Q, mc, ms, G'⟩ := X
  obtain ⟨rfl, hx, hb, hml, hr, hlk, hown, hts, hK, hroom, hini, hS0⟩ := C
  subst e
  intro H locs cells slots ls hR hc hs hl
  exact lv_iadd hx hb d (k H locs cells slots ls hR hc hs hl)
theorem s_isub {X : mX} {G : mG} {I : mI} (C : Cx X G I) {bc bs pc : Nat} (q : Nat) {L : List (Option Value)} {st : List Value} {M : mM} {x y : Int32} (d : decode I.2.1 pc = .ok (.isub, 1)) (e : pc + 1 = q)  (k : V X bc bs q L (.int (x - y) :: st) M) : V X bc bs pc L (.int y :: .int x :: st) M := by
  obtain ⟨p, e0, R, s, m, args, below, meth, c, Q, mc, ms, G'⟩ := X
  obtain ⟨rfl, hx, hb, hml, hr, hlk, hown, hts, hK, hroom, hini, hS0⟩ := C
  subst e
  intro H locs cells slots ls hR hc hs hl
  exact lv_isub hx hb d (k H locs cells slots ls hR hc hs hl)
theorem s_imul {X : mX} {G : mG} {I : mI} (C : Cx X G I) {bc bs pc : Nat} (q : Nat) {L : List (Option Value)} {st : List Value} {M : mM} {x y : Int32} (d : decode I.2.1 pc = .ok (.imul, 1)) (e : pc + 1 = q)  (k : V X bc bs q L (.int (x * y) :: st) M) : V X bc bs pc L (.int y :: .int x :: st) M := by
  obtain ⟨p, e0, R, s, m, args, below, meth, c, Q, mc, ms, G'⟩ := X
  obtain ⟨rfl, hx, hb, hml, hr, hlk, hown, hts, hK, hroom, hini, hS0⟩ := C
  subst e
  intro H locs cells slots ls hR hc hs hl
  exact lv_imul hx hb d (k H locs cells slots ls hR hc hs hl)
theorem s_iand {X : mX} {G : mG} {I : mI} (C : Cx X G I) {bc bs pc : Nat} (q : Nat) {L : List (Option Value)} {st : List Value} {M : mM} {x y : Int32} (d : decode I.2.1 pc = .ok (.iand, 1)) (e : pc + 1 = q)  (k : V X bc bs q L (.int (x &&& y) :: st) M) : V X bc bs pc L (.int y :: .int x :: st) M := by
  obtain ⟨p, e0, R, s, m, args, below, meth, c, Q, mc, ms, G'⟩ := X
  obtain ⟨rfl, hx, hb, hml, hr, hlk, hown, hts, hK, hroom, hini, hS0⟩ := C
  subst e
  intro H locs cells slots ls hR hc hs hl
  exact lv_iand hx hb d (k H locs cells slots ls hR hc hs hl)
theorem s_ior {X : mX} {G : mG} {I : mI} (C : Cx X G I) {bc bs pc : Nat} (q : Nat) {L : List (Option Value)} {st : List Value} {M : mM} {x y : Int32} (d : decode I.2.1 pc = .ok (.ior, 1)) (e : pc + 1 = q)  (k : V X bc bs q L (.int (x ||| y) :: st) M) : V X bc bs pc L (.int y :: .int x :: st) M := by
  obtain ⟨p, e0, R, s, m, args, below, meth, c, Q, mc, ms, G'⟩ := X
  obtain ⟨rfl, hx, hb, hml, hr, hlk, hown, hts, hK, hroom, hini, hS0⟩ := C
  subst e
  intro H locs cells slots ls hR hc hs hl
  exact lv_ior hx hb d (k H locs cells slots ls hR hc hs hl)
theorem s_ishl {X : mX} {G : mG} {I : mI} (C : Cx X G I) {bc bs pc : Nat} (q : Nat) {L : List (Option Value)} {st : List Value} {M : mM} {x y : Int32} (d : decode I.2.1 pc = .ok (.ishl, 1)) (e : pc + 1 = q)  (k : V X bc bs q L (.int (x <<< (y &&& 31)) :: st) M) : V X bc bs pc L (.int y :: .int x :: st) M := by
  obtain ⟨p, e0, R, s, m, args, below, meth, c, Q, mc, ms, G'⟩ := X
  obtain ⟨rfl, hx, hb, hml, hr, hlk, hown, hts, hK, hroom, hini, hS0⟩ := C
  subst e
  intro H locs cells slots ls hR hc hs hl
  exact lv_ishl hx hb d (k H locs cells slots ls hR hc hs hl)
theorem s_ishr {X : mX} {G : mG} {I : mI} (C : Cx X G I) {bc bs pc : Nat} (q : Nat) {L : List (Option Value)} {st : List Value} {M : mM} {x y : Int32} (d : decode I.2.1 pc = .ok (.ishr, 1)) (e : pc + 1 = q)  (k : V X bc bs q L (.int (x >>> (y &&& 31)) :: st) M) : V X bc bs pc L (.int y :: .int x :: st) M := by
  obtain ⟨p, e0, R, s, m, args, below, meth, c, Q, mc, ms, G'⟩ := X
  obtain ⟨rfl, hx, hb, hml, hr, hlk, hown, hts, hK, hroom, hini, hS0⟩ := C
  subst e
  intro H locs cells slots ls hR hc hs hl
  exact lv_ishr hx hb d (k H locs cells slots ls hR hc hs hl)
theorem s_ladd {X : mX} {G : mG} {I : mI} (C : Cx X G I) {bc bs pc : Nat} (q : Nat) {L : List (Option Value)} {st : List Value} {M : mM} {x y : Int64} (d : decode I.2.1 pc = .ok (.ladd, 1)) (e : pc + 1 = q)  (k : V X bc bs q L (.long (x + y) :: st) M) : V X bc bs pc L (.long y :: .long x :: st) M := by
  obtain ⟨p, e0, R, s, m, args, below, meth, c, Q, mc, ms, G'⟩ := X
  obtain ⟨rfl, hx, hb, hml, hr, hlk, hown, hts, hK, hroom, hini, hS0⟩ := C
  subst e
  intro H locs cells slots ls hR hc hs hl
  exact lv_ladd hx hb d (k H locs cells slots ls hR hc hs hl)
theorem s_lmul {X : mX} {G : mG} {I : mI} (C : Cx X G I) {bc bs pc : Nat} (q : Nat) {L : List (Option Value)} {st : List Value} {M : mM} {x y : Int64} (d : decode I.2.1 pc = .ok (.lmul, 1)) (e : pc + 1 = q)  (k : V X bc bs q L (.long (x * y) :: st) M) : V X bc bs pc L (.long y :: .long x :: st) M := by
  obtain ⟨p, e0, R, s, m, args, below, meth, c, Q, mc, ms, G'⟩ := X
  obtain ⟨rfl, hx, hb, hml, hr, hlk, hown, hts, hK, hroom, hini, hS0⟩ := C
  subst e
  intro H locs cells slots ls hR hc hs hl
  exact lv_lmul hx hb d (k H locs cells slots ls hR hc hs hl)
theorem s_land {X : mX} {G : mG} {I : mI} (C : Cx X G I) {bc bs pc : Nat} (q : Nat) {L : List (Option Value)} {st : List Value} {M : mM} {x y : Int64} (d : decode I.2.1 pc = .ok (.land, 1)) (e : pc + 1 = q)  (k : V X bc bs q L (.long (x &&& y) :: st) M) : V X bc bs pc L (.long y :: .long x :: st) M := by
  obtain ⟨p, e0, R, s, m, args, below, meth, c, Q, mc, ms, G'⟩ := X
  obtain ⟨rfl, hx, hb, hml, hr, hlk, hown, hts, hK, hroom, hini, hS0⟩ := C
  subst e
  intro H locs cells slots ls hR hc hs hl
  exact lv_land hx hb d (k H locs cells slots ls hR hc hs hl)
theorem s_irem {X : mX} {G : mG} {I : mI} (C : Cx X G I) {bc bs pc : Nat} (q : Nat) {L : List (Option Value)} {st : List Value} {M : mM} {x y : Int32} (d : decode I.2.1 pc = .ok (.irem, 1)) (e : pc + 1 = q) (hne : ¬ y = 0) (k : V X bc bs q L (.int (x - x / y * y) :: st) M) : V X bc bs pc L (.int y :: .int x :: st) M := by
  obtain ⟨p, e0, R, s, m, args, below, meth, c, Q, mc, ms, G'⟩ := X
  obtain ⟨rfl, hx, hb, hml, hr, hlk, hown, hts, hK, hroom, hini, hS0⟩ := C
  subst e
  intro H locs cells slots ls hR hc hs hl
  exact lv_irem hx hb d hne (k H locs cells slots ls hR hc hs hl)
theorem s_i2l {X : mX} {G : mG} {I : mI} (C : Cx X G I) {bc bs pc : Nat} (q : Nat) {L : List (Option Value)} {st : List Value} {M : mM} {x : Int32} (d : decode I.2.1 pc = .ok (.i2l, 1)) (e : pc + 1 = q)  (k : V X bc bs q L (.long x.toInt64 :: st) M) : V X bc bs pc L (.int x :: st) M := by
  obtain ⟨p, e0, R, s, m, args, below, meth, c, Q, mc, ms, G'⟩ := X
  obtain ⟨rfl, hx, hb, hml, hr, hlk, hown, hts, hK, hroom, hini, hS0⟩ := C
  subst e
  intro H locs cells slots ls hR hc hs hl
  exact lv_i2l hx hb d rfl (k H locs cells slots ls hR hc hs hl)
theorem s_l2i {X : mX} {G : mG} {I : mI} (C : Cx X G I) {bc bs pc : Nat} (q : Nat) {L : List (Option Value)} {st : List Value} {M : mM} {x : Int64} (d : decode I.2.1 pc = .ok (.l2i, 1)) (e : pc + 1 = q)  (k : V X bc bs q L (.int x.toInt32 :: st) M) : V X bc bs pc L (.long x :: st) M := by
  obtain ⟨p, e0, R, s, m, args, below, meth, c, Q, mc, ms, G'⟩ := X
  obtain ⟨rfl, hx, hb, hml, hr, hlk, hown, hts, hK, hroom, hini, hS0⟩ := C
  subst e
  intro H locs cells slots ls hR hc hs hl
  exact lv_l2i hx hb d rfl (k H locs cells slots ls hR hc hs hl)
theorem s_i2c {X : mX} {G : mG} {I : mI} (C : Cx X G I) {bc bs pc : Nat} (q : Nat) {L : List (Option Value)} {st : List Value} {M : mM} {x v : Int32} (d : decode I.2.1 pc = .ok (.i2c, 1)) (e : pc + 1 = q) (hv : (x.toUInt32 % 65536).toInt32 = v) (k : V X bc bs q L (.int v :: st) M) : V X bc bs pc L (.int x :: st) M := by
  obtain ⟨p, e0, R, s, m, args, below, meth, c, Q, mc, ms, G'⟩ := X
  obtain ⟨rfl, hx, hb, hml, hr, hlk, hown, hts, hK, hroom, hini, hS0⟩ := C
  subst e
  intro H locs cells slots ls hR hc hs hl
  exact lv_i2c hx hb d hv (k H locs cells slots ls hR hc hs hl)
theorem s_lshr {X : mX} {G : mG} {I : mI} (C : Cx X G I) {bc bs pc : Nat} (q : Nat) {L : List (Option Value)} {st : List Value} {M : mM} {x : Int64} {y : Int32} (d : decode I.2.1 pc = .ok (.lshr, 1)) (e : pc + 1 = q)  (k : V X bc bs q L (.long (x >>> (y.toInt64 &&& 63)) :: st) M) : V X bc bs pc L (.int y :: .long x :: st) M := by
  obtain ⟨p, e0, R, s, m, args, below, meth, c, Q, mc, ms, G'⟩ := X
  obtain ⟨rfl, hx, hb, hml, hr, hlk, hown, hts, hK, hroom, hini, hS0⟩ := C
  subst e
  intro H locs cells slots ls hR hc hs hl
  exact lv_lshr hx hb d rfl (k H locs cells slots ls hR hc hs hl)
theorem s_lcmp {X : mX} {G : mG} {I : mI} (C : Cx X G I) {bc bs pc : Nat} (q : Nat) {L : List (Option Value)} {st : List Value} {M : mM} {x y : Int64} (d : decode I.2.1 pc = .ok (.lcmp, 1)) (e : pc + 1 = q)  (k : V X bc bs q L (.int (lg_cmp x y) :: st) M) : V X bc bs pc L (.long y :: .long x :: st) M := by
  obtain ⟨p, e0, R, s, m, args, below, meth, c, Q, mc, ms, G'⟩ := X
  obtain ⟨rfl, hx, hb, hml, hr, hlk, hown, hts, hK, hroom, hini, hS0⟩ := C
  subst e
  intro H locs cells slots ls hR hc hs hl
  exact W.lcmp hx hb d (k H locs cells slots ls hR hc hs hl)
theorem s_iaddN {X : mX} {G : mG} {I : mI} (C : Cx X G I) {bc bs pc : Nat} (q : Nat) {L : List (Option Value)} {st : List Value} {M : mM} {a b : Nat} (d : decode I.2.1 pc = .ok (.iadd, 1)) (e : pc + 1 = q)  (k : V X bc bs q L (.int (nI (a + b)) :: st) M) : V X bc bs pc L (.int (nI b) :: .int (nI a) :: st) M := by
  obtain ⟨p, e0, R, s, m, args, below, meth, c, Q, mc, ms, G'⟩ := X
  obtain ⟨rfl, hx, hb, hml, hr, hlk, hown, hts, hK, hroom, hini, hS0⟩ := C
  subst e
  intro H locs cells slots ls hR hc hs hl
  exact lv_iadd hx hb d (by rw [nI_add]; exact k H locs cells slots ls hR hc hs hl)
theorem s_isubN {X : mX} {G : mG} {I : mI} (C : Cx X G I) {bc bs pc : Nat} (q : Nat) {L : List (Option Value)} {st : List Value} {M : mM} {a b : Nat} (d : decode I.2.1 pc = .ok (.isub, 1)) (e : pc + 1 = q) (hle : b ≤ a) (k : V X bc bs q L (.int (nI (a - b)) :: st) M) : V X bc bs pc L (.int (nI b) :: .int (nI a) :: st) M := by
  obtain ⟨p, e0, R, s, m, args, below, meth, c, Q, mc, ms, G'⟩ := X
  obtain ⟨rfl, hx, hb, hml, hr, hlk, hown, hts, hK, hroom, hini, hS0⟩ := C
  subst e
  intro H locs cells slots ls hR hc hs hl
  exact lv_isub hx hb d (by rw [pk_sub hle]; exact k H locs cells slots ls hR hc hs hl)
theorem s_imulN {X : mX} {G : mG} {I : mI} (C : Cx X G I) {bc bs pc : Nat} (q : Nat) {L : List (Option Value)} {st : List Value} {M : mM} {a b : Nat} (d : decode I.2.1 pc = .ok (.imul, 1)) (e : pc + 1 = q)  (k : V X bc bs q L (.int (nI (a * b)) :: st) M) : V X bc bs pc L (.int (nI b) :: .int (nI a) :: st) M := by
  obtain ⟨p, e0, R, s, m, args, below, meth, c, Q, mc, ms, G'⟩ := X
  obtain ⟨rfl, hx, hb, hml, hr, hlk, hown, hts, hK, hroom, hini, hS0⟩ := C
  subst e
  intro H locs cells slots ls hR hc hs hl
  exact lv_imul hx hb d (by rw [pk_mul]; exact k H locs cells slots ls hR hc hs hl)
theorem s_dup {X : mX} {G : mG} {I : mI} (C : Cx X G I) {bc bs pc : Nat} (q : Nat) {L : List (Option Value)} {st : List Value} {M : mM} {va : Value} (d : decode I.2.1 pc = .ok (.dup, 1)) (e : pc + 1 = q) (hv : va.category = 1) (k : V X bc bs q L (va :: va :: st) M) : V X bc bs pc L (va :: st) M := by
  obtain ⟨p, e0, R, s, m, args, below, meth, c, Q, mc, ms, G'⟩ := X
  obtain ⟨rfl, hx, hb, hml, hr, hlk, hown, hts, hK, hroom, hini, hS0⟩ := C
  subst e
  intro H locs cells slots ls hR hc hs hl
  exact lv_dup hx hb d hv (k H locs cells slots ls hR hc hs hl)
theorem s_pop {X : mX} {G : mG} {I : mI} (C : Cx X G I) {bc bs pc : Nat} (q : Nat) {L : List (Option Value)} {st : List Value} {M : mM} {va : Value} (d : decode I.2.1 pc = .ok (.pop, 1)) (e : pc + 1 = q) (hv : va.category = 1) (k : V X bc bs q L (st) M) : V X bc bs pc L (va :: st) M := by
  obtain ⟨p, e0, R, s, m, args, below, meth, c, Q, mc, ms, G'⟩ := X
  obtain ⟨rfl, hx, hb, hml, hr, hlk, hown, hts, hK, hroom, hini, hS0⟩ := C
  subst e
  intro H locs cells slots ls hR hc hs hl
  exact lv_pop hx hb d hv (k H locs cells slots ls hR hc hs hl)
theorem s_dup_x1 {X : mX} {G : mG} {I : mI} (C : Cx X G I) {bc bs pc : Nat} (q : Nat) {L : List (Option Value)} {st : List Value} {M : mM} {va vb : Value} (d : decode I.2.1 pc = .ok (.dup_x1, 1)) (e : pc + 1 = q) (hv : va.category = 1) (hw : vb.category = 1) (k : V X bc bs q L (va :: vb :: va :: st) M) : V X bc bs pc L (va :: vb :: st) M := by
  obtain ⟨p, e0, R, s, m, args, below, meth, c, Q, mc, ms, G'⟩ := X
  obtain ⟨rfl, hx, hb, hml, hr, hlk, hown, hts, hK, hroom, hini, hS0⟩ := C
  subst e
  intro H locs cells slots ls hR hc hs hl
  exact lv_dup_x1 hx hb d hv hw (k H locs cells slots ls hR hc hs hl)
theorem s_dup2 {X : mX} {G : mG} {I : mI} (C : Cx X G I) {bc bs pc : Nat} (q : Nat) {L : List (Option Value)} {st : List Value} {M : mM} {va vb : Value} (d : decode I.2.1 pc = .ok (.dup2, 1)) (e : pc + 1 = q) (hv : va.category = 1) (hw : vb.category = 1) (k : V X bc bs q L (va :: vb :: va :: vb :: st) M) : V X bc bs pc L (va :: vb :: st) M := by
  obtain ⟨p, e0, R, s, m, args, below, meth, c, Q, mc, ms, G'⟩ := X
  obtain ⟨rfl, hx, hb, hml, hr, hlk, hown, hts, hK, hroom, hini, hS0⟩ := C
  subst e
  intro H locs cells slots ls hR hc hs hl
  exact lv_dup2_11 hx hb d hv hw (k H locs cells slots ls hR hc hs hl)
theorem s_goto {X : mX} {G : mG} {I : mI} (C : Cx X G I) {bc bs pc : Nat} (q : Nat) {L : List (Option Value)} {st : List Value} {M : mM} {off : Int} (d : decode I.2.1 pc = .ok (.goto off, 3)) (e : (pc : Int) + off = (q : Int)) (k : V X bc bs q L st M) : V X bc bs pc L st M := by
  obtain ⟨p, e0, R, s, m, args, below, meth, c, Q, mc, ms, G'⟩ := X
  obtain ⟨rfl, hx, hb, hml, hr, hlk, hown, hts, hK, hroom, hini, hS0⟩ := C
  intro H locs cells slots ls hR hc hs hl
  exact lv_goto hx hb d e (k H locs cells slots ls hR hc hs hl)
theorem s_icmp_lt {X : mX} {G : mG} {I : mI} (C : Cx X G I) {bc bs pc : Nat} (t q : Nat) {L : List (Option Value)} {st : List Value} {M : mM} {x y : Int32} {off : Int} (d : decode I.2.1 pc = .ok (.if_icmp .lt off, 3)) (e : (pc : Int) + off = (t : Int)) (e2 : pc + 3 = q)  (kt : x < y → V X bc bs t L st M) (kf : ¬ x < y → V X bc bs q L st M) : V X bc bs pc L (.int y :: .int x :: st) M := by
  obtain ⟨p, e0, R, s, m, args, below, meth, c, Q, mc, ms, G'⟩ := X
  obtain ⟨rfl, hx, hb, hml, hr, hlk, hown, hts, hK, hroom, hini, hS0⟩ := C
  subst e2
  intro H locs cells slots ls hR hc hs hl
  exact lv_icmp_lt hx hb d e (fun z => kt z H locs cells slots ls hR hc hs hl) (fun z => kf z H locs cells slots ls hR hc hs hl)
theorem s_if_lt {X : mX} {G : mG} {I : mI} (C : Cx X G I) {bc bs pc : Nat} (t q : Nat) {L : List (Option Value)} {st : List Value} {M : mM} {x : Int32} {off : Int} (d : decode I.2.1 pc = .ok (.ifCond .lt off, 3)) (e : (pc : Int) + off = (t : Int)) (e2 : pc + 3 = q)  (kt : x < 0 → V X bc bs t L st M) (kf : ¬ x < 0 → V X bc bs q L st M) : V X bc bs pc L (.int x :: st) M := by
  obtain ⟨p, e0, R, s, m, args, below, meth, c, Q, mc, ms, G'⟩ := X
  obtain ⟨rfl, hx, hb, hml, hr, hlk, hown, hts, hK, hroom, hini, hS0⟩ := C
  subst e2
  intro H locs cells slots ls hR hc hs hl
  exact lv_if_lt hx hb d e (fun z => kt z H locs cells slots ls hR hc hs hl) (fun z => kf z H locs cells slots ls hR hc hs hl)
theorem s_icmp_ge {X : mX} {G : mG} {I : mI} (C : Cx X G I) {bc bs pc : Nat} (t q : Nat) {L : List (Option Value)} {st : List Value} {M : mM} {x y : Int32} {off : Int} (d : decode I.2.1 pc = .ok (.if_icmp .ge off, 3)) (e : (pc : Int) + off = (t : Int)) (e2 : pc + 3 = q)  (kt : y ≤ x → V X bc bs t L st M) (kf : ¬ y ≤ x → V X bc bs q L st M) : V X bc bs pc L (.int y :: .int x :: st) M := by
  obtain ⟨p, e0, R, s, m, args, below, meth, c, Q, mc, ms, G'⟩ := X
  obtain ⟨rfl, hx, hb, hml, hr, hlk, hown, hts, hK, hroom, hini, hS0⟩ := C
  subst e2
  intro H locs cells slots ls hR hc hs hl
  exact lv_icmp_ge hx hb d e (fun z => kt z H locs cells slots ls hR hc hs hl) (fun z => kf z H locs cells slots ls hR hc hs hl)
theorem s_if_ge {X : mX} {G : mG} {I : mI} (C : Cx X G I) {bc bs pc : Nat} (t q : Nat) {L : List (Option Value)} {st : List Value} {M : mM} {x : Int32} {off : Int} (d : decode I.2.1 pc = .ok (.ifCond .ge off, 3)) (e : (pc : Int) + off = (t : Int)) (e2 : pc + 3 = q)  (kt : 0 ≤ x → V X bc bs t L st M) (kf : ¬ 0 ≤ x → V X bc bs q L st M) : V X bc bs pc L (.int x :: st) M := by
  obtain ⟨p, e0, R, s, m, args, below, meth, c, Q, mc, ms, G'⟩ := X
  obtain ⟨rfl, hx, hb, hml, hr, hlk, hown, hts, hK, hroom, hini, hS0⟩ := C
  subst e2
  intro H locs cells slots ls hR hc hs hl
  exact lv_if_ge hx hb d e (fun z => kt z H locs cells slots ls hR hc hs hl) (fun z => kf z H locs cells slots ls hR hc hs hl)
theorem s_icmp_gt {X : mX} {G : mG} {I : mI} (C : Cx X G I) {bc bs pc : Nat} (t q : Nat) {L : List (Option Value)} {st : List Value} {M : mM} {x y : Int32} {off : Int} (d : decode I.2.1 pc = .ok (.if_icmp .gt off, 3)) (e : (pc : Int) + off = (t : Int)) (e2 : pc + 3 = q)  (kt : y < x → V X bc bs t L st M) (kf : ¬ y < x → V X bc bs q L st M) : V X bc bs pc L (.int y :: .int x :: st) M := by
  obtain ⟨p, e0, R, s, m, args, below, meth, c, Q, mc, ms, G'⟩ := X
  obtain ⟨rfl, hx, hb, hml, hr, hlk, hown, hts, hK, hroom, hini, hS0⟩ := C
  subst e2
  intro H locs cells slots ls hR hc hs hl
  exact lv_icmp_gt hx hb d e (fun z => kt z H locs cells slots ls hR hc hs hl) (fun z => kf z H locs cells slots ls hR hc hs hl)
theorem s_if_gt {X : mX} {G : mG} {I : mI} (C : Cx X G I) {bc bs pc : Nat} (t q : Nat) {L : List (Option Value)} {st : List Value} {M : mM} {x : Int32} {off : Int} (d : decode I.2.1 pc = .ok (.ifCond .gt off, 3)) (e : (pc : Int) + off = (t : Int)) (e2 : pc + 3 = q)  (kt : 0 < x → V X bc bs t L st M) (kf : ¬ 0 < x → V X bc bs q L st M) : V X bc bs pc L (.int x :: st) M := by
  obtain ⟨p, e0, R, s, m, args, below, meth, c, Q, mc, ms, G'⟩ := X
  obtain ⟨rfl, hx, hb, hml, hr, hlk, hown, hts, hK, hroom, hini, hS0⟩ := C
  subst e2
  intro H locs cells slots ls hR hc hs hl
  exact lv_if_gt hx hb d e (fun z => kt z H locs cells slots ls hR hc hs hl) (fun z => kf z H locs cells slots ls hR hc hs hl)
theorem s_icmp_le {X : mX} {G : mG} {I : mI} (C : Cx X G I) {bc bs pc : Nat} (t q : Nat) {L : List (Option Value)} {st : List Value} {M : mM} {x y : Int32} {off : Int} (d : decode I.2.1 pc = .ok (.if_icmp .le off, 3)) (e : (pc : Int) + off = (t : Int)) (e2 : pc + 3 = q)  (kt : x ≤ y → V X bc bs t L st M) (kf : ¬ x ≤ y → V X bc bs q L st M) : V X bc bs pc L (.int y :: .int x :: st) M := by
  obtain ⟨p, e0, R, s, m, args, below, meth, c, Q, mc, ms, G'⟩ := X
  obtain ⟨rfl, hx, hb, hml, hr, hlk, hown, hts, hK, hroom, hini, hS0⟩ := C
  subst e2
  intro H locs cells slots ls hR hc hs hl
  exact lv_icmp_le hx hb d e (fun z => kt z H locs cells slots ls hR hc hs hl) (fun z => kf z H locs cells slots ls hR hc hs hl)
theorem s_if_le {X : mX} {G : mG} {I : mI} (C : Cx X G I) {bc bs pc : Nat} (t q : Nat) {L : List (Option Value)} {st : List Value} {M : mM} {x : Int32} {off : Int} (d : decode I.2.1 pc = .ok (.ifCond .le off, 3)) (e : (pc : Int) + off = (t : Int)) (e2 : pc + 3 = q)  (kt : x ≤ 0 → V X bc bs t L st M) (kf : ¬ x ≤ 0 → V X bc bs q L st M) : V X bc bs pc L (.int x :: st) M := by
  obtain ⟨p, e0, R, s, m, args, below, meth, c, Q, mc, ms, G'⟩ := X
  obtain ⟨rfl, hx, hb, hml, hr, hlk, hown, hts, hK, hroom, hini, hS0⟩ := C
  subst e2
  intro H locs cells slots ls hR hc hs hl
  exact lv_if_le hx hb d e (fun z => kt z H locs cells slots ls hR hc hs hl) (fun z => kf z H locs cells slots ls hR hc hs hl)
theorem s_icmp_eq {X : mX} {G : mG} {I : mI} (C : Cx X G I) {bc bs pc : Nat} (t q : Nat) {L : List (Option Value)} {st : List Value} {M : mM} {x y : Int32} {off : Int} (d : decode I.2.1 pc = .ok (.if_icmp .eq off, 3)) (e : (pc : Int) + off = (t : Int)) (e2 : pc + 3 = q)  (kt : x = y → V X bc bs t L st M) (kf : ¬ x = y → V X bc bs q L st M) : V X bc bs pc L (.int y :: .int x :: st) M := by
  obtain ⟨p, e0, R, s, m, args, below, meth, c, Q, mc, ms, G'⟩ := X
  obtain ⟨rfl, hx, hb, hml, hr, hlk, hown, hts, hK, hroom, hini, hS0⟩ := C
  subst e2
  intro H locs cells slots ls hR hc hs hl
  exact lv_icmp_eq hx hb d e (fun z => kt z H locs cells slots ls hR hc hs hl) (fun z => kf z H locs cells slots ls hR hc hs hl)
theorem s_if_eq {X : mX} {G : mG} {I : mI} (C : Cx X G I) {bc bs pc : Nat} (t q : Nat) {L : List (Option Value)} {st : List Value} {M : mM} {x : Int32} {off : Int} (d : decode I.2.1 pc = .ok (.ifCond .eq off, 3)) (e : (pc : Int) + off = (t : Int)) (e2 : pc + 3 = q)  (kt : x = 0 → V X bc bs t L st M) (kf : ¬ x = 0 → V X bc bs q L st M) : V X bc bs pc L (.int x :: st) M := by
  obtain ⟨p, e0, R, s, m, args, below, meth, c, Q, mc, ms, G'⟩ := X
  obtain ⟨rfl, hx, hb, hml, hr, hlk, hown, hts, hK, hroom, hini, hS0⟩ := C
  subst e2
  intro H locs cells slots ls hR hc hs hl
  exact lv_if_eq hx hb d e (fun z => kt z H locs cells slots ls hR hc hs hl) (fun z => kf z H locs cells slots ls hR hc hs hl)
theorem s_icmp_ne {X : mX} {G : mG} {I : mI} (C : Cx X G I) {bc bs pc : Nat} (t q : Nat) {L : List (Option Value)} {st : List Value} {M : mM} {x y : Int32} {off : Int} (d : decode I.2.1 pc = .ok (.if_icmp .ne off, 3)) (e : (pc : Int) + off = (t : Int)) (e2 : pc + 3 = q)  (kt : ¬ x = y → V X bc bs t L st M) (kf : x = y → V X bc bs q L st M) : V X bc bs pc L (.int y :: .int x :: st) M := by
  obtain ⟨p, e0, R, s, m, args, below, meth, c, Q, mc, ms, G'⟩ := X
  obtain ⟨rfl, hx, hb, hml, hr, hlk, hown, hts, hK, hroom, hini, hS0⟩ := C
  subst e2
  intro H locs cells slots ls hR hc hs hl
  exact lv_icmp_ne hx hb d e (fun z => kt z H locs cells slots ls hR hc hs hl) (fun z => kf z H locs cells slots ls hR hc hs hl)
theorem s_if_ne {X : mX} {G : mG} {I : mI} (C : Cx X G I) {bc bs pc : Nat} (t q : Nat) {L : List (Option Value)} {st : List Value} {M : mM} {x : Int32} {off : Int} (d : decode I.2.1 pc = .ok (.ifCond .ne off, 3)) (e : (pc : Int) + off = (t : Int)) (e2 : pc + 3 = q)  (kt : ¬ x = 0 → V X bc bs t L st M) (kf : x = 0 → V X bc bs q L st M) : V X bc bs pc L (.int x :: st) M := by
  obtain ⟨p, e0, R, s, m, args, below, meth, c, Q, mc, ms, G'⟩ := X
  obtain ⟨rfl, hx, hb, hml, hr, hlk, hown, hts, hK, hroom, hini, hS0⟩ := C
  subst e2
  intro H locs cells slots ls hR hc hs hl
  exact lv_if_ne hx hb d e (fun z => kt z H locs cells slots ls hR hc hs hl) (fun z => kf z H locs cells slots ls hR hc hs hl)
theorem s_icmp_ltN {X : mX} {G : mG} {I : mI} (C : Cx X G I) {bc bs pc : Nat} (t q : Nat) {L : List (Option Value)} {st : List Value} {M : mM} {a b : Nat} {off : Int} (d : decode I.2.1 pc = .ok (.if_icmp .lt off, 3)) (e : (pc : Int) + off = (t : Int)) (e2 : pc + 3 = q) (ha : a < 2 ^ 31) (hb2 : b < 2 ^ 31) (kt : a < b → V X bc bs t L st M) (kf : b ≤ a → V X bc bs q L st M) : V X bc bs pc L (.int (nI b) :: .int (nI a) :: st) M := by
  obtain ⟨p, e0, R, s, m, args, below, meth, c, Q, mc, ms, G'⟩ := X
  obtain ⟨rfl, hx, hb, hml, hr, hlk, hown, hts, hK, hroom, hini, hS0⟩ := C
  subst e2
  intro H locs cells slots ls hR hc hs hl
  exact lv_icmp_lt hx hb d e (fun z => kt ((nI_ltI ha hb2).mp z) H locs cells slots ls hR hc hs hl) (fun z => kf (Nat.le_of_not_lt (fun w => z ((nI_ltI ha hb2).mpr w))) H locs cells slots ls hR hc hs hl)
theorem s_icmp_geN {X : mX} {G : mG} {I : mI} (C : Cx X G I) {bc bs pc : Nat} (t q : Nat) {L : List (Option Value)} {st : List Value} {M : mM} {a b : Nat} {off : Int} (d : decode I.2.1 pc = .ok (.if_icmp .ge off, 3)) (e : (pc : Int) + off = (t : Int)) (e2 : pc + 3 = q) (ha : a < 2 ^ 31) (hb2 : b < 2 ^ 31) (kt : b ≤ a → V X bc bs t L st M) (kf : a < b → V X bc bs q L st M) : V X bc bs pc L (.int (nI b) :: .int (nI a) :: st) M := by
  obtain ⟨p, e0, R, s, m, args, below, meth, c, Q, mc, ms, G'⟩ := X
  obtain ⟨rfl, hx, hb, hml, hr, hlk, hown, hts, hK, hroom, hini, hS0⟩ := C
  subst e2
  intro H locs cells slots ls hR hc hs hl
  exact lv_icmp_ge hx hb d e (fun z => kt ((nI_leI hb2 ha).mp z) H locs cells slots ls hR hc hs hl) (fun z => kf (Nat.lt_of_not_le (fun w => z ((nI_leI hb2 ha).mpr w))) H locs cells slots ls hR hc hs hl)
theorem s_icmp_gtN {X : mX} {G : mG} {I : mI} (C : Cx X G I) {bc bs pc : Nat} (t q : Nat) {L : List (Option Value)} {st : List Value} {M : mM} {a b : Nat} {off : Int} (d : decode I.2.1 pc = .ok (.if_icmp .gt off, 3)) (e : (pc : Int) + off = (t : Int)) (e2 : pc + 3 = q) (ha : a < 2 ^ 31) (hb2 : b < 2 ^ 31) (kt : b < a → V X bc bs t L st M) (kf : a ≤ b → V X bc bs q L st M) : V X bc bs pc L (.int (nI b) :: .int (nI a) :: st) M := by
  obtain ⟨p, e0, R, s, m, args, below, meth, c, Q, mc, ms, G'⟩ := X
  obtain ⟨rfl, hx, hb, hml, hr, hlk, hown, hts, hK, hroom, hini, hS0⟩ := C
  subst e2
  intro H locs cells slots ls hR hc hs hl
  exact lv_icmp_gt hx hb d e (fun z => kt ((nI_ltI hb2 ha).mp z) H locs cells slots ls hR hc hs hl) (fun z => kf (Nat.le_of_not_lt (fun w => z ((nI_ltI hb2 ha).mpr w))) H locs cells slots ls hR hc hs hl)
theorem s_icmp_leN {X : mX} {G : mG} {I : mI} (C : Cx X G I) {bc bs pc : Nat} (t q : Nat) {L : List (Option Value)} {st : List Value} {M : mM} {a b : Nat} {off : Int} (d : decode I.2.1 pc = .ok (.if_icmp .le off, 3)) (e : (pc : Int) + off = (t : Int)) (e2 : pc + 3 = q) (ha : a < 2 ^ 31) (hb2 : b < 2 ^ 31) (kt : a ≤ b → V X bc bs t L st M) (kf : b < a → V X bc bs q L st M) : V X bc bs pc L (.int (nI b) :: .int (nI a) :: st) M := by
  obtain ⟨p, e0, R, s, m, args, below, meth, c, Q, mc, ms, G'⟩ := X
  obtain ⟨rfl, hx, hb, hml, hr, hlk, hown, hts, hK, hroom, hini, hS0⟩ := C
  subst e2
  intro H locs cells slots ls hR hc hs hl
  exact lv_icmp_le hx hb d e (fun z => kt ((nI_leI ha hb2).mp z) H locs cells slots ls hR hc hs hl) (fun z => kf (Nat.lt_of_not_le (fun w => z ((nI_leI ha hb2).mpr w))) H locs cells slots ls hR hc hs hl)
theorem s_icmp_eqN {X : mX} {G : mG} {I : mI} (C : Cx X G I) {bc bs pc : Nat} (t q : Nat) {L : List (Option Value)} {st : List Value} {M : mM} {a b : Nat} {off : Int} (d : decode I.2.1 pc = .ok (.if_icmp .eq off, 3)) (e : (pc : Int) + off = (t : Int)) (e2 : pc + 3 = q) (ha : a < 2 ^ 31) (hb2 : b < 2 ^ 31) (kt : a = b → V X bc bs t L st M) (kf : a ≠ b → V X bc bs q L st M) : V X bc bs pc L (.int (nI b) :: .int (nI a) :: st) M := by
  obtain ⟨p, e0, R, s, m, args, below, meth, c, Q, mc, ms, G'⟩ := X
  obtain ⟨rfl, hx, hb, hml, hr, hlk, hown, hts, hK, hroom, hini, hS0⟩ := C
  subst e2
  intro H locs cells slots ls hR hc hs hl
  exact lv_icmp_eq hx hb d e (fun z => kt ((nI_eq ha hb2).mp z) H locs cells slots ls hR hc hs hl) (fun z => kf (fun w => z ((nI_eq ha hb2).mpr w)) H locs cells slots ls hR hc hs hl)
theorem s_icmp_neN {X : mX} {G : mG} {I : mI} (C : Cx X G I) {bc bs pc : Nat} (t q : Nat) {L : List (Option Value)} {st : List Value} {M : mM} {a b : Nat} {off : Int} (d : decode I.2.1 pc = .ok (.if_icmp .ne off, 3)) (e : (pc : Int) + off = (t : Int)) (e2 : pc + 3 = q) (ha : a < 2 ^ 31) (hb2 : b < 2 ^ 31) (kt : a ≠ b → V X bc bs t L st M) (kf : a = b → V X bc bs q L st M) : V X bc bs pc L (.int (nI b) :: .int (nI a) :: st) M := by
  obtain ⟨p, e0, R, s, m, args, below, meth, c, Q, mc, ms, G'⟩ := X
  obtain ⟨rfl, hx, hb, hml, hr, hlk, hown, hts, hK, hroom, hini, hS0⟩ := C
  subst e2
  intro H locs cells slots ls hR hc hs hl
  exact lv_icmp_ne hx hb d e (fun z => kt (fun w => z ((nI_eq ha hb2).mpr w)) H locs cells slots ls hR hc hs hl) (fun z => kf ((nI_eq ha hb2).mp z) H locs cells slots ls hR hc hs hl)
theorem s_if_eqN {X : mX} {G : mG} {I : mI} (C : Cx X G I) {bc bs pc : Nat} (t q : Nat) {L : List (Option Value)} {st : List Value} {M : mM} {a : Nat} {off : Int} (d : decode I.2.1 pc = .ok (.ifCond .eq off, 3)) (e : (pc : Int) + off = (t : Int)) (e2 : pc + 3 = q) (ha : a < 2 ^ 31) (kt : a = 0 → V X bc bs t L st M) (kf : a ≠ 0 → V X bc bs q L st M) : V X bc bs pc L (.int (nI a) :: st) M := by
  obtain ⟨p, e0, R, s, m, args, below, meth, c, Q, mc, ms, G'⟩ := X
  obtain ⟨rfl, hx, hb, hml, hr, hlk, hown, hts, hK, hroom, hini, hS0⟩ := C
  subst e2
  intro H locs cells slots ls hR hc hs hl
  exact lv_if_eq hx hb d e (fun z => kt ((nI_eq ha (by omega)).mp (z.trans nI_0.symm)) H locs cells slots ls hR hc hs hl) (fun z => kf (fun w => z (by rw [w]; exact nI_0)) H locs cells slots ls hR hc hs hl)
theorem s_if_neN {X : mX} {G : mG} {I : mI} (C : Cx X G I) {bc bs pc : Nat} (t q : Nat) {L : List (Option Value)} {st : List Value} {M : mM} {a : Nat} {off : Int} (d : decode I.2.1 pc = .ok (.ifCond .ne off, 3)) (e : (pc : Int) + off = (t : Int)) (e2 : pc + 3 = q) (ha : a < 2 ^ 31) (kt : a ≠ 0 → V X bc bs t L st M) (kf : a = 0 → V X bc bs q L st M) : V X bc bs pc L (.int (nI a) :: st) M := by
  obtain ⟨p, e0, R, s, m, args, below, meth, c, Q, mc, ms, G'⟩ := X
  obtain ⟨rfl, hx, hb, hml, hr, hlk, hown, hts, hK, hroom, hini, hS0⟩ := C
  subst e2
  intro H locs cells slots ls hR hc hs hl
  exact lv_if_ne hx hb d e (fun z => kt (fun w => z (by rw [w]; exact nI_0)) H locs cells slots ls hR hc hs hl) (fun z => kf ((nI_eq ha (by omega)).mp (z.trans nI_0.symm)) H locs cells slots ls hR hc hs hl)
theorem s_if_gtN {X : mX} {G : mG} {I : mI} (C : Cx X G I) {bc bs pc : Nat} (t q : Nat) {L : List (Option Value)} {st : List Value} {M : mM} {a : Nat} {off : Int} (d : decode I.2.1 pc = .ok (.ifCond .gt off, 3)) (e : (pc : Int) + off = (t : Int)) (e2 : pc + 3 = q) (ha : a < 2 ^ 31) (kt : 0 < a → V X bc bs t L st M) (kf : a = 0 → V X bc bs q L st M) : V X bc bs pc L (.int (nI a) :: st) M := by
  obtain ⟨p, e0, R, s, m, args, below, meth, c, Q, mc, ms, G'⟩ := X
  obtain ⟨rfl, hx, hb, hml, hr, hlk, hown, hts, hK, hroom, hini, hS0⟩ := C
  subst e2
  intro H locs cells slots ls hR hc hs hl
  exact lv_if_gt hx hb d e (fun z => kt (Nat.pos_of_ne_zero (fun w => by rw [w, nI_0] at z; exact absurd z (by decide))) H locs cells slots ls hR hc hs hl) (fun z => kf (Nat.eq_zero_of_not_pos (fun w => z (by rw [← nI_0]; exact nI_lt w ha))) H locs cells slots ls hR hc hs hl)
theorem s_if_leN {X : mX} {G : mG} {I : mI} (C : Cx X G I) {bc bs pc : Nat} (t q : Nat) {L : List (Option Value)} {st : List Value} {M : mM} {a : Nat} {off : Int} (d : decode I.2.1 pc = .ok (.ifCond .le off, 3)) (e : (pc : Int) + off = (t : Int)) (e2 : pc + 3 = q) (ha : a < 2 ^ 31) (kt : a = 0 → V X bc bs t L st M) (kf : 0 < a → V X bc bs q L st M) : V X bc bs pc L (.int (nI a) :: st) M := by
  obtain ⟨p, e0, R, s, m, args, below, meth, c, Q, mc, ms, G'⟩ := X
  obtain ⟨rfl, hx, hb, hml, hr, hlk, hown, hts, hK, hroom, hini, hS0⟩ := C
  subst e2
  intro H locs cells slots ls hR hc hs hl
  exact lv_if_le hx hb d e (fun z => kt (Nat.eq_zero_of_not_pos (fun w => nI_nle w ha z)) H locs cells slots ls hR hc hs hl) (fun z => kf (Nat.pos_of_ne_zero (fun w => z (by rw [w, nI_0]; decide))) H locs cells slots ls hR hc hs hl)
theorem s_if_ltN {X : mX} {G : mG} {I : mI} (C : Cx X G I) {bc bs pc : Nat} (q : Nat) {L : List (Option Value)} {st : List Value} {M : mM} {a : Nat} {off : Int} {t : Nat} (d : decode I.2.1 pc = .ok (.ifCond .lt off, 3)) (e : (pc : Int) + off = (t : Int)) (e2 : pc + 3 = q) (ha : a < 2 ^ 31) (kf : V X bc bs q L st M) : V X bc bs pc L (.int (nI a) :: st) M := s_if_lt C t q d e e2 (fun z => absurd z (nI_pos ha)) (fun _ => kf)
theorem s_if_geN {X : mX} {G : mG} {I : mI} (C : Cx X G I) {bc bs pc : Nat} (t : Nat) {L : List (Option Value)} {st : List Value} {M : mM} {a : Nat} {off : Int} (d : decode I.2.1 pc = .ok (.ifCond .ge off, 3)) (e : (pc : Int) + off = (t : Int)) (ha : a < 2 ^ 31) (kt : V X bc bs t L st M) : V X bc bs pc L (.int (nI a) :: st) M := s_if_ge C t _ d e rfl (fun _ => kt) (fun z => absurd (nI_pos' ha) z)
def mB (b : Bool) : Int32 := cond b 1 0
theorem mB_0 {b : Bool} : mB b = 0 ↔ b = false := by cases b <;> decide
theorem mB_n {b : Bool} : ¬ mB b = 0 ↔ b = true := by cases b <;> decide
theorem mB_z (b : Bool) : narrow .boolean (.int (mB b)) = .int (mB b) := by cases b <;> decide
theorem s_if_eqB {X : mX} {G : mG} {I : mI} (C : Cx X G I) {bc bs pc : Nat} (t q : Nat) {L : List (Option Value)} {st : List Value} {M : mM} {b : Bool} {off : Int} (d : decode I.2.1 pc = .ok (.ifCond .eq off, 3)) (e : (pc : Int) + off = (t : Int)) (e2 : pc + 3 = q)  (kt : b = false → V X bc bs t L st M) (kf : b = true → V X bc bs q L st M) : V X bc bs pc L (.int (mB b) :: st) M := by
  obtain ⟨p, e0, R, s, m, args, below, meth, c, Q, mc, ms, G'⟩ := X
  obtain ⟨rfl, hx, hb, hml, hr, hlk, hown, hts, hK, hroom, hini, hS0⟩ := C
  subst e2
  intro H locs cells slots ls hR hc hs hl
  exact lv_if_eq hx hb d e (fun z => kt (mB_0.mp z) H locs cells slots ls hR hc hs hl) (fun z => kf (mB_n.mp z) H locs cells slots ls hR hc hs hl)
theorem s_if_neB {X : mX} {G : mG} {I : mI} (C : Cx X G I) {bc bs pc : Nat} (t q : Nat) {L : List (Option Value)} {st : List Value} {M : mM} {b : Bool} {off : Int} (d : decode I.2.1 pc = .ok (.ifCond .ne off, 3)) (e : (pc : Int) + off = (t : Int)) (e2 : pc + 3 = q)  (kt : b = true → V X bc bs t L st M) (kf : b = false → V X bc bs q L st M) : V X bc bs pc L (.int (mB b) :: st) M := by
  obtain ⟨p, e0, R, s, m, args, below, meth, c, Q, mc, ms, G'⟩ := X
  obtain ⟨rfl, hx, hb, hml, hr, hlk, hown, hts, hK, hroom, hini, hS0⟩ := C
  subst e2
  intro H locs cells slots ls hR hc hs hl
  exact lv_if_ne hx hb d e (fun z => kt (mB_n.mp z) H locs cells slots ls hR hc hs hl) (fun z => kf (mB_0.mp z) H locs cells slots ls hR hc hs hl)
theorem s_acmp_ne {X : mX} {G : mG} {I : mI} (C : Cx X G I) {bc bs pc : Nat} (t q : Nat) {L : List (Option Value)} {st : List Value} {M : mM} {x y : Nat} {off : Int} (d : decode I.2.1 pc = .ok (.if_acmp .ne off, 3)) (e : (pc : Int) + off = (t : Int)) (e2 : pc + 3 = q) (kt : ¬ x = y → V X bc bs t L st M) (kf : x = y → V X bc bs q L st M) : V X bc bs pc L (.ref y :: .ref x :: st) M := by
  obtain ⟨p, e0, R, s, m, args, below, meth, c, Q, mc, ms, G'⟩ := X
  obtain ⟨rfl, hx, hb, hml, hr, hlk, hown, hts, hK, hroom, hini, hS0⟩ := C
  subst e2
  intro H locs cells slots ls hR hc hs hl
  exact lv_acmp_ne (rx := some x) (ry := some y) hx hb d e (fun z => kt (fun w => z (by rw [w])) H locs cells slots ls hR hc hs hl) (fun z => kf (Option.some.inj z) H locs cells slots ls hR hc hs hl)
theorem s_istore_n {X : mX} {G : mG} {I : mI} (C : Cx X G I) {bc bs pc : Nat} (q : Nat) {L : List (Option Value)} {st : List Value} {M : mM} {k : Fin 4} {x : Int32} (d : decode I.2.1 pc = .ok (.istore_n k, 1)) (e : pc + 1 = q) (hk : mk2 L (k : Nat) = true) (hn : (k : Nat) < L.length) (k' : V X bc bs q (L.set (k : Nat) (some (.int x))) st M) : V X bc bs pc L (.int x :: st) M := by
  obtain ⟨p, e0, R, s, m, args, below, meth, c, Q, mc, ms, G'⟩ := X
  obtain ⟨rfl, hx, hb, hml, hr, hlk, hown, hts, hK, hroom, hini, hS0⟩ := C
  subst e
  intro H locs cells slots ls hR hc hs hl
  exact lv_istore_n hx hb d rfl hl hn rfl (fun ls' hl' => k' H locs cells slots ls' hR hc hs (mL_set hk hn hl'))
theorem s_istore {X : mX} {G : mG} {I : mI} (C : Cx X G I) {bc bs pc : Nat} (q : Nat) {L : List (Option Value)} {st : List Value} {M : mM} {i : Nat} {x : Int32} (d : decode I.2.1 pc = .ok (.istore i, 2)) (e : pc + 2 = q) (hk : mk2 L i = true) (hn : i < L.length) (k' : V X bc bs q (L.set i (some (.int x))) st M) : V X bc bs pc L (.int x :: st) M := by
  obtain ⟨p, e0, R, s, m, args, below, meth, c, Q, mc, ms, G'⟩ := X
  obtain ⟨rfl, hx, hb, hml, hr, hlk, hown, hts, hK, hroom, hini, hS0⟩ := C
  subst e
  intro H locs cells slots ls hR hc hs hl
  exact lv_istore hx hb d hl hn rfl (fun ls' hl' => k' H locs cells slots ls' hR hc hs (mL_set hk hn hl'))
theorem s_astore_n {X : mX} {G : mG} {I : mI} (C : Cx X G I) {bc bs pc : Nat} (q : Nat) {L : List (Option Value)} {st : List Value} {M : mM} {k : Fin 4} {x : Nat} (d : decode I.2.1 pc = .ok (.astore_n k, 1)) (e : pc + 1 = q) (hk : mk2 L (k : Nat) = true) (hn : (k : Nat) < L.length) (k' : V X bc bs q (L.set (k : Nat) (some (.ref x))) st M) : V X bc bs pc L (.ref x :: st) M := by
  obtain ⟨p, e0, R, s, m, args, below, meth, c, Q, mc, ms, G'⟩ := X
  obtain ⟨rfl, hx, hb, hml, hr, hlk, hown, hts, hK, hroom, hini, hS0⟩ := C
  subst e
  intro H locs cells slots ls hR hc hs hl
  exact lv_astore_n hx hb d rfl hl hn rfl (fun ls' hl' => k' H locs cells slots ls' hR hc hs (mL_set hk hn hl'))
theorem s_astore {X : mX} {G : mG} {I : mI} (C : Cx X G I) {bc bs pc : Nat} (q : Nat) {L : List (Option Value)} {st : List Value} {M : mM} {i : Nat} {x : Nat} (d : decode I.2.1 pc = .ok (.astore i, 2)) (e : pc + 2 = q) (hk : mk2 L i = true) (hn : i < L.length) (k' : V X bc bs q (L.set i (some (.ref x))) st M) : V X bc bs pc L (.ref x :: st) M := by
  obtain ⟨p, e0, R, s, m, args, below, meth, c, Q, mc, ms, G'⟩ := X
  obtain ⟨rfl, hx, hb, hml, hr, hlk, hown, hts, hK, hroom, hini, hS0⟩ := C
  subst e
  intro H locs cells slots ls hR hc hs hl
  exact lv_astore hx hb d hl hn rfl (fun ls' hl' => k' H locs cells slots ls' hR hc hs (mL_set hk hn hl'))
theorem s_lstore_n {X : mX} {G : mG} {I : mI} (C : Cx X G I) {bc bs pc : Nat} (q : Nat) {L : List (Option Value)} {st : List Value} {M : mM} {k : Fin 4} {x : Int64} (d : decode I.2.1 pc = .ok (.lstore_n k, 1)) (e : pc + 1 = q) (hk : mk2 L (k : Nat) = true) (hn : (k : Nat) + 1 < L.length) (k' : V X bc bs q ((L.set (k : Nat) (some (.long x))).set ((k : Nat) + 1) none) st M) : V X bc bs pc L (.long x :: st) M := by
  obtain ⟨p, e0, R, s, m, args, below, meth, c, Q, mc, ms, G'⟩ := X
  obtain ⟨rfl, hx, hb, hml, hr, hlk, hown, hts, hK, hroom, hini, hS0⟩ := C
  subst e
  intro H locs cells slots ls hR hc hs hl
  exact lv_lstore_n hx hb d rfl hl hn rfl (fun ls' hl' => k' H locs cells slots ls' hR hc hs (mL_set2 hk hn hl'))
theorem s_lstore {X : mX} {G : mG} {I : mI} (C : Cx X G I) {bc bs pc : Nat} (q : Nat) {L : List (Option Value)} {st : List Value} {M : mM} {i : Nat} {x : Int64} (d : decode I.2.1 pc = .ok (.lstore i, 2)) (e : pc + 2 = q) (hk : mk2 L i = true) (hn : i + 1 < L.length) (k' : V X bc bs q ((L.set i (some (.long x))).set (i + 1) none) st M) : V X bc bs pc L (.long x :: st) M := by
  obtain ⟨p, e0, R, s, m, args, below, meth, c, Q, mc, ms, G'⟩ := X
  obtain ⟨rfl, hx, hb, hml, hr, hlk, hown, hts, hK, hroom, hini, hS0⟩ := C
  subst e
  intro H locs cells slots ls hR hc hs hl
  exact lv_lstore hx hb d hl hn rfl (fun ls' hl' => k' H locs cells slots ls' hR hc hs (mL_set2 hk hn hl'))
theorem s_iinc {X : mX} {G : mG} {I : mI} (C : Cx X G I) {bc bs pc : Nat} (q : Nat) {L : List (Option Value)} {st : List Value} {M : mM} {i : Nat} {n : Int} {x : Int32} (v : Int32) (d : decode I.2.1 pc = .ok (.iinc i n, 3)) (e : pc + 3 = q) (hg : L[i]? = some (some (.int x))) (hv : x + Int32.ofInt n = v) (hk : mk2 L i = true) (k' : V X bc bs q (L.set i (some (.int v))) st M) : V X bc bs pc L st M := by
  obtain ⟨p, e0, R, s, m, args, below, meth, c, Q, mc, ms, G'⟩ := X
  obtain ⟨rfl, hx, hb, hml, hr, hlk, hown, hts, hK, hroom, hini, hS0⟩ := C
  subst e
  intro H locs cells slots ls hR hc hs hl
  have hn : i < L.length := (List.getElem?_eq_some_iff.mp hg).1
  obtain ⟨j, hj⟩ := List.mem_iff_getElem?.mp (mP_mem.mpr hg)
  exact lv_iinc hx hb d hl hj hv hn rfl (fun ls' hl' => k' H locs cells slots ls' hR hc hs (mL_set hk hn hl'))
theorem s_vret {X : mX} {G : mG} {I : mI} (C : Cx X G I) {bc bs pc : Nat} {L : List (Option Value)} {M : mM}  (d : decode I.2.1 pc = .ok (.return_, 1)) {post : Option Value → mM → Prop} (T : Rt X post) (hty : I.2.2.2.1 = none) (h : post (none) M) : V X bc bs pc L [] M := by
  obtain ⟨p, e0, R, s, m, args, below, meth, c, Q, mc, ms, G'⟩ := X
  obtain ⟨rfl, hx, hb, hml, hr, hlk, hown, hts, hK, hroom, hini, hS0⟩ := C
  have T : Q = _ := T
  subst T
  intro H locs cells slots ls hR hc hs hl
  refine W.widen (k := mc) (n := ms) (by omega) (by omega) ?_
  exact W.vret hx hb (hr.trans hty) (fun t ht _ => ⟨_, M, rfl, h, by rw [ht]; exact hR.ret⟩) hR.2.2.2.2 d hlk
theorem s_iret {X : mX} {G : mG} {I : mI} (C : Cx X G I) {bc bs pc : Nat} {L : List (Option Value)} {M : mM} {v : Int32} (d : decode I.2.1 pc = .ok (.ireturn, 1)) {post : Option Value → mM → Prop} (T : Rt X post) (hty : I.2.2.2.1 = some .int) (h : post (some (.int v)) M) : V X bc bs pc L [.int v] M := by
  obtain ⟨p, e0, R, s, m, args, below, meth, c, Q, mc, ms, G'⟩ := X
  obtain ⟨rfl, hx, hb, hml, hr, hlk, hown, hts, hK, hroom, hini, hS0⟩ := C
  have T : Q = _ := T
  subst T
  intro H locs cells slots ls hR hc hs hl
  refine W.widen (k := mc) (n := ms) (by omega) (by omega) ?_
  exact W.iret hx hb (hr.trans hty) (fun t ht _ => ⟨_, M, rfl, h, by rw [ht]; exact hR.ret⟩) hR.2.2.2.2 d hlk
theorem s_zret {X : mX} {G : mG} {I : mI} (C : Cx X G I) {bc bs pc : Nat} {L : List (Option Value)} {M : mM} {v : Int32} {ty : FieldType} (d : decode I.2.1 pc = .ok (.ireturn, 1)) {post : Option Value → mM → Prop} (T : Rt X post) (hty : I.2.2.2.1 = some ty) (hn : narrow ty (.int v) = .int v) (h : post (some (.int v)) M) : V X bc bs pc L [.int v] M := by
  obtain ⟨p, e0, R, s, m, args, below, meth, c, Q, mc, ms, G'⟩ := X
  obtain ⟨rfl, hx, hb, hml, hr, hlk, hown, hts, hK, hroom, hini, hS0⟩ := C
  have T : Q = _ := T
  subst T
  intro H locs cells slots ls hR hc hs hl
  refine W.widen (k := mc) (n := ms) (by omega) (by omega) ?_
  exact W.zret hx hb (hr.trans hty) hn (fun t ht _ => ⟨_, M, rfl, h, by rw [ht]; exact hR.ret⟩) hR.2.2.2.2 d hlk
theorem s_lret {X : mX} {G : mG} {I : mI} (C : Cx X G I) {bc bs pc : Nat} {L : List (Option Value)} {M : mM} {v : Int64} (d : decode I.2.1 pc = .ok (.lreturn, 1)) {post : Option Value → mM → Prop} (T : Rt X post) (hty : I.2.2.2.1 = some .long) (h : post (some (.long v)) M) : V X bc bs pc L [.long v] M := by
  obtain ⟨p, e0, R, s, m, args, below, meth, c, Q, mc, ms, G'⟩ := X
  obtain ⟨rfl, hx, hb, hml, hr, hlk, hown, hts, hK, hroom, hini, hS0⟩ := C
  have T : Q = _ := T
  subst T
  intro H locs cells slots ls hR hc hs hl
  refine W.widen (k := mc) (n := ms) (by omega) (by omega) ?_
  exact W.lret hx hb (hr.trans hty) (fun t ht _ => ⟨_, M, rfl, h, by rw [ht]; exact hR.ret⟩) hR.2.2.2.2 d hlk
theorem s_aret {X : mX} {G : mG} {I : mI} (C : Cx X G I) {bc bs pc : Nat} {L : List (Option Value)} {M : mM} {a : Nat} {ty : FieldType} (d : decode I.2.1 pc = .ok (.areturn, 1)) {post : Option Value → mM → Prop} (T : Rt X post) (hty : I.2.2.2.1 = some ty) (hrt : (∃ n, ty = .object n) ∨ ∃ t, ty = .array t) (h : post (some (.ref a)) M) : V X bc bs pc L [.ref a] M := by
  obtain ⟨p, e0, R, s, m, args, below, meth, c, Q, mc, ms, G'⟩ := X
  obtain ⟨rfl, hx, hb, hml, hr, hlk, hown, hts, hK, hroom, hini, hS0⟩ := C
  have T : Q = _ := T
  subst T
  intro H locs cells slots ls hR hc hs hl
  refine W.widen (k := mc) (n := ms) (by omega) (by omega) ?_
  exact W.aret hx hb (hr.trans hty) hrt (Or.inr ⟨a, rfl⟩) (fun t ht _ => ⟨_, M, rfl, h, by rw [ht]; exact hR.ret⟩) hR.2.2.2.2 d hlk
end RWS
/-! memory rows -/
/-- a field of the classes here, as a class of ours links it -/
def mF (own : String) (idx ci k : Nat) : Prop := ∃ r : vw_C, vwCl[ci]? = some r ∧ k < r.2.2 ∧ (∀ w ∈ u_ws r.1 r.2.1 r.2.2, w ∈ BIG) ∧ Cond.fieldLink own idx (r.2.1 k).1 (r.2.1 k).2.1 (r.2.1 k).2.2.1 ∈ BIG
theorem s_getf {X : mX} {G : mG} {I : mI} (C : Cx X G I) {bc bs pc : Nat} (q : Nat) {L : List (Option Value)} {st : List Value} {M : mM} {idx ci k a t : Nat} {fs : List Value} {v : Value} (d : decode I.2.1 pc = .ok (.getfield idx, 3)) (e : pc + 3 = q) (hf : mF I.1.cls idx ci k) (hM : M a = some (t, .inl (ci, fs))) (hv : fs[k]? = some v) (h : V X bc bs q L (v :: st) M) : V X bc bs pc L (.ref a :: st) M := by
  obtain ⟨p, e0, R, s, m, args, below, meth, c, Q, mc, ms, G'⟩ := X
  obtain ⟨rfl, hx, hb, hml, hr, hlk, hown, hts, hK, hroom, hini, hS0⟩ := C
  obtain ⟨r, h1, h2, h3, h4⟩ := hf
  subst e
  intro H locs cells slots ls hR hc hs hl
  exact va_get (ws := [(a, .inr (ci, fs))]) hx hb hts h3 hown hK.1 (fun k q hq => by
    cases k with
    | zero => cases hq; exact hR.1 a t _ hM
    | succ k => cases hq) 0 rfl h1 k h2 (hts _ h4) (fun _ h9 => h9) hv d (h H locs cells slots ls hR hc hs hl)
/-- a field that may be written: of type ty -/
def mFp (own : String) (idx ci k : Nat) (ty : FieldType) (fin : Bool) : Prop := ∃ (r : vw_C) (ty0 : Nat → FieldType), vwCl[ci]? = some r ∧ k < r.2.2 ∧ (∀ w ∈ u_ws r.1 r.2.1 r.2.2, w ∈ BIG) ∧ Cond.fieldLink own idx (r.2.1 k).1 (r.2.1 k).2.1 (r.2.1 k).2.2.1 ∈ BIG ∧ (∀ k, k < r.2.2 → parseFieldDescriptor (r.2.1 k).2.2.1 = some (ty0 k)) ∧ (∀ a, a < r.2.2 → ∀ b, b < r.2.2 → a ≠ b → (r.2.1 a).2.1 ≠ (r.2.1 b).2.1) ∧ ty0 k = ty ∧ (r.2.1 k).2.2.2 = fin ∧ (fin = true → (r.2.1 k).1 = own)
theorem s_putf {X : mX} {G : mG} {I : mI} (C : Cx X G I) {bc bs pc : Nat} (q : Nat) {L : List (Option Value)} {st : List Value} {M : mM} {idx ci k a t : Nat} {ty : FieldType} {fs : List Value} {v : Value} (d : decode I.2.1 pc = .ok (.putfield idx, 3)) (e : pc + 3 = q) (hf : mFp I.1.cls idx ci k ty false) (hM : M a = some (t, .inl (ci, fs))) (ht : t ≠ 0) (hn : narrow ty v = v) (hfit : fits ty v = true) (hlen : k < fs.length) (h : V X bc bs q L st (mup M a (t, .inl (ci, fs.set k v)))) : V X bc bs pc L (v :: .ref a :: st) M := by
  obtain ⟨p, e0, R, s, m, args, below, meth, c, Q, mc, ms, G'⟩ := X
  obtain ⟨rfl, hx, hb, hml, hr, hlk, hown, hts, hK, hroom, hini, hS0⟩ := C
  obtain ⟨r, ty0, h1, h2, h3, h4, h5, h6, h7, h8, -⟩ := hf
  subst e
  subst h7
  intro H locs cells slots ls hR hc hs hl
  refine va_put (ws := (a, .inr (ci, fs)) :: mWx G' M H a) hx hb hts h3 ty0 h5 h6 hown hK.1 (mWx_P hR hM) (mWx_D hR hM ht _) hR.2.2 0 rfl h1 k h2 (hts _ h4) (fun _ h9 => h9) h8 (h5 k h2) hn hfit hlen d (fun H1 locs1 hP _ hS => ?_)
  exact h H1 locs1 cells slots ls (mR_put (e' := .inl (ci, fs.set k v)) hR hM hP hS) hc hs hl
theorem s_putF {X : mX} {G : mG} {I : mI} (C : Cx X G I) {bc bs pc : Nat} (q : Nat) {L : List (Option Value)} {st : List Value} {M : mM} {idx ci k a t : Nat} {ty : FieldType} {fs : List Value} {v : Value} (d : decode I.2.1 pc = .ok (.putfield idx, 3)) (e : pc + 3 = q) (hf : mFp I.1.cls idx ci k ty true) (hI : I.1.name = "<init>") (hM : M a = some (t, .inl (ci, fs))) (ht : t ≠ 0) (hn : narrow ty v = v) (hfit : fits ty v = true) (hlen : k < fs.length) (h : V X bc bs q L st (mup M a (t, .inl (ci, fs.set k v)))) : V X bc bs pc L (v :: .ref a :: st) M := by
  obtain ⟨p, e0, R, s, m, args, below, meth, c, Q, mc, ms, G'⟩ := X
  obtain ⟨rfl, hx, hb, hml, hr, hlk, hown, hts, hK, hroom, hini, hS0⟩ := C
  obtain ⟨r, ty0, h1, h2, h3, h4, h5, h6, h7, h8, h9⟩ := hf
  subst e
  subst h7
  intro H locs cells slots ls hR hc hs hl
  refine va_putF (ws := (a, .inr (ci, fs)) :: mWx G' M H a) hx hb hts h3 ty0 h5 h6 hown hK.1 (mWx_P hR hM) (mWx_D hR hM ht _) hR.2.2 0 rfl h1 k h2 (hts _ h4) (fun _ h9 => h9) h8 (hini hI) (h9 rfl) (h5 k h2) hn hfit hlen d (fun H1 locs1 hP _ hS => ?_)
  exact h H1 locs1 cells slots ls (mR_put (e' := .inl (ci, fs.set k v)) hR hM hP hS) hc hs hl
/-- reading rows of ints (kind 0) and of chars (kind 1) -/
theorem s_iald {X : mX} {G : mG} {I : mI} (C : Cx X G I) {bc bs pc : Nat} (q : Nat) {L : List (Option Value)} {st : List Value} {M : mM} {a t n : Nat} {f : Nat → Int32} {i : Nat} (d : decode I.2.1 pc = .ok (.iaload, 1)) (e : pc + 1 = q) (hM : M a = some (t, .inr (0, n, .inl f))) (hi : i < n) (hn : n < 2 ^ 31) (h : V X bc bs q L (.int (f i) :: st) M) : V X bc bs pc L (.int (nI i) :: .ref a :: st) M := by
  obtain ⟨p, e0, R, s, m, args, below, meth, c, Q, mc, ms, G'⟩ := X
  obtain ⟨rfl, hx, hb, hml, hr, hlk, hown, hts, hK, hroom, hini, hS0⟩ := C
  subst e
  intro H locs cells slots ls hR hc hs hl
  refine va_iald (ws := [(a, .inl (G'.2.2.2.1 0, n, .inl f))]) hx hb hK.1 (fun k q hq => by
    cases k with
    | zero => cases hq; exact hR.1 a t _ hM
    | succ k => cases hq) 0 0 rfl rfl (vp_in_nI hi hn) d ?_
  rw [nI_clamp (by omega)]
  exact h H locs cells slots ls hR hc hs hl
theorem s_cald {X : mX} {G : mG} {I : mI} (C : Cx X G I) {bc bs pc : Nat} (q : Nat) {L : List (Option Value)} {st : List Value} {M : mM} {a t n : Nat} {f : Nat → Int32} {i : Nat} (d : decode I.2.1 pc = .ok (.caload, 1)) (e : pc + 1 = q) (hM : M a = some (t, .inr (1, n, .inl f))) (hi : i < n) (hn : n < 2 ^ 31) (h : V X bc bs q L (.int (f i) :: st) M) : V X bc bs pc L (.int (nI i) :: .ref a :: st) M := by
  obtain ⟨p, e0, R, s, m, args, below, meth, c, Q, mc, ms, G'⟩ := X
  obtain ⟨rfl, hx, hb, hml, hr, hlk, hown, hts, hK, hroom, hini, hS0⟩ := C
  subst e
  intro H locs cells slots ls hR hc hs hl
  refine va_cald (ws := [(a, .inl (G'.2.2.2.1 1, n, .inl f))]) hx hb hK.1 (fun k q hq => by
    cases k with
    | zero => cases hq; exact hR.1 a t _ hM
    | succ k => cases hq) 0 1 rfl rfl (vp_in_nI hi hn) d ?_
  rw [nI_clamp (by omega)]
  exact h H locs cells slots ls hR hc hs hl
/-- reading rows of references: of objects (kinds 2, 3), of rows (kind 4) -/
theorem s_aald {X : mX} {G : mG} {I : mI} (C : Cx X G I) {bc bs pc : Nat} (q : Nat) {L : List (Option Value)} {st : List Value} {M : mM} {a t n kd : Nat} {f : Nat → Option Nat} {i : Nat} (d : decode I.2.1 pc = .ok (.aaload, 1)) (e : pc + 1 = q) (hM : M a = some (t, .inr (kd, n, .inr f))) (hkd : kd = 2 ∨ kd = 3 ∨ kd = 4) (hi : i < n) (hn : n < 2 ^ 31) (h : V X bc bs q L (va_rf (f i) :: st) M) : V X bc bs pc L (.int (nI i) :: .ref a :: st) M := by
  obtain ⟨p, e0, R, s, m, args, below, meth, c, Q, mc, ms, G'⟩ := X
  obtain ⟨rfl, hx, hb, hml, hr, hlk, hown, hts, hK, hroom, hini, hS0⟩ := C
  subst e
  intro H locs cells slots ls hR hc hs hl
  have hcell : H[a]? = some (vp_cell (G'.2.2.2.1 kd) (n, .inr (.inr (.inr (.inr f))))) := hR.1 a t _ hM
  have hv : (f (nI i).toNatClampNeg) = f i := by rw [nI_clamp (by omega)]
  have hlt : (nI i).toNatClampNeg < n := by rw [nI_clamp (by omega)]; exact hi
  have go : ∀ (ty : FieldType), ArrOfT s (G'.2.2.2.1 kd) ty → ty.isReference = true → W p G'.1 e0 R s m args below meth c H locs cells slots Q (F0 m pc ls (.int (nI i) :: .ref a :: st)) := by
    intro ty hA hty
    exact W.aald (v := va_rf (f i)) (ty := ty) hx hb hcell (hA n (fun j => va_rf (f j))) hty (fun q => by cases q) (by show ¬ (nI i < 0 ∨ (arrV _ _ _).slots.size ≤ _); rw [arrV_size]; exact vp_in_nI hi hn) (by show (arrV _ _ _).slots[_]? = _; rw [arrV_read _ _ hlt, hv]) rfl rfl d (h H locs cells slots ls hR hc hs hl)
  rcases hkd with rfl | rfl | rfl
  · exact go (.object "java/lang/Object") (hK.1.2 2 _ rfl).1 rfl
  · exact go (.object "TitleFinder$State") (hK.1.2 3 _ rfl).1 rfl
  · exact go (.array .int) (hK.1.2 4 _ rfl).1 rfl
theorem s_alen {X : mX} {G : mG} {I : mI} (C : Cx X G I) {bc bs pc : Nat} (q : Nat) {L : List (Option Value)} {st : List Value} {M : mM} {a t n kd : Nat} {f : (Nat → Int32) ⊕ (Nat → Option Nat)} (d : decode I.2.1 pc = .ok (.arraylength, 1)) (e : pc + 1 = q) (hM : M a = some (t, .inr (kd, n, f))) (hkd : kd < 6) (h : V X bc bs q L (.int (nI n) :: st) M) : V X bc bs pc L (.ref a :: st) M := by
  obtain ⟨p, e0, R, s, m, args, below, meth, c, Q, mc, ms, G'⟩ := X
  obtain ⟨rfl, hx, hb, hml, hr, hlk, hown, hts, hK, hroom, hini, hS0⟩ := C
  subst e
  intro H locs cells slots ls hR hc hs hl
  have hty : ∃ ty, (tysK G'.2.2.2.1)[kd]? = some (G'.2.2.2.1 kd, ty) := by
    match kd, hkd with
    | 0, _ => exact ⟨_, rfl⟩
    | 1, _ => exact ⟨_, rfl⟩
    | 2, _ => exact ⟨_, rfl⟩
    | 3, _ => exact ⟨_, rfl⟩
    | 4, _ => exact ⟨_, rfl⟩
    | 5, _ => exact ⟨_, rfl⟩
  obtain ⟨ty, hty⟩ := hty
  cases f with
  | inl f =>
    exact va_alen (ws := [(a, .inl (G'.2.2.2.1 kd, n, .inl f))]) hx hb hK.1 (fun k q hq => by
      cases k with
      | zero => cases hq; exact hR.1 a t _ hM
      | succ k => cases hq) 0 kd rfl hty rfl d (h H locs cells slots ls hR hc hs hl)
  | inr f =>
    exact va_alen (ws := [(a, .inl (G'.2.2.2.1 kd, n, .inr (.inr (.inr (.inr f)))))]) hx hb hK.1 (fun k q hq => by
      cases k with
      | zero => cases hq; exact hR.1 a t _ hM
      | succ k => cases hq) 0 kd rfl hty rfl d (h H locs cells slots ls hR hc hs hl)
theorem s_iast {X : mX} {G : mG} {I : mI} (C : Cx X G I) {bc bs pc : Nat} (q : Nat) {L : List (Option Value)} {st : List Value} {M : mM} {a t n : Nat} {f : Nat → Int32} {i : Nat} {x : Int32} (d : decode I.2.1 pc = .ok (.iastore, 1)) (e : pc + 1 = q) (hM : M a = some (t, .inr (0, n, .inl f))) (ht : t ≠ 0) (hi : i < n) (hn : n < 2 ^ 31) (h : V X bc bs q L st (mup M a (t, .inr (0, n, .inl (upd f i x))))) : V X bc bs pc L (.int x :: .int (nI i) :: .ref a :: st) M := by
  obtain ⟨p, e0, R, s, m, args, below, meth, c, Q, mc, ms, G'⟩ := X
  obtain ⟨rfl, hx, hb, hml, hr, hlk, hown, hts, hK, hroom, hini, hS0⟩ := C
  subst e
  intro H locs cells slots ls hR hc hs hl
  refine va_iast (ws := (a, .inl (G'.2.2.2.1 0, n, .inl f)) :: mWx G' M H a) hx hb hK.1 (mWx_P hR hM) (mWx_D hR hM ht _) hR.2.2 0 0 rfl rfl (vp_in_nI hi hn) d (fun H1 locs1 hP _ hS => ?_)
  rw [nI_clamp (by omega)] at hP
  exact h H1 locs1 cells slots ls (mR_put (e' := .inr (0, n, .inl (upd f i x))) hR hM hP hS) hc hs hl
theorem s_cast {X : mX} {G : mG} {I : mI} (C : Cx X G I) {bc bs pc : Nat} (q : Nat) {L : List (Option Value)} {st : List Value} {M : mM} {a t n : Nat} {f : Nat → Int32} {i : Nat} {x : Int32} (d : decode I.2.1 pc = .ok (.castore, 1)) (e : pc + 1 = q) (hM : M a = some (t, .inr (1, n, .inl f))) (ht : t ≠ 0) (hi : i < n) (hn : n < 2 ^ 31) (hx0 : vp_nar .char x = x) (h : V X bc bs q L st (mup M a (t, .inr (1, n, .inl (upd f i x))))) : V X bc bs pc L (.int x :: .int (nI i) :: .ref a :: st) M := by
  obtain ⟨p, e0, R, s, m, args, below, meth, c, Q, mc, ms, G'⟩ := X
  obtain ⟨rfl, hx, hb, hml, hr, hlk, hown, hts, hK, hroom, hini, hS0⟩ := C
  subst e
  intro H locs cells slots ls hR hc hs hl
  refine va_cast (ws := (a, .inl (G'.2.2.2.1 1, n, .inl f)) :: mWx G' M H a) hx hb hK.1 (mWx_P hR hM) (mWx_D hR hM ht _) hR.2.2 0 1 rfl rfl (vp_in_nI hi hn) d (fun H1 locs1 hP _ hS => ?_)
  rw [nI_clamp (by omega), hx0] at hP
  exact h H1 locs1 cells slots ls (mR_put (e' := .inr (1, n, .inl (upd f i x))) hR hM hP hS) hc hs hl
/-- an object (class cv) into a row of objects of class E -/
theorem s_aast {X : mX} {G : mG} {I : mI} (C : Cx X G I) {bc bs pc : Nat} (q : Nat) {L : List (Option Value)} {st : List Value} {M : mM} {a t n kd v tv ci : Nat} {f : Nat → Option Nat} {vs : List Value} {i : Nat} {E : String} {r : vw_C} (d : decode I.2.1 pc = .ok (.aastore, 1)) (e : pc + 1 = q) (hM : M a = some (t, .inr (kd, n, .inr f))) (ht : t ≠ 0) (hkd : kd = 2 ∧ E = "java/lang/Object" ∨ kd = 3 ∧ E = "TitleFinder$State") (hv : M v = some (tv, .inl (ci, vs))) (hci : vwCl[ci]? = some r) (hcs : r.1 = "TitleFinder$Title" ∧ E = "java/lang/Object" ∨ r.1 = E) (hi : i < n) (hn : n < 2 ^ 31) (h : V X bc bs q L st (mup M a (t, .inr (kd, n, .inr (va_up f i (some v)))))) : V X bc bs pc L (.ref v :: .int (nI i) :: .ref a :: st) M := by
  obtain ⟨p, e0, R, s, m, args, below, meth, c, Q, mc, ms, G'⟩ := X
  obtain ⟨rfl, hx, hb, hml, hr, hlk, hown, hts, hK, hroom, hini, hS0⟩ := C
  subst e
  intro H locs cells slots ls hR hc hs hl
  have hva : a ≠ v := by
    intro h
    subst h
    rw [hM] at hv
    cases hv
  have hvt : tv ≠ 0 ∨ tv = 0 := (Classical.em _).symm
  obtain ⟨r', hr', cellV, g1, g2, g3, -⟩ := hR.1 v tv _ hv
  have : r' = r := Option.some.inj (hr'.symm.trans hci)
  subst this
  have hcls := (hK.1.1 ci r' hci).2
  have hAny : va_Any E s H v := by
    obtain ⟨kC, hkC, -⟩ := hcls.2
    refine ⟨cellV, g1, by rw [g3]; rfl, ⟨kC, by rw [g2]; exact hkC⟩, fun comp hcomp => ?_⟩
    rw [g2]
    rcases hcs with ⟨e1, e2⟩ | e1
    · have hn := hK.2.2.2.2.2.2.2.2.2.2.1
      rw [← e1, ← e2] at hn
      unfold va_Nw at hn
      simp [Cond.before, Cond.holds, Cond.value, hcls.1, hcomp] at hn
      exact hn
    · rw [← e1] at hcomp
      have : comp = G'.2.2.1.1 ci := Option.some.inj (hcomp.symm.trans hcls.1)
      rw [this]
      exact va_assign hcls
  rcases hkd with ⟨rfl, rfl⟩ | ⟨rfl, rfl⟩
  · refine va_astqM (ws := (a, .inl (G'.2.2.2.1 2, n, .inr (.inr (.inr (.inr f))))) :: mWx G' M H a) hx hb hK.1 (mWx_P hR hM) (mWx_D hR hM ht _) hR.2.2 0 2 rfl rfl hAny (vp_in_nI hi hn) d (fun H1 locs1 hP _ hS => ?_)
    rw [nI_clamp (by omega)] at hP
    exact h H1 locs1 cells slots ls (mR_put (e' := .inr (2, n, .inr (va_up f i (some v)))) hR hM hP hS) hc hs hl
  · refine va_astqM (ws := (a, .inl (G'.2.2.2.1 3, n, .inr (.inr (.inr (.inr f))))) :: mWx G' M H a) hx hb hK.1 (mWx_P hR hM) (mWx_D hR hM ht _) hR.2.2 0 3 rfl rfl hAny (vp_in_nI hi hn) d (fun H1 locs1 hP _ hS => ?_)
    rw [nI_clamp (by omega)] at hP
    exact h H1 locs1 cells slots ls (mR_put (e' := .inr (3, n, .inr (va_up f i (some v)))) hR hM hP hS) hc hs hl
/-- null into a row of objects -/
theorem s_aastN {X : mX} {G : mG} {I : mI} (C : Cx X G I) {bc bs pc : Nat} (q : Nat) {L : List (Option Value)} {st : List Value} {M : mM} {a t n : Nat} {f : Nat → Option Nat} {i : Nat} (d : decode I.2.1 pc = .ok (.aastore, 1)) (e : pc + 1 = q) (hM : M a = some (t, .inr (2, n, .inr f))) (ht : t ≠ 0) (hi : i < n) (hn : n < 2 ^ 31) (h : V X bc bs q L st (mup M a (t, .inr (2, n, .inr (va_up f i none))))) : V X bc bs pc L (.null :: .int (nI i) :: .ref a :: st) M := by
  obtain ⟨p, e0, R, s, m, args, below, meth, c, Q, mc, ms, G'⟩ := X
  obtain ⟨rfl, hx, hb, hml, hr, hlk, hown, hts, hK, hroom, hini, hS0⟩ := C
  subst e
  intro H locs cells slots ls hR hc hs hl
  refine va_astqN (ws := (a, .inl (G'.2.2.2.1 2, n, .inr (.inr (.inr (.inr f))))) :: mWx G' M H a) hx hb hK.1 (mWx_P hR hM) (mWx_D hR hM ht _) hR.2.2 0 2 rfl rfl (vp_in_nI hi hn) d (fun H1 locs1 hP _ hS => ?_)
  rw [nI_clamp (by omega)] at hP
  exact h H1 locs1 cells slots ls (mR_put (e' := .inr (2, n, .inr (va_up f i none))) hR hM hP hS) hc hs hl
/-- making an object -/
def mN (own : String) (idx ci : Nat) (fs : List Value) : Prop := ∃ (r : vw_C) (ty0 : Nat → FieldType), vwCl[ci]? = some r ∧ (∀ w ∈ u_ws r.1 r.2.1 r.2.2, w ∈ BIG) ∧ (∀ k, k < r.2.2 → parseFieldDescriptor (r.2.1 k).2.2.1 = some (ty0 k)) ∧ Cond.classLink own idx r.1 ∈ BIG ∧ Cond.instantiable r.1 r.2.2 ∈ BIG ∧ Cond.initialized r.1 ∈ BIG ∧ (∀ j, j < r.2.2 → defaultValue (ty0 j) = vp_V fs j) ∧ r.2.2 = fs.length
theorem s_new {X : mX} {G : mG} {I : mI} (C : Cx X G I) {bc bs pc : Nat} (q bc' bs' tag : Nat) {L : List (Option Value)} {st : List Value} {M : mM} {idx ci : Nat} {fs : List Value} (d : decode I.2.1 pc = .ok (.new idx, 3)) (e : pc + 3 = q) (hn : mN I.1.cls idx ci fs) (ht : tag ≠ 0) (hbc : bc' + 1 ≤ bc) (hbs : bs' + fs.length ≤ bs) (h : ∀ a, M a = none → G.2.1.size ≤ a → V X bc' bs' q L (.ref a :: st) (mup M a (tag, .inl (ci, fs)))) : V X bc bs pc L st M := by
  obtain ⟨p, e0, R, s, m, args, below, meth, c, Q, mc, ms, G'⟩ := X
  obtain ⟨rfl, hx, hb, hml, hr, hlk, hown, hts, hK, hroom, hini, hS0⟩ := C
  obtain ⟨r, ty0, h1, h2, h3, h4, h5, h6, h7, h8⟩ := hn
  subst e
  intro H locs cells slots ls hR hc hs hl
  refine va_new (ws := mW G'.2.2.2.1 M H.size (fun _ => true)) (fs := fs) hx hb hts h2 ty0 h3 hown (hts _ h4) (hts _ h5) (hts _ h6) hK.1 (mW_P hR) (mW_D hR) hR.2.2 (fun q h => h) h1 h7 (by omega) (by omega) d (fun a H1 hP hD hS => ?_)
  obtain ⟨g1, g2, g3⟩ := mR_new (e := .inl (ci, fs)) hR ht hP hD hS
  exact h a g1 g2 H1 locs _ _ ls g3 (by omega) (by omega) hl
/-- making a row of ints or of chars -/
theorem s_newa {X : mX} {G : mG} {I : mI} (C : Cx X G I) {bc bs pc : Nat} (q bc' bs' tag : Nat) {L : List (Option Value)} {st : List Value} {M : mM} {at0 : ArrayType} {kd n : Nat} (d : decode I.2.1 pc = .ok (.newarray at0, 2)) (e : pc + 2 = q) (hkd : at0 = .int ∧ kd = 0 ∧ Cond.arrayClass .int ∈ BIG ∨ at0 = .char ∧ kd = 1 ∧ Cond.arrayClass .char ∈ BIG) (hn : n ≤ 100000) (ht : tag ≠ 0) (hbc : bc' + 1 ≤ bc) (hbs : bs' + n ≤ bs) (h : ∀ a, M a = none → G.2.1.size ≤ a → V X bc' bs' q L (.ref a :: st) (mup M a (tag, .inr (kd, n, .inl (fun _ => 0))))) : V X bc bs pc L (.int (nI n) :: st) M := by
  obtain ⟨p, e0, R, s, m, args, below, meth, c, Q, mc, ms, G'⟩ := X
  obtain ⟨rfl, hx, hb, hml, hr, hlk, hown, hts, hK, hroom, hini, hS0⟩ := C
  subst e
  intro H locs cells slots ls hR hc hs hl
  have hz : (nI n).toNatClampNeg = n := nI_clamp (by omega)
  rcases hkd with ⟨rfl, rfl, hw⟩ | ⟨rfl, rfl, hw⟩
  · refine va_newaK hx hb (atype := .int) (hts _ hw) rfl d rfl (nI_pos (by omega)) hz (by show n * 4 ≤ _; omega) (by omega) (by omega) rfl (fun H1 cA e1 z1 o1 hAr hNm => ?_)
    have hcA : cA = G'.2.2.2.1 0 := Option.some.inj (hNm.symm.trans (hK.1.2 0 _ rfl).2)
    subst hcA
    have hk : ∀ (k : Nat) (x : Nat × va_E), (mW G'.2.2.2.1 M H.size (fun _ => true))[k]? = some x → H1[x.1]? = H[x.1]? := fun k x hx => o1 x.1 ((mW_P hR k x hx).lt)
    obtain ⟨g1, g2, g3⟩ := mR_new (q := H.size) (e := .inr (0, n, .inl (fun _ => 0))) hR ht (((mW_P hR).kept hk).app (fun k x hx => by
      cases k with
      | zero => cases hx; exact e1
      | succ k => cases hx)) ((mW_D hR).push (mW_P hR) rfl hR.2.2.1) ⟨Nat.le_trans hR.2.2.1 (by omega), fun x h1 h2 => (o1 x (Nat.lt_of_lt_of_le h1 hR.2.2.1)).trans (hR.2.2.2.1 x h1 h2), hR.2.2.2.2⟩
    exact h H.size g1 g2 H1 locs _ _ ls g3 (by omega) (by omega) hl
  · refine va_newaK hx hb (atype := .char) (hts _ hw) rfl d rfl (nI_pos (by omega)) hz (by show n * 2 ≤ _; omega) (by omega) (by omega) rfl (fun H1 cA e1 z1 o1 hAr hNm => ?_)
    have hcA : cA = G'.2.2.2.1 1 := Option.some.inj (hNm.symm.trans (hK.1.2 1 _ rfl).2)
    subst hcA
    have hk : ∀ (k : Nat) (x : Nat × va_E), (mW G'.2.2.2.1 M H.size (fun _ => true))[k]? = some x → H1[x.1]? = H[x.1]? := fun k x hx => o1 x.1 ((mW_P hR k x hx).lt)
    obtain ⟨g1, g2, g3⟩ := mR_new (q := H.size) (e := .inr (1, n, .inl (fun _ => 0))) hR ht (((mW_P hR).kept hk).app (fun k x hx => by
      cases k with
      | zero => cases hx; exact e1
      | succ k => cases hx)) ((mW_D hR).push (mW_P hR) rfl hR.2.2.1) ⟨Nat.le_trans hR.2.2.1 (by omega), fun x h1 h2 => (o1 x (Nat.lt_of_lt_of_le h1 hR.2.2.1)).trans (hR.2.2.2.1 x h1 h2), hR.2.2.2.2⟩
    exact h H.size g1 g2 H1 locs _ _ ls g3 (by omega) (by omega) hl
/-- a ghost tag changes -/
theorem s_tag {X : mX} {bc bs pc : Nat} {L : List (Option Value)} {st : List Value} {M : mM} (a t t' : Nat) {e : mE} (ha : M a = some (t, e)) (ht : t ≠ 0) (ht' : t' ≠ 0) (h : V X bc bs pc L st (mup M a (t', e))) : V X bc bs pc L st M := by
  obtain ⟨p, e0, R, s, m, args, below, meth, c, Q, mc, ms, G⟩ := X
  intro H locs cells slots ls hR hc hs hl
  exact h H locs cells slots ls (mR_tag hR ha ht ht') hc hs hl
/-! calls -/
/-- who may be called on: an object of class cls -/
def mRv (G : mG) (M : mM) (cls : String) (b : Nat) : Prop := ∀ (s : State) (H : Heap) (locs : List Loc), mK G s → mR G M H locs → ∃ cellB : Cell, H[b]? = some cellB ∧ cellB.vm.isStatics = false ∧ s.vm.findClass cls = some cellB.cls
theorem mRv_of {G : mG} {M : mM} {b t ci : Nat} {fs : List Value} {cls : String} (hM : M b = some (t, .inl (ci, fs))) (hc : (vwCl[ci]?).map (fun r => r.1) = some cls) : mRv G M cls b := by
  intro s H locs hK hR
  obtain ⟨r, h1, cell, g1, g2, g3, -⟩ := hR.1 b t _ hM
  have h1 : vwCl[ci]? = some r := h1
  rw [h1] at hc
  have hc : r.1 = cls := Option.some.inj hc
  subst hc
  exact ⟨cell, g1, by rw [g3]; rfl, by rw [g2]; exact (hK.1.1 ci r h1).2.1⟩
def mCB (own : String) (idx : Nat) (J : mI) (n : Nat) : Prop := Cond.code J.1 J.2.1 J.2.2.1 J.2.2.2.1 ∈ BIG ∧ Cond.initialized J.1.cls ∈ BIG ∧ (J.1.cls ≠ "java/lang/invoke/MethodHandle" ∧ J.1.cls ≠ "java/lang/invoke/VarHandle") ∧ (parseMethodDescriptor J.1.desc).map (fun d => d.parameters.length) = some n
/-- a call of a method on an object, of a static method, of a constructor, of a nest mate's constructor -/
def mCv (own : String) (idx : Nat) (J : mI) (n : Nat) : Prop := mCB own idx J n ∧ Cond.methodLink own idx J.1 ∈ BIG ∧ Cond.instanceMethod J.1 ∈ BIG ∧ Cond.selects J.1.cls J.1 J.1 ∈ BIG
def mCs (own : String) (idx : Nat) (J : mI) (n : Nat) : Prop := mCB own idx J n ∧ Cond.methodLink own idx J.1 ∈ BIG ∧ Cond.static J.1 ∈ BIG
def mCi (own : String) (idx : Nat) (J : mI) (n : Nat) : Prop := mCB own idx J n ∧ Cond.methodLink own idx J.1 ∈ BIG ∧ Cond.instanceMethod J.1 ∈ BIG ∧ J.1.name = "<init>" ∧ J.2.2.2.1 = none
def mCn (own : String) (idx : Nat) (J : mI) (n : Nat) : Prop := mCB own idx J n ∧ (∃ host, Cond.methodLinkNest own idx J.1 host ∈ mNest) ∧ Cond.instanceMethod J.1 ∈ BIG ∧ J.1.name = "<init>" ∧ J.2.2.2.1 = none
/-- the callee's room lies in the caller's -/
def mH (I J : mI) : Prop := J.2.2.2.2 + 1 ≤ I.2.2.2.2 ∧ 8 + (J.2.2.1 + 11) + 32 * J.2.2.2.2 ≤ 32 * I.2.2.2.2
theorem mblind {G : mG} {M : mM} {As : List Value} : FrameBlind (fun v U => v = As.toArray ∧ mR G M U.heap [] ∧ mK G U) := fun a U g mk h => ⟨h.1, h.2.1, mK.same (u := U) (U := U.calling g mk a) rfl h.2.2⟩
theorem V_back {p : Program} {e0 : Env} {R : Room} {s : State} {m : MethodId} {args : Array Value} {below : List Frame} {meth : Method} {c : Code} {Q : State → Prop} {mc ms : Nat} {G : mG} {H : Heap} {locs : List Loc} {cells slots mc' ms' bc' bs' pc : Nat} {ls : Array Slot} {L : List (Option Value)} {st rest : List Value} {post : Option Value → mM → Prop}
    (hS : va_S (mAf G.2.1) G.2.1 H locs) (hc : cells + mc' + bc' ≤ mc) (hs : slots + ms' + bs' ≤ ms) (hl : mL ls L)
    (hr : va_Run p G.1 e0 R s m args below meth c H locs cells slots mc' ms' (F0 m pc ls st) rest (fun _ o t => ∃ r M', o = .returned r ∧ post r M' ∧ mR G M' t.heap []) (mAf G.2.1))
    (k : ∀ r M', post r M' → V (p, e0, R, s, m, args, below, meth, c, Q, mc, ms, G) bc' bs' (pc + 3) L (r.toList ++ rest) M') : W p G.1 e0 R s m args below meth c H locs cells slots Q (F0 m pc ls st) := by
  intro T hT X0
  obtain ⟨v, st₀, t, T', Lc, h0, X', hL, e1, e2, ⟨r, M', hv, hp, hm⟩, stp⟩ := hr T hT X0
  cases hv
  have hR' : mR G M' T'.heap (locs ++ Lc) := by
    rw [e1]
    refine ⟨hm.1, hm.2.1, hm.2.2.1, hm.2.2.2.1, fun l hl => ?_⟩
    rcases List.mem_append.mp hl with h | h
    · exact hS.2.2 l h
    · exact hL l h
  obtain ⟨t2, a1, b1⟩ := k v M' hp T'.heap (locs ++ Lc) (cells + mc') (slots + ms') ls hR' hc hs hl T' rfl X'
  exact ⟨t2, stp t2 a1, b1⟩
theorem s_invV {X : mX} {G : mG} {I : mI} (C : Cx X G I) {bc bs pc : Nat} (q bc' bs' : Nat) {L : List (Option Value)} {st : List Value} (rest : List Value) {M : mM} {idx mc' ms' : Nat} {J : mI} {post : Option Value → mM → Prop} {n : Nat} {As : List Value} {b : Nat} (hrv : mRv G M J.1.cls b) (d : decode I.2.1 pc = .ok (.invokevirtual idx, 3)) (e : pc + 3 = q) (hm : mCv I.1.cls idx J n) (hct : CC G J mc' ms' (.ref b :: As) M post) (hst : st = As.reverse ++ .ref b :: rest) (hn : As.length = n) (hL : L.length = I.2.2.1) (hh : mH I J) (hw : (rest.map fun v => v.category).sum ≤ 8) (hbc : bc' + mc' ≤ bc) (hbs : bs' + ms' ≤ bs) (k : ∀ r M', post r M' → V X bc' bs' q L (r.toList ++ rest) M') : V X bc bs pc L st M := by
  obtain ⟨p, e0, R, s, m, args, below, meth, c, Q, mc, ms, G'⟩ := X
  obtain ⟨rfl, hx, hb, hml, hr, hlk, hown, hts, hK, hroom, hini, hS0⟩ := C
  obtain ⟨⟨w1, w2, w3, w4⟩, CC0⟩ := hm
  subst e
  intro H locs cells slots ls hR hc hs hl
  have hCB : ∀ w ∈ (Cond.code J.1 J.2.1 J.2.2.1 J.2.2.2.1 :: BIG), ∀ (a' : Array Value) (U : State), s.WarmedH U.vm → w.before a' U = true := by
    intro w hw a' U hW
    have hw : w ∈ BIG := (List.mem_cons.mp hw).elim (fun e => by rw [e]; exact w1) id
    exact word_at hW (big_good w hw) (hts w hw)
  have hsig : ∀ sig, parseMethodDescriptor J.1.desc = some sig → n = sig.parameters.length := by
    intro sig h
    rw [h] at w4
    exact (Option.some.inj w4).symm
  have hro : (mRoom J.2.2.2.2 mc' ms').frames + 1 ≤ R.frames ∧ 8 + (J.2.2.1 + 11) + (mRoom J.2.2.2.2 mc' ms').locals ≤ R.locals := ⟨Nat.le_trans hh.1 hroom.1, Nat.le_trans hh.2 hroom.2.1⟩
  obtain ⟨w5, w6, w7⟩ := CC0
  exact V_back hR.2.2 (by omega) (by omega) hl (va_runV (As := As) (rest := rest) ⟨hx, hb, hml, hown, hts⟩ hct ⟨⟨rfl, rfl, hro.1, hro.2, hCB, List.mem_cons_self, hts _ w1, hts _ w2, w3, hsig, hts _ w5⟩, hts _ w6, hts _ w7⟩ ⟨mblind, hrv s H locs hK hR, fun U hU hW => ⟨rfl, by rw [hU]; exact hR.ret, mK.warm hW hK⟩⟩ rfl hn (hl.1.trans hL) hst (lv_room hw) d ⟨by omega, by omega⟩) k
theorem s_invS {X : mX} {G : mG} {I : mI} (C : Cx X G I) {bc bs pc : Nat} (q bc' bs' : Nat) {L : List (Option Value)} {st : List Value} (rest : List Value) {M : mM} {idx mc' ms' : Nat} {J : mI} {post : Option Value → mM → Prop} {n : Nat} {As : List Value}  (d : decode I.2.1 pc = .ok (.invokestatic idx, 3)) (e : pc + 3 = q) (hm : mCs I.1.cls idx J n) (hct : CC G J mc' ms' (As) M post) (hst : st = As.reverse ++ rest) (hn : As.length = n) (hL : L.length = I.2.2.1) (hh : mH I J) (hw : (rest.map fun v => v.category).sum ≤ 8) (hbc : bc' + mc' ≤ bc) (hbs : bs' + ms' ≤ bs) (k : ∀ r M', post r M' → V X bc' bs' q L (r.toList ++ rest) M') : V X bc bs pc L st M := by
  obtain ⟨p, e0, R, s, m, args, below, meth, c, Q, mc, ms, G'⟩ := X
  obtain ⟨rfl, hx, hb, hml, hr, hlk, hown, hts, hK, hroom, hini, hS0⟩ := C
  obtain ⟨⟨w1, w2, w3, w4⟩, CC0⟩ := hm
  subst e
  intro H locs cells slots ls hR hc hs hl
  have hCB : ∀ w ∈ (Cond.code J.1 J.2.1 J.2.2.1 J.2.2.2.1 :: BIG), ∀ (a' : Array Value) (U : State), s.WarmedH U.vm → w.before a' U = true := by
    intro w hw a' U hW
    have hw : w ∈ BIG := (List.mem_cons.mp hw).elim (fun e => by rw [e]; exact w1) id
    exact word_at hW (big_good w hw) (hts w hw)
  have hsig : ∀ sig, parseMethodDescriptor J.1.desc = some sig → n = sig.parameters.length := by
    intro sig h
    rw [h] at w4
    exact (Option.some.inj w4).symm
  have hro : (mRoom J.2.2.2.2 mc' ms').frames + 1 ≤ R.frames ∧ 8 + (J.2.2.1 + 11) + (mRoom J.2.2.2.2 mc' ms').locals ≤ R.locals := ⟨Nat.le_trans hh.1 hroom.1, Nat.le_trans hh.2 hroom.2.1⟩
  obtain ⟨w5, w6⟩ := CC0
  exact V_back hR.2.2 (by omega) (by omega) hl (va_runS (As := As) (rest := rest) ⟨hx, hb, hml, hown, hts⟩ hct ⟨⟨rfl, rfl, hro.1, hro.2, hCB, List.mem_cons_self, hts _ w1, hts _ w2, w3, hsig, hts _ w5⟩, hts _ w6⟩ ⟨mblind, fun U hU hW => ⟨rfl, by rw [hU]; exact hR.ret, mK.warm hW hK⟩⟩ rfl hn (hl.1.trans hL) hst (lv_room hw) d ⟨by omega, by omega⟩) k
theorem s_invI {X : mX} {G : mG} {I : mI} (C : Cx X G I) {bc bs pc : Nat} (q bc' bs' : Nat) {L : List (Option Value)} {st : List Value} (rest : List Value) {M : mM} {idx mc' ms' : Nat} {J : mI} {post : Option Value → mM → Prop} {n : Nat} {As : List Value} {b : Nat} (d : decode I.2.1 pc = .ok (.invokespecial idx, 3)) (e : pc + 3 = q) (hm : mCi I.1.cls idx J n) (hct : CC G J mc' ms' (.ref b :: As) M post) (hst : st = As.reverse ++ .ref b :: rest) (hn : As.length = n) (hL : L.length = I.2.2.1) (hh : mH I J) (hw : (rest.map fun v => v.category).sum ≤ 8) (hbc : bc' + mc' ≤ bc) (hbs : bs' + ms' ≤ bs) (k : ∀ r M', post r M' → V X bc' bs' q L (r.toList ++ rest) M') : V X bc bs pc L st M := by
  obtain ⟨p, e0, R, s, m, args, below, meth, c, Q, mc, ms, G'⟩ := X
  obtain ⟨rfl, hx, hb, hml, hr, hlk, hown, hts, hK, hroom, hini, hS0⟩ := C
  obtain ⟨⟨w1, w2, w3, w4⟩, CC0⟩ := hm
  subst e
  intro H locs cells slots ls hR hc hs hl
  have hCB : ∀ w ∈ (Cond.code J.1 J.2.1 J.2.2.1 J.2.2.2.1 :: BIG), ∀ (a' : Array Value) (U : State), s.WarmedH U.vm → w.before a' U = true := by
    intro w hw a' U hW
    have hw : w ∈ BIG := (List.mem_cons.mp hw).elim (fun e => by rw [e]; exact w1) id
    exact word_at hW (big_good w hw) (hts w hw)
  have hsig : ∀ sig, parseMethodDescriptor J.1.desc = some sig → n = sig.parameters.length := by
    intro sig h
    rw [h] at w4
    exact (Option.some.inj w4).symm
  have hro : (mRoom J.2.2.2.2 mc' ms').frames + 1 ≤ R.frames ∧ 8 + (J.2.2.1 + 11) + (mRoom J.2.2.2.2 mc' ms').locals ≤ R.locals := ⟨Nat.le_trans hh.1 hroom.1, Nat.le_trans hh.2 hroom.2.1⟩
  obtain ⟨w5, w6, w7, w8⟩ := CC0
  rw [CC] at hct
  rw [w8] at hct hCB w1
  exact V_back hR.2.2 (by omega) (by omega) hl (va_runI (As := As) (rest := rest) ⟨hx, hb, hml, hown, hts⟩ hct ⟨⟨rfl, rfl, hro.1, hro.2, hCB, List.mem_cons_self, hts _ w1, hts _ w2, w3, hsig, hts _ w5⟩, w7, hts _ w6⟩ ⟨mblind, fun U hU hW => ⟨rfl, by rw [hU]; exact hR.ret, mK.warm hW hK⟩⟩ rfl hn (hl.1.trans hL) hst (lv_room hw) d ⟨by omega, by omega⟩) k
theorem s_invN {X : mX} {G : mG} {I : mI} (C : Cx X G I) {bc bs pc : Nat} (q bc' bs' : Nat) {L : List (Option Value)} {st : List Value} (rest : List Value) {M : mM} {idx mc' ms' : Nat} {J : mI} {post : Option Value → mM → Prop} {n : Nat} {As : List Value} {b : Nat} (d : decode I.2.1 pc = .ok (.invokespecial idx, 3)) (e : pc + 3 = q) (hm : mCn I.1.cls idx J n) (hct : CC G J mc' ms' (.ref b :: As) M post) (hst : st = As.reverse ++ .ref b :: rest) (hn : As.length = n) (hL : L.length = I.2.2.1) (hh : mH I J) (hw : (rest.map fun v => v.category).sum ≤ 8) (hbc : bc' + mc' ≤ bc) (hbs : bs' + ms' ≤ bs) (k : ∀ r M', post r M' → V X bc' bs' q L (r.toList ++ rest) M') : V X bc bs pc L st M := by
  obtain ⟨p, e0, R, s, m, args, below, meth, c, Q, mc, ms, G'⟩ := X
  obtain ⟨rfl, hx, hb, hml, hr, hlk, hown, hts, hK, hroom, hini, hS0⟩ := C
  obtain ⟨⟨w1, w2, w3, w4⟩, CC0⟩ := hm
  subst e
  intro H locs cells slots ls hR hc hs hl
  have hCB : ∀ w ∈ (Cond.code J.1 J.2.1 J.2.2.1 J.2.2.2.1 :: BIG), ∀ (a' : Array Value) (U : State), s.WarmedH U.vm → w.before a' U = true := by
    intro w hw a' U hW
    have hw : w ∈ BIG := (List.mem_cons.mp hw).elim (fun e => by rw [e]; exact w1) id
    exact word_at hW (big_good w hw) (hts w hw)
  have hsig : ∀ sig, parseMethodDescriptor J.1.desc = some sig → n = sig.parameters.length := by
    intro sig h
    rw [h] at w4
    exact (Option.some.inj w4).symm
  have hro : (mRoom J.2.2.2.2 mc' ms').frames + 1 ≤ R.frames ∧ 8 + (J.2.2.1 + 11) + (mRoom J.2.2.2.2 mc' ms').locals ≤ R.locals := ⟨Nat.le_trans hh.1 hroom.1, Nat.le_trans hh.2 hroom.2.1⟩
  obtain ⟨⟨host, w5⟩, w6, w7, w8⟩ := CC0
  rw [CC] at hct
  rw [w8] at hct hCB w1
  have hnw : va_Nw (.methodLinkNest I.1.cls idx J.1 host) s := hK.2.2.2.2.2.2.2.2.2.1 _ w5
  exact V_back hR.2.2 (by omega) (by omega) hl (va_runIN (As := As) (rest := rest) ⟨hx, hb, hml, hown, hts⟩ hct ⟨va_cnB n hts (ws' := BIG) (fun w hw => ⟨(List.mem_cons.mp hw).elim (fun e => by rw [e]; exact w1) id, big_good w ((List.mem_cons.mp hw).elim (fun e => by rw [e]; exact w1) id)⟩) rfl rfl rfl hnw (hts _ w2) ⟨w3.1, w3.2, w4⟩ hro, w7, hts _ w6⟩ ⟨mblind, fun U hU hW => ⟨rfl, by rw [hU]; exact hR.ret, mK.warm hW hK⟩⟩ rfl hn (hl.1.trans hL) hst (lv_room hw) d ⟨by omega, by omega⟩) k
/-! more rows -/
theorem s_ldc2 {X : mX} {G : mG} {I : mI} (C : Cx X G I) {bc bs pc : Nat} (q : Nat) {L : List (Option Value)} {st : List Value} {M : mM} {idx : Nat} (v : Int64) (d : decode I.2.1 pc = .ok (.ldc2_w idx, 3)) (e : pc + 3 = q) (hc : Cond.constantLong I.1.cls idx v ∈ BIG) (k : V X bc bs q L (.long v :: st) M) : V X bc bs pc L st M := by
  obtain ⟨p, e0, R, s, m, args, below, meth, c, Q, mc, ms, G'⟩ := X
  obtain ⟨rfl, hx, hb, hml, hr, hlk, hown, hts, hK, hroom, hini, hS0⟩ := C
  subst e
  intro H locs cells slots ls hR hc' hs hl
  exact lv_ldc2 hx hb hown (hts _ hc) d (k H locs cells slots ls hR hc' hs hl)
theorem s_ldci {X : mX} {G : mG} {I : mI} (C : Cx X G I) {bc bs pc : Nat} (q : Nat) {L : List (Option Value)} {st : List Value} {M : mM} {idx : Nat} (v : Int32) (d : decode I.2.1 pc = .ok (.ldc idx, 2)) (e : pc + 2 = q) (hc : Cond.constant I.1.cls idx v ∈ BIG) (k : V X bc bs q L (.int v :: st) M) : V X bc bs pc L st M := by
  obtain ⟨p, e0, R, s, m, args, below, meth, c, Q, mc, ms, G'⟩ := X
  obtain ⟨rfl, hx, hb, hml, hr, hlk, hown, hts, hK, hroom, hini, hS0⟩ := C
  subst e
  intro H locs cells slots ls hR hc' hs hl
  exact lv_ldc hx hb hown (hts _ hc) d (k H locs cells slots ls hR hc' hs hl)
theorem s_tabI {X : mX} {G : mG} {I : mI} (C : Cx X G I) {bc bs pc : Nat} (t : Nat) {L : List (Option Value)} {st : List Value} {M : mM} {dflt lo hi off : Int} {offs : Array Int} {len : Nat} {x : Int32} (d : decode I.2.1 pc = .ok (.tableswitch dflt lo hi offs, len)) (h1 : ¬ x.toInt < lo) (h2 : ¬ hi < x.toInt) (ho : offs[(x.toInt - lo).toNat]? = some off) (ht : (pc : Int) + off = (t : Int)) (k : V X bc bs t L st M) : V X bc bs pc L (.int x :: st) M := by
  obtain ⟨p, e0, R, s, m, args, below, meth, c, Q, mc, ms, G'⟩ := X
  obtain ⟨rfl, hx, hb, hml, hr, hlk, hown, hts, hK, hroom, hini, hS0⟩ := C
  intro H locs cells slots ls hR hc' hs hl
  exact lv_tableIn hx hb d h1 h2 ho ht (k H locs cells slots ls hR hc' hs hl)
theorem s_tabO {X : mX} {G : mG} {I : mI} (C : Cx X G I) {bc bs pc : Nat} (t : Nat) {L : List (Option Value)} {st : List Value} {M : mM} {dflt lo hi : Int} {offs : Array Int} {len : Nat} {x : Int32} (d : decode I.2.1 pc = .ok (.tableswitch dflt lo hi offs, len)) (h : x.toInt < lo ∨ hi < x.toInt) (ht : (pc : Int) + dflt = (t : Int)) (k : V X bc bs t L st M) : V X bc bs pc L (.int x :: st) M := by
  obtain ⟨p, e0, R, s, m, args, below, meth, c, Q, mc, ms, G'⟩ := X
  obtain ⟨rfl, hx, hb, hml, hr, hlk, hown, hts, hK, hroom, hini, hS0⟩ := C
  intro H locs cells slots ls hR hc' hs hl
  exact lv_tableOut hx hb d h ht (k H locs cells slots ls hR hc' hs hl)
theorem s_look {X : mX} {G : mG} {I : mI} (C : Cx X G I) {bc bs pc : Nat} (t : Nat) {L : List (Option Value)} {st : List Value} {M : mM} {dflt off : Int} {ps : Array (Int × Int)} {len : Nat} {x : Int32} (d : decode I.2.1 pc = .ok (.lookupswitch dflt ps, len)) (hp : (ps.toList.zip (ps.toList.drop 1)).all (fun (a, next) => a.1 < next.1) = true) (ho : Op.lookupswitch.offset ps.toList dflt x.toInt = off) (ht : (pc : Int) + off = (t : Int)) (k : V X bc bs t L st M) : V X bc bs pc L (.int x :: st) M := by
  obtain ⟨p, e0, R, s, m, args, below, meth, c, Q, mc, ms, G'⟩ := X
  obtain ⟨rfl, hx, hb, hml, hr, hlk, hown, hts, hK, hroom, hini, hS0⟩ := C
  intro H locs cells slots ls hR hc' hs hl
  exact lv_lookup hx hb d hp ho ht (k H locs cells slots ls hR hc' hs hl)
/-- Math.max, Math.min -/
def mMath (own : String) (idx : Nat) (y : MethodName) (b : ByteArray) : Prop := Cond.methodLink own idx y ∈ BIG ∧ Cond.static y ∈ BIG ∧ Cond.initialized "java/lang/Math" ∈ BIG ∧ Cond.code y b 2 (some .int) ∈ BIG
theorem s_max {X : mX} {G : mG} {I : mI} (C : Cx X G I) {bc bs pc : Nat} (q : Nat) {L : List (Option Value)} {st : List Value} {M : mM} {idx : Nat} {x y : Int32} (d : decode I.2.1 pc = .ok (.invokestatic idx, 3)) (e : pc + 3 = q) (hm : mMath I.1.cls idx Lib.Math.max.name Lib.Math.max.code) (hL : L.length = I.2.2.1) (hI : 1 ≤ I.2.2.2.2) (hw : (st.map fun v => v.category).sum ≤ 8) (k : V X bc bs q L (.int (if x < y then y else x) :: st) M) : V X bc bs pc L (.int y :: .int x :: st) M := by
  obtain ⟨p, e0, R, s, m, args, below, meth, c, Q, mc, ms, G'⟩ := X
  obtain ⟨rfl, hx, hb, hml, hr, hlk, hown, hts, hK, hroom, hini, hS0⟩ := C
  obtain ⟨w1, w2, w3, w4⟩ := hm
  subst e
  intro H locs cells slots ls hR hc' hs hl
  exact va_mmax hx hb (hml.trans (hL.symm.trans hl.1.symm)) hown (hts _ w1) (hts _ w2) (hts _ w3) (hts _ w4) (by omega) (by omega) (by omega) (by omega) d (k H locs cells slots ls hR hc' hs hl)
theorem s_min {X : mX} {G : mG} {I : mI} (C : Cx X G I) {bc bs pc : Nat} (q : Nat) {L : List (Option Value)} {st : List Value} {M : mM} {idx : Nat} {x y : Int32} (d : decode I.2.1 pc = .ok (.invokestatic idx, 3)) (e : pc + 3 = q) (hm : mMath I.1.cls idx Lib.Math.min.name Lib.Math.min.code) (hL : L.length = I.2.2.1) (hI : 1 ≤ I.2.2.2.2) (hw : (st.map fun v => v.category).sum ≤ 8) (k : V X bc bs q L (.int (if y < x then y else x) :: st) M) : V X bc bs pc L (.int y :: .int x :: st) M := by
  obtain ⟨p, e0, R, s, m, args, below, meth, c, Q, mc, ms, G'⟩ := X
  obtain ⟨rfl, hx, hb, hml, hr, hlk, hown, hts, hK, hroom, hini, hS0⟩ := C
  obtain ⟨w1, w2, w3, w4⟩ := hm
  subst e
  intro H locs cells slots ls hR hc' hs hl
  exact va_mmin hx hb (hml.trans (hL.symm.trans hl.1.symm)) hown (hts _ w1) (hts _ w2) (hts _ w3) (hts _ w4) (by omega) (by omega) (by omega) (by omega) d (k H locs cells slots ls hR hc' hs hl)
theorem s_maxN {X : mX} {G : mG} {I : mI} (C : Cx X G I) {bc bs pc : Nat} (q : Nat) {L : List (Option Value)} {st : List Value} {M : mM} {idx : Nat} {x y : Nat} (d : decode I.2.1 pc = .ok (.invokestatic idx, 3)) (e : pc + 3 = q) (hm : mMath I.1.cls idx Lib.Math.max.name Lib.Math.max.code) (hL : L.length = I.2.2.1) (hI : 1 ≤ I.2.2.2.2) (hw : (st.map fun v => v.category).sum ≤ 8) (hx0 : x < 2 ^ 31) (hy0 : y < 2 ^ 31) (k : V X bc bs q L (.int (nI (max x y)) :: st) M) : V X bc bs pc L (.int (nI y) :: .int (nI x) :: st) M := by
  refine s_max C q d e hm hL hI hw ?_
  have : (if nI x < nI y then nI y else nI x) = nI (max x y) := by
    by_cases h : x < y
    · rw [if_pos ((nI_ltI hx0 hy0).mpr h), Nat.max_eq_right (by omega)]
    · rw [if_neg (fun z => h ((nI_ltI hx0 hy0).mp z)), Nat.max_eq_left (by omega)]
  rw [this]
  exact k
theorem s_minN {X : mX} {G : mG} {I : mI} (C : Cx X G I) {bc bs pc : Nat} (q : Nat) {L : List (Option Value)} {st : List Value} {M : mM} {idx : Nat} {x y : Nat} (d : decode I.2.1 pc = .ok (.invokestatic idx, 3)) (e : pc + 3 = q) (hm : mMath I.1.cls idx Lib.Math.min.name Lib.Math.min.code) (hL : L.length = I.2.2.1) (hI : 1 ≤ I.2.2.2.2) (hw : (st.map fun v => v.category).sum ≤ 8) (hx0 : x < 2 ^ 31) (hy0 : y < 2 ^ 31) (k : V X bc bs q L (.int (nI (min x y)) :: st) M) : V X bc bs pc L (.int (nI y) :: .int (nI x) :: st) M := by
  refine s_min C q d e hm hL hI hw ?_
  have : (if nI y < nI x then nI y else nI x) = nI (min x y) := by
    by_cases h : y < x
    · rw [if_pos ((nI_ltI hy0 hx0).mpr h), Nat.min_eq_right (by omega)]
    · rw [if_neg (fun z => h ((nI_ltI hy0 hx0).mp z)), Nat.min_eq_left (by omega)]
  rw [this]
  exact k
/-- a cast of an object to its own class -/
theorem s_castT {X : mX} {G : mG} {I : mI} (C : Cx X G I) {bc bs pc : Nat} (q : Nat) {L : List (Option Value)} {st : List Value} {M : mM} {idx a t ci : Nat} {fs : List Value} {r : vw_C} (d : decode I.2.1 pc = .ok (.checkcast idx, 3)) (e : pc + 3 = q) (hM : M a = some (t, .inl (ci, fs))) (hci : vwCl[ci]? = some r) (hc : Cond.classLink I.1.cls idx r.1 ∈ BIG) (k : V X bc bs q L (.ref a :: st) M) : V X bc bs pc L (.ref a :: st) M := by
  obtain ⟨p, e0, R, s, m, args, below, meth, c, Q, mc, ms, G'⟩ := X
  obtain ⟨rfl, hx, hb, hml, hr, hlk, hown, hts, hK, hroom, hini, hS0⟩ := C
  subst e
  intro H locs cells slots ls hR hc' hs hl
  obtain ⟨r', h1, cell, g1, g2, g3, -⟩ := hR.1 a t _ hM
  have : r' = r := Option.some.inj (h1.symm.trans hci)
  subst this
  have hcls := (hK.1.1 ci r' hci).2
  have hnw : va_Nw (.castable r'.1 r'.1) s := by
    unfold va_Nw
    simp [Cond.before, Cond.holds, Cond.value, hcls.1, va_assign hcls]
  exact va_castY hx hb hown (hts _ hc) hnw ⟨cell, g1, by rw [g3]; rfl, by rw [g2]; exact hcls.1⟩ d (k H locs cells slots ls hR hc' hs hl)
end
