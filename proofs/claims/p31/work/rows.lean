section
-- ===== PART A: goes FIRST, ahead of the names: the tables' words, and 'selects' of the private methods out of them =====
/-- a private method of a class that the tables say can be made, by its rows of tables_1 -/
def lw_okq (q : MethodName × Nat) : Prop := (q.1.cls ≠ "java/lang/invoke/MethodHandle" ∧ q.1.cls ≠ "java/lang/invoke/VarHandle") ∧ Cond.instantiable q.1.cls q.2 ∈ tables_1 ∧ Cond.privateMethod q.1 ∈ tables_1 ∧ Cond.instanceMethod q.1 ∈ tables_1
theorem lw_p0 : lw_okq (⟨"TitleFinder$Text", "passTitle", "()Z"⟩, 7) := ⟨⟨by decide +kernel, by decide +kernel⟩, List.mem_of_getElem? (i := 102) (by decide +kernel), List.mem_of_getElem? (i := 222) (by decide +kernel), List.mem_of_getElem? (i := 223) (by decide +kernel)⟩
theorem lw_p1 : lw_okq (⟨"TitleFinder$Text", "hasSign", "()Z"⟩, 7) := ⟨⟨by decide +kernel, by decide +kernel⟩, List.mem_of_getElem? (i := 102) (by decide +kernel), List.mem_of_getElem? (i := 226) (by decide +kernel), List.mem_of_getElem? (i := 227) (by decide +kernel)⟩
theorem lw_p2 : lw_okq (⟨"java/util/ArrayList", "add", "(Ljava/lang/Object;[Ljava/lang/Object;I)V"⟩, 3) := ⟨⟨by decide +kernel, by decide +kernel⟩, List.mem_of_getElem? (i := 32) (by decide +kernel), List.mem_of_getElem? (i := 319) (by decide +kernel), List.mem_of_getElem? (i := 320) (by decide +kernel)⟩
theorem lw_p3 : lw_okq (⟨"java/util/ArrayList", "grow", "()[Ljava/lang/Object;"⟩, 3) := ⟨⟨by decide +kernel, by decide +kernel⟩, List.mem_of_getElem? (i := 32) (by decide +kernel), List.mem_of_getElem? (i := 323) (by decide +kernel), List.mem_of_getElem? (i := 324) (by decide +kernel)⟩
theorem lw_p4 : lw_okq (⟨"java/util/ArrayList", "grow", "(I)[Ljava/lang/Object;"⟩, 3) := ⟨⟨by decide +kernel, by decide +kernel⟩, List.mem_of_getElem? (i := 32) (by decide +kernel), List.mem_of_getElem? (i := 327) (by decide +kernel), List.mem_of_getElem? (i := 328) (by decide +kernel)⟩
theorem lw_p5 : lw_okq (⟨"TitleFinder", "addIfPossible", "(LTitleFinder$Title;)I"⟩, 6) := ⟨⟨by decide +kernel, by decide +kernel⟩, List.mem_of_getElem? (i := 18) (by decide +kernel), List.mem_of_getElem? (i := 369) (by decide +kernel), List.mem_of_getElem? (i := 370) (by decide +kernel)⟩
theorem lw_p6 : lw_okq (⟨"TitleFinder", "dropIfThere", "(I)Z"⟩, 6) := ⟨⟨by decide +kernel, by decide +kernel⟩, List.mem_of_getElem? (i := 18) (by decide +kernel), List.mem_of_getElem? (i := 383) (by decide +kernel), List.mem_of_getElem? (i := 384) (by decide +kernel)⟩
theorem lw_p7 : lw_okq (⟨"java/util/ArrayList", "fastRemove", "([Ljava/lang/Object;I)V"⟩, 3) := ⟨⟨by decide +kernel, by decide +kernel⟩, List.mem_of_getElem? (i := 32) (by decide +kernel), List.mem_of_getElem? (i := 391) (by decide +kernel), List.mem_of_getElem? (i := 392) (by decide +kernel)⟩
theorem lw_p8 : lw_okq (⟨"TitleFinder", "keyWouldChange", "(I)Z"⟩, 6) := ⟨⟨by decide +kernel, by decide +kernel⟩, List.mem_of_getElem? (i := 18) (by decide +kernel), List.mem_of_getElem? (i := 401) (by decide +kernel), List.mem_of_getElem? (i := 402) (by decide +kernel)⟩
theorem lw_p9 : lw_okq (⟨"TitleFinder$Study", "lookAtPiecesFrom", "(I[CLTitleFinder$State;I)V"⟩, 5) := ⟨⟨by decide +kernel, by decide +kernel⟩, List.mem_of_getElem? (i := 147) (by decide +kernel), List.mem_of_getElem? (i := 420) (by decide +kernel), List.mem_of_getElem? (i := 421) (by decide +kernel)⟩
theorem lw_p10 : lw_okq (⟨"TitleFinder$Study", "longestWanted", "()I"⟩, 5) := ⟨⟨by decide +kernel, by decide +kernel⟩, List.mem_of_getElem? (i := 147) (by decide +kernel), List.mem_of_getElem? (i := 424) (by decide +kernel), List.mem_of_getElem? (i := 425) (by decide +kernel)⟩
theorem lw_p11 : lw_okq (⟨"TitleFinder$Study", "isKnownBy", "(ILTitleFinder$State;I)Z"⟩, 5) := ⟨⟨by decide +kernel, by decide +kernel⟩, List.mem_of_getElem? (i := 147) (by decide +kernel), List.mem_of_getElem? (i := 443) (by decide +kernel), List.mem_of_getElem? (i := 444) (by decide +kernel)⟩
theorem lw_p12 : lw_okq (⟨"TitleFinder$Study", "placeOf", "(II)I"⟩, 5) := ⟨⟨by decide +kernel, by decide +kernel⟩, List.mem_of_getElem? (i := 147) (by decide +kernel), List.mem_of_getElem? (i := 447) (by decide +kernel), List.mem_of_getElem? (i := 448) (by decide +kernel)⟩
theorem lw_p13 : lw_okq (⟨"TitleFinder$Study", "isFirstFor", "(ILTitleFinder$State;I)Z"⟩, 5) := ⟨⟨by decide +kernel, by decide +kernel⟩, List.mem_of_getElem? (i := 147) (by decide +kernel), List.mem_of_getElem? (i := 451) (by decide +kernel), List.mem_of_getElem? (i := 452) (by decide +kernel)⟩
theorem lw_p14 : lw_okq (⟨"TitleFinder$Ranking", "insert", "(LTitleFinder$State;II)V"⟩, 3) := ⟨⟨by decide +kernel, by decide +kernel⟩, List.mem_of_getElem? (i := 129) (by decide +kernel), List.mem_of_getElem? (i := 504) (by decide +kernel), List.mem_of_getElem? (i := 505) (by decide +kernel)⟩
theorem lw_p15 : lw_okq (⟨"TitleFinder", "pickIfThere", "(I)I"⟩, 6) := ⟨⟨by decide +kernel, by decide +kernel⟩, List.mem_of_getElem? (i := 18) (by decide +kernel), List.mem_of_getElem? (i := 521) (by decide +kernel), List.mem_of_getElem? (i := 522) (by decide +kernel)⟩
def lw_privs_1 : List (MethodName × Nat) := [(⟨"TitleFinder$Text", "passTitle", "()Z"⟩, 7), (⟨"TitleFinder$Text", "hasSign", "()Z"⟩, 7), (⟨"java/util/ArrayList", "add", "(Ljava/lang/Object;[Ljava/lang/Object;I)V"⟩, 3), (⟨"java/util/ArrayList", "grow", "()[Ljava/lang/Object;"⟩, 3), (⟨"java/util/ArrayList", "grow", "(I)[Ljava/lang/Object;"⟩, 3), (⟨"TitleFinder", "addIfPossible", "(LTitleFinder$Title;)I"⟩, 6), (⟨"TitleFinder", "dropIfThere", "(I)Z"⟩, 6), (⟨"java/util/ArrayList", "fastRemove", "([Ljava/lang/Object;I)V"⟩, 3), (⟨"TitleFinder", "keyWouldChange", "(I)Z"⟩, 6), (⟨"TitleFinder$Study", "lookAtPiecesFrom", "(I[CLTitleFinder$State;I)V"⟩, 5), (⟨"TitleFinder$Study", "longestWanted", "()I"⟩, 5), (⟨"TitleFinder$Study", "isKnownBy", "(ILTitleFinder$State;I)Z"⟩, 5), (⟨"TitleFinder$Study", "placeOf", "(II)I"⟩, 5), (⟨"TitleFinder$Study", "isFirstFor", "(ILTitleFinder$State;I)Z"⟩, 5), (⟨"TitleFinder$Ranking", "insert", "(LTitleFinder$State;II)V"⟩, 3), (⟨"TitleFinder", "pickIfThere", "(I)I"⟩, 6)]
theorem lw_r1 : ∀ q ∈ lw_privs_1, lw_okq q := List.forall_mem_cons.mpr ⟨lw_p0, List.forall_mem_cons.mpr ⟨lw_p1, List.forall_mem_cons.mpr ⟨lw_p2, List.forall_mem_cons.mpr ⟨lw_p3, List.forall_mem_cons.mpr ⟨lw_p4, List.forall_mem_cons.mpr ⟨lw_p5, List.forall_mem_cons.mpr ⟨lw_p6, List.forall_mem_cons.mpr ⟨lw_p7, List.forall_mem_cons.mpr ⟨lw_p8, List.forall_mem_cons.mpr ⟨lw_p9, List.forall_mem_cons.mpr ⟨lw_p10, List.forall_mem_cons.mpr ⟨lw_p11, List.forall_mem_cons.mpr ⟨lw_p12, List.forall_mem_cons.mpr ⟨lw_p13, List.forall_mem_cons.mpr ⟨lw_p14, List.forall_mem_cons.mpr ⟨lw_p15, fun _ h => absurd h List.not_mem_nil⟩⟩⟩⟩⟩⟩⟩⟩⟩⟩⟩⟩⟩⟩⟩⟩
theorem lw_p16 : lw_okq (⟨"TitleFinder", "studiedNumber", "(LTitleFinder$Title;I)I"⟩, 6) := ⟨⟨by decide +kernel, by decide +kernel⟩, List.mem_of_getElem? (i := 18) (by decide +kernel), List.mem_of_getElem? (i := 594) (by decide +kernel), List.mem_of_getElem? (i := 595) (by decide +kernel)⟩
def lw_privs_2 : List (MethodName × Nat) := [(⟨"TitleFinder", "studiedNumber", "(LTitleFinder$Title;I)I"⟩, 6)]
theorem lw_r2 : ∀ q ∈ lw_privs_2, lw_okq q := List.forall_mem_cons.mpr ⟨lw_p16, fun _ h => absurd h List.not_mem_nil⟩
def lw_privs : List (MethodName × Nat) := lw_privs_1 ++ (lw_privs_2)
def lw_tbl : List Cond := k2_sels lw_privs ++ tables_1
theorem lw_privs_ok : ∀ q ∈ lw_privs, lw_okq q := by
  show ∀ q ∈ lw_privs_1 ++ (lw_privs_2), lw_okq q
  exact List.forall_mem_append.mpr ⟨lw_r1, lw_r2⟩
-- ===== end of PART A; then your names; then what follows =====
/-! ===== BEGIN words of one list among another's, by their places ===== -/
theorem goodIn_r {big : List Cond} (ws : List Cond) (ps : List Nat) (hp : ws = ps.filterMap (fun i => big[i]?)) (h : ws.all goodWord = true) : GoodIn big ws := by
  intro w hw
  have h1 := List.all_eq_true.mp h w hw
  rw [hp] at hw
  obtain ⟨i, -, hi⟩ := List.mem_filterMap.mp hw
  have hm : w ∈ big := by first | exact List.mem_of_getElem? hi | exact List.getElem?_mem hi
  exact ⟨hm, good_of_word h1⟩
theorem goodIn_app {big a b : List Cond} (ha : GoodIn big a) (hb : GoodIn big b) : GoodIn big (a ++ b) := fun w h => (List.mem_append.mp h).elim (ha w) (hb w)
theorem goodIn_ca {big a b : List Cond} {c : Cond} (ha : GoodIn big (c :: a)) (hb : GoodIn big b) : GoodIn big (c :: (a ++ b)) := fun w h => (List.mem_cons.mp h).elim (fun e => ha w (List.mem_cons.mpr (Or.inl e))) (fun h => (List.mem_append.mp h).elim (fun h => ha w (List.mem_cons.mpr (Or.inr h))) (hb w))
theorem goodIn_sub {big ws : List Cond} (hm : ∀ w ∈ ws, w ∈ big) (h : ws.all goodWord = true) : GoodIn big ws := fun w hw => ⟨hm w hw, good_of_word (List.all_eq_true.mp h w hw)⟩
/-! ===== END ===== -/


/-! ===== BEGIN printed: names, fields, word lists, decode rows ===== -/
def RX0 : String := "TitleFinder$History"
def TX0 : u_T := fun k => match k with
  | 0 => ("TitleFinder$History", "rows", "[LTitleFinder$State;", true)
  | 1 => ("TitleFinder$History", "newest", "I", false)
  | _ => ("TitleFinder$History", "count", "I", false)
def tyX0 : Nat → FieldType := fun k => match k with
  | 0 => .array (.object "TitleFinder$State")
  | 1 => .int
  | _ => .int
abbrev wsX00 : List Cond := u_ws RX0 TX0 3
theorem nmX0 : ∀ a, a < 3 → ∀ b, b < 3 → a ≠ b → (TX0 a).2.1 ≠ (TX0 b).2.1 := by decide +kernel
theorem tyX0_ok : ∀ k, k < 3 → parseFieldDescriptor (TX0 k).2.2.1 = some (tyX0 k) := by decide +kernel
abbrev cX0_init : ByteArray := prog_2_method_1_code
def yX0_init : MethodName := ⟨RX0, "<init>", "()V"⟩
abbrev cX0_save : ByteArray := prog_2_method_2_code
def yX0_save : MethodName := ⟨RX0, "save", "(LTitleFinder$State;)V"⟩
def RX1 : String := "TitleFinder$Ranking"
def TX1 : u_T := fun k => match k with
  | 0 => ("TitleFinder$Ranking", "ranked", "[I", true)
  | 1 => ("TitleFinder$Ranking", "places", "[I", true)
  | _ => ("TitleFinder$Ranking", "count", "I", false)
def tyX1 : Nat → FieldType := fun k => match k with
  | 0 => .array .int
  | 1 => .array .int
  | _ => .int
abbrev wsX10 : List Cond := u_ws RX1 TX1 3
theorem nmX1 : ∀ a, a < 3 → ∀ b, b < 3 → a ≠ b → (TX1 a).2.1 ≠ (TX1 b).2.1 := by decide +kernel
theorem tyX1_ok : ∀ k, k < 3 → parseFieldDescriptor (TX1 k).2.2.1 = some (tyX1 k) := by decide +kernel
abbrev cX1_init : ByteArray := prog_3_method_1_code
def yX1_init : MethodName := ⟨RX1, "<init>", "()V"⟩
abbrev cX1_rank : ByteArray := prog_3_method_2_code
def yX1_rank : MethodName := ⟨RX1, "rank", "(LTitleFinder$State;)V"⟩
abbrev cX1_insert : ByteArray := prog_3_method_3_code
def yX1_insert : MethodName := ⟨RX1, "insert", "(LTitleFinder$State;II)V"⟩
abbrev cX1_has : ByteArray := prog_3_method_4_code
def yX1_has : MethodName := ⟨RX1, "has", "(I)Z"⟩
abbrev cX1_titleAt : ByteArray := prog_3_method_5_code
def yX1_titleAt : MethodName := ⟨RX1, "titleAt", "(I)I"⟩
abbrev cX1_placeAt : ByteArray := prog_3_method_6_code
def yX1_placeAt : MethodName := ⟨RX1, "placeAt", "(I)I"⟩
def RX2 : String := "TitleFinder$State"
def TX2 : u_T := fun k => match k with
  | 0 => ("TitleFinder$State", "titles", "Ljava/util/ArrayList;", true)
  | 1 => ("TitleFinder$State", "query", "[C", true)
  | 2 => ("TitleFinder$State", "queryLength", "I", false)
  | 3 => ("TitleFinder$State", "mode", "I", false)
  | _ => ("TitleFinder$State", "order", "I", false)
def tyX2 : Nat → FieldType := fun k => match k with
  | 0 => .object "java/util/ArrayList"
  | 1 => .array .char
  | 2 => .int
  | 3 => .int
  | _ => .int
abbrev wsX20 : List Cond := u_ws RX2 TX2 5
theorem nmX2 : ∀ a, a < 5 → ∀ b, b < 5 → a ≠ b → (TX2 a).2.1 ≠ (TX2 b).2.1 := by decide +kernel
theorem tyX2_ok : ∀ k, k < 5 → parseFieldDescriptor (TX2 k).2.2.1 = some (tyX2 k) := by decide +kernel
abbrev cX2_init : ByteArray := prog_4_method_1_code
def yX2_init : MethodName := ⟨RX2, "<init>", "()V"⟩
abbrev cX2_copyFrom : ByteArray := prog_4_method_2_code
def yX2_copyFrom : MethodName := ⟨RX2, "copyFrom", "(LTitleFinder$State;)V"⟩
abbrev cX2_has : ByteArray := prog_4_method_3_code
def yX2_has : MethodName := ⟨RX2, "has", "(I)Z"⟩
abbrev cX2_refusal : ByteArray := prog_4_method_4_code
def yX2_refusal : MethodName := ⟨RX2, "refusal", "(LTitleFinder$Title;)I"⟩
abbrev cX2_appendToQuery : ByteArray := prog_4_method_5_code
def yX2_appendToQuery : MethodName := ⟨RX2, "appendToQuery", "(C)V"⟩
abbrev cX2_queryEndsWithLetter : ByteArray := prog_4_method_6_code
def yX2_queryEndsWithLetter : MethodName := ⟨RX2, "queryEndsWithLetter", "()Z"⟩
abbrev cX2_placeOfMatch : ByteArray := prog_4_method_7_code
def yX2_placeOfMatch : MethodName := ⟨RX2, "placeOfMatch", "(I)I"⟩
abbrev cX2_comesBefore : ByteArray := prog_4_method_8_code
def yX2_comesBefore : MethodName := ⟨RX2, "comesBefore", "(IIII)Z"⟩
def RX3 : String := "TitleFinder$Study"
def TX3 : u_T := fun k => match k with
  | 0 => ("TitleFinder$Study", "places", "[[I", true)
  | 1 => ("TitleFinder$Study", "keyStart", "I", false)
  | 2 => ("TitleFinder$Study", "keyLength", "I", false)
  | 3 => ("TitleFinder$Study", "shortcutStart", "I", false)
  | _ => ("TitleFinder$Study", "shortcutLength", "I", false)
def tyX3 : Nat → FieldType := fun k => match k with
  | 0 => .array (.array .int)
  | 1 => .int
  | 2 => .int
  | 3 => .int
  | _ => .int
abbrev wsX30 : List Cond := u_ws RX3 TX3 5
theorem nmX3 : ∀ a, a < 5 → ∀ b, b < 5 → a ≠ b → (TX3 a).2.1 ≠ (TX3 b).2.1 := by decide +kernel
theorem tyX3_ok : ∀ k, k < 5 → parseFieldDescriptor (TX3 k).2.2.1 = some (tyX3 k) := by decide +kernel
abbrev cX3_init : ByteArray := prog_5_method_1_code
def yX3_init : MethodName := ⟨RX3, "<init>", "()V"⟩
abbrev cX3_look : ByteArray := prog_5_method_2_code
def yX3_look : MethodName := ⟨RX3, "look", "(LTitleFinder$State;I)V"⟩
abbrev cX3_hasKey : ByteArray := prog_5_method_3_code
def yX3_hasKey : MethodName := ⟨RX3, "hasKey", "()Z"⟩
abbrev cX3_hasShortcut : ByteArray := prog_5_method_4_code
def yX3_hasShortcut : MethodName := ⟨RX3, "hasShortcut", "()Z"⟩
abbrev cX3_lookAtPiecesFrom : ByteArray := prog_5_method_5_code
def yX3_lookAtPiecesFrom : MethodName := ⟨RX3, "lookAtPiecesFrom", "(I[CLTitleFinder$State;I)V"⟩
abbrev cX3_longestWanted : ByteArray := prog_5_method_6_code
def yX3_longestWanted : MethodName := ⟨RX3, "longestWanted", "()I"⟩
abbrev cX3_findPlaces : ByteArray := prog_5_method_7_code
def yX3_findPlaces : MethodName := ⟨RX3, "findPlaces", "([II[CILTitleFinder$Title;I)V"⟩
abbrev cX3_isKnownBy : ByteArray := prog_5_method_8_code
def yX3_isKnownBy : MethodName := ⟨RX3, "isKnownBy", "(ILTitleFinder$State;I)Z"⟩
abbrev cX3_isFirstFor : ByteArray := prog_5_method_9_code
def yX3_isFirstFor : MethodName := ⟨RX3, "isFirstFor", "(ILTitleFinder$State;I)Z"⟩
abbrev cX3_placeOf : ByteArray := prog_5_method_10_code
def yX3_placeOf : MethodName := ⟨RX3, "placeOf", "(II)I"⟩
def RX4 : String := "TitleFinder$Text"
def TX4 : u_T := fun k => match k with
  | 0 => ("TitleFinder$Text", "signs", "[C", true)
  | 1 => ("TitleFinder$Text", "length", "I", false)
  | 2 => ("TitleFinder$Text", "at", "I", false)
  | 3 => ("TitleFinder$Text", "command", "I", false)
  | 4 => ("TitleFinder$Text", "value", "I", false)
  | 5 => ("TitleFinder$Text", "from", "I", false)
  | _ => ("TitleFinder$Text", "to", "I", false)
def tyX4 : Nat → FieldType := fun k => match k with
  | 0 => .array .char
  | 1 => .int
  | 2 => .int
  | 3 => .int
  | 4 => .int
  | 5 => .int
  | _ => .int
abbrev wsX40 : List Cond := u_ws RX4 TX4 7
theorem nmX4 : ∀ a, a < 7 → ∀ b, b < 7 → a ≠ b → (TX4 a).2.1 ≠ (TX4 b).2.1 := by decide +kernel
theorem tyX4_ok : ∀ k, k < 7 → parseFieldDescriptor (TX4 k).2.2.1 = some (tyX4 k) := by decide +kernel
abbrev cX4_init : ByteArray := prog_6_method_1_code
def yX4_init : MethodName := ⟨RX4, "<init>", "()V"⟩
abbrev cX4_append : ByteArray := prog_6_method_2_code
def yX4_append : MethodName := ⟨RX4, "append", "(C)Z"⟩
abbrev cX4_makeEmpty : ByteArray := prog_6_method_3_code
def yX4_makeEmpty : MethodName := ⟨RX4, "makeEmpty", "()V"⟩
abbrev cX4_rewind : ByteArray := prog_6_method_4_code
def yX4_rewind : MethodName := ⟨RX4, "rewind", "()V"⟩
abbrev cX4_isTitle : ByteArray := prog_6_method_6_code
def yX4_isTitle : MethodName := ⟨RX4, "isTitle", "()Z"⟩
abbrev cX4_passTitle : ByteArray := prog_6_method_9_code
def yX4_passTitle : MethodName := ⟨RX4, "passTitle", "()Z"⟩
abbrev cX4_hasSign : ByteArray := prog_6_method_14_code
def yX4_hasSign : MethodName := ⟨RX4, "hasSign", "()Z"⟩
abbrev cX4_isLetter : ByteArray := prog_6_method_17_code
def yX4_isLetter : MethodName := ⟨RX4, "isLetter", "(I)Z"⟩
abbrev cX4_isDigit : ByteArray := prog_6_method_18_code
def yX4_isDigit : MethodName := ⟨RX4, "isDigit", "(I)Z"⟩
abbrev cX4_passedTitle : ByteArray := prog_6_method_19_code
def yX4_passedTitle : MethodName := ⟨RX4, "passedTitle", "()LTitleFinder$Title;"⟩
def RX5 : String := "TitleFinder$Title"
def TX5 : u_T := fun k => match k with
  | 0 => ("TitleFinder$Title", "letters", "[C", true)
  | 1 => ("TitleFinder$Title", "initials", "[C", true)
  | _ => ("TitleFinder$Title", "uses", "I", true)
def tyX5 : Nat → FieldType := fun k => match k with
  | 0 => .array .char
  | 1 => .array .char
  | _ => .int
abbrev wsX50 : List Cond := u_ws RX5 TX5 3
theorem nmX5 : ∀ a, a < 3 → ∀ b, b < 3 → a ≠ b → (TX5 a).2.1 ≠ (TX5 b).2.1 := by decide +kernel
theorem tyX5_ok : ∀ k, k < 3 → parseFieldDescriptor (TX5 k).2.2.1 = some (tyX5 k) := by decide +kernel
abbrev cX5_init : ByteArray := prog_7_method_1_code
def yX5_init : MethodName := ⟨RX5, "<init>", "([C[CI)V"⟩
abbrev cX5_unused : ByteArray := prog_7_method_2_code
def yX5_unused : MethodName := ⟨RX5, "unused", "([C)LTitleFinder$Title;"⟩
abbrev cX5_initialsOf : ByteArray := prog_7_method_3_code
def yX5_initialsOf : MethodName := ⟨RX5, "initialsOf", "([C)[C"⟩
abbrev cX5_wordCount : ByteArray := prog_7_method_4_code
def yX5_wordCount : MethodName := ⟨RX5, "wordCount", "([C)I"⟩
abbrev cX5_usedOnceMore : ByteArray := prog_7_method_5_code
def yX5_usedOnceMore : MethodName := ⟨RX5, "usedOnceMore", "()LTitleFinder$Title;"⟩
abbrev cX5_run : ByteArray := prog_7_method_6_code
def yX5_run : MethodName := ⟨RX5, "run", "(I)[C"⟩
abbrev cX5_startsPiece : ByteArray := prog_7_method_7_code
def yX5_startsPiece : MethodName := ⟨RX5, "startsPiece", "(II)Z"⟩
abbrev cX5_placeOf : ByteArray := prog_7_method_8_code
def yX5_placeOf : MethodName := ⟨RX5, "placeOf", "([CII)I"⟩
abbrev cX5_commonRun : ByteArray := prog_7_method_9_code
def yX5_commonRun : MethodName := ⟨RX5, "commonRun", "(LTitleFinder$Title;)I"⟩
abbrev cX5_hasLettersOf : ByteArray := prog_7_method_10_code
def yX5_hasLettersOf : MethodName := ⟨RX5, "hasLettersOf", "(LTitleFinder$Title;)Z"⟩
abbrev cX5_comesByNameBefore : ByteArray := prog_7_method_11_code
def yX5_comesByNameBefore : MethodName := ⟨RX5, "comesByNameBefore", "(LTitleFinder$Title;)Z"⟩
abbrev cX5_sameLength : ByteArray := prog_7_method_12_code
def yX5_sameLength : MethodName := ⟨RX5, "sameLength", "([CI[CII)I"⟩
def RX6 : String := "TitleFinder"
def TX6 : u_T := fun k => match k with
  | 0 => ("TitleFinder", "state", "LTitleFinder$State;", true)
  | 1 => ("TitleFinder", "trial", "LTitleFinder$State;", true)
  | 2 => ("TitleFinder", "history", "LTitleFinder$History;", true)
  | 3 => ("TitleFinder", "text", "LTitleFinder$Text;", true)
  | 4 => ("TitleFinder", "ranking", "LTitleFinder$Ranking;", true)
  | _ => ("TitleFinder", "study", "LTitleFinder$Study;", true)
def tyX6 : Nat → FieldType := fun k => match k with
  | 0 => .object "TitleFinder$State"
  | 1 => .object "TitleFinder$State"
  | 2 => .object "TitleFinder$History"
  | 3 => .object "TitleFinder$Text"
  | 4 => .object "TitleFinder$Ranking"
  | _ => .object "TitleFinder$Study"
abbrev wsX60 : List Cond := u_ws RX6 TX6 6
theorem nmX6 : ∀ a, a < 6 → ∀ b, b < 6 → a ≠ b → (TX6 a).2.1 ≠ (TX6 b).2.1 := by decide +kernel
theorem tyX6_ok : ∀ k, k < 6 → parseFieldDescriptor (TX6 k).2.2.1 = some (tyX6 k) := by decide +kernel
abbrev cX6_init : ByteArray := prog_1_method_1_code
def yX6_init : MethodName := ⟨RX6, "<init>", "()V"⟩
abbrev cX6_type : ByteArray := prog_1_method_2_code
def yX6_type : MethodName := ⟨RX6, "type", "(I)I"⟩
abbrev cX6_clearText : ByteArray := prog_1_method_3_code
def yX6_clearText : MethodName := ⟨RX6, "clearText", "()I"⟩
abbrev cX6_add : ByteArray := prog_1_method_7_code
def yX6_add : MethodName := ⟨RX6, "add", "()I"⟩
abbrev cX6_addIfPossible : ByteArray := prog_1_method_8_code
def yX6_addIfPossible : MethodName := ⟨RX6, "addIfPossible", "(LTitleFinder$Title;)I"⟩
abbrev cX6_drop : ByteArray := prog_1_method_9_code
def yX6_drop : MethodName := ⟨RX6, "drop", "(I)I"⟩
abbrev cX6_dropIfThere : ByteArray := prog_1_method_10_code
def yX6_dropIfThere : MethodName := ⟨RX6, "dropIfThere", "(I)Z"⟩
abbrev cX6_titles : ByteArray := prog_1_method_11_code
def yX6_titles : MethodName := ⟨RX6, "titles", "()I"⟩
abbrev cX6_character : ByteArray := prog_1_method_12_code
def yX6_character : MethodName := ⟨RX6, "character", "(II)I"⟩
abbrev cX6_of : ByteArray := prog_1_method_13_code
def yX6_of : MethodName := ⟨RX6, "of", "(II)I"⟩
abbrev cX6_studiedNumber : ByteArray := prog_1_method_14_code
def yX6_studiedNumber : MethodName := ⟨RX6, "studiedNumber", "(LTitleFinder$Title;I)I"⟩
abbrev cX6_common : ByteArray := prog_1_method_15_code
def yX6_common : MethodName := ⟨RX6, "common", "(II)I"⟩
abbrev cX6_closest : ByteArray := prog_1_method_16_code
def yX6_closest : MethodName := ⟨RX6, "closest", "(I)I"⟩
abbrev cX6_unknown : ByteArray := prog_1_method_17_code
def yX6_unknown : MethodName := ⟨RX6, "unknown", "()I"⟩
abbrev cX6_hardest : ByteArray := prog_1_method_18_code
def yX6_hardest : MethodName := ⟨RX6, "hardest", "()I"⟩
abbrev cX6_ifAdded : ByteArray := prog_1_method_19_code
def yX6_ifAdded : MethodName := ⟨RX6, "ifAdded", "()I"⟩
abbrev cX6_keyWouldChange : ByteArray := prog_1_method_20_code
def yX6_keyWouldChange : MethodName := ⟨RX6, "keyWouldChange", "(I)Z"⟩
abbrev cX6_setMode : ByteArray := prog_1_method_21_code
def yX6_setMode : MethodName := ⟨RX6, "setMode", "(I)I"⟩
abbrev cX6_setOrder : ByteArray := prog_1_method_22_code
def yX6_setOrder : MethodName := ⟨RX6, "setOrder", "(I)I"⟩
abbrev cX6_mode : ByteArray := prog_1_method_23_code
def yX6_mode : MethodName := ⟨RX6, "mode", "()I"⟩
abbrev cX6_order : ByteArray := prog_1_method_24_code
def yX6_order : MethodName := ⟨RX6, "order", "()I"⟩
abbrev cX6_ask : ByteArray := prog_1_method_25_code
def yX6_ask : MethodName := ⟨RX6, "ask", "(I)I"⟩
abbrev cX6_erase : ByteArray := prog_1_method_26_code
def yX6_erase : MethodName := ⟨RX6, "erase", "()I"⟩
abbrev cX6_queryLength : ByteArray := prog_1_method_27_code
def yX6_queryLength : MethodName := ⟨RX6, "queryLength", "()I"⟩
abbrev cX6_queryCharacter : ByteArray := prog_1_method_28_code
def yX6_queryCharacter : MethodName := ⟨RX6, "queryCharacter", "(I)I"⟩
abbrev cX6_results : ByteArray := prog_1_method_29_code
def yX6_results : MethodName := ⟨RX6, "results", "()I"⟩
abbrev cX6_result : ByteArray := prog_1_method_30_code
def yX6_result : MethodName := ⟨RX6, "result", "(I)I"⟩
abbrev cX6_matchPlace : ByteArray := prog_1_method_31_code
def yX6_matchPlace : MethodName := ⟨RX6, "matchPlace", "(I)I"⟩
abbrev cX6_pick : ByteArray := prog_1_method_32_code
def yX6_pick : MethodName := ⟨RX6, "pick", "(I)I"⟩
abbrev cX6_pickIfThere : ByteArray := prog_1_method_33_code
def yX6_pickIfThere : MethodName := ⟨RX6, "pickIfThere", "(I)I"⟩
def RX7 : String := "TitleFinderModel"
def TX7 : u_T := fun k => match k with
  | _ => ("", "", "", false)
def tyX7 : Nat → FieldType := fun k => match k with
  | _ => .int
abbrev wsX70 : List Cond := u_ws RX7 TX7 0
theorem nmX7 : ∀ a, a < 0 → ∀ b, b < 0 → a ≠ b → (TX7 a).2.1 ≠ (TX7 b).2.1 := by decide +kernel
theorem tyX7_ok : ∀ k, k < 0 → parseFieldDescriptor (TX7 k).2.2.1 = some (tyX7 k) := by decide +kernel
def RJx145de : String := "java/io/Serializable"
def TJx145de : u_T := fun k => match k with
  | _ => ("", "", "", false)
def tyJx145de : Nat → FieldType := fun k => match k with
  | _ => .int
abbrev wsJx145de0 : List Cond := u_ws RJx145de TJx145de 0
theorem nmJx145de : ∀ a, a < 0 → ∀ b, b < 0 → a ≠ b → (TJx145de a).2.1 ≠ (TJx145de b).2.1 := by decide +kernel
theorem tyJx145de_ok : ∀ k, k < 0 → parseFieldDescriptor (TJx145de k).2.2.1 = some (tyJx145de k) := by decide +kernel
def RJx8e188 : String := "java/lang/Cloneable"
def TJx8e188 : u_T := fun k => match k with
  | _ => ("", "", "", false)
def tyJx8e188 : Nat → FieldType := fun k => match k with
  | _ => .int
abbrev wsJx8e1880 : List Cond := u_ws RJx8e188 TJx8e188 0
theorem nmJx8e188 : ∀ a, a < 0 → ∀ b, b < 0 → a ≠ b → (TJx8e188 a).2.1 ≠ (TJx8e188 b).2.1 := by decide +kernel
theorem tyJx8e188_ok : ∀ k, k < 0 → parseFieldDescriptor (TJx8e188 k).2.2.1 = some (tyJx8e188 k) := by decide +kernel
def RJxab1ab : String := "java/lang/Iterable"
def TJxab1ab : u_T := fun k => match k with
  | _ => ("", "", "", false)
def tyJxab1ab : Nat → FieldType := fun k => match k with
  | _ => .int
abbrev wsJxab1ab0 : List Cond := u_ws RJxab1ab TJxab1ab 0
theorem nmJxab1ab : ∀ a, a < 0 → ∀ b, b < 0 → a ≠ b → (TJxab1ab a).2.1 ≠ (TJxab1ab b).2.1 := by decide +kernel
theorem tyJxab1ab_ok : ∀ k, k < 0 → parseFieldDescriptor (TJxab1ab k).2.2.1 = some (tyJxab1ab k) := by decide +kernel
def RJ9 : String := "java/lang/Math"
def TJ9 : u_T := fun k => match k with
  | _ => ("", "", "", false)
def tyJ9 : Nat → FieldType := fun k => match k with
  | _ => .int
abbrev wsJ90 : List Cond := u_ws RJ9 TJ9 0
theorem nmJ9 : ∀ a, a < 0 → ∀ b, b < 0 → a ≠ b → (TJ9 a).2.1 ≠ (TJ9 b).2.1 := by decide +kernel
theorem tyJ9_ok : ∀ k, k < 0 → parseFieldDescriptor (TJ9 k).2.2.1 = some (tyJ9 k) := by decide +kernel
abbrev cJ9_max_7cf53 : ByteArray := prog_13_method_65_code
def yJ9_max_7cf53 : MethodName := ⟨RJ9, "max", "(II)I"⟩
abbrev cJ9_min_7cf53 : ByteArray := prog_13_method_69_code
def yJ9_min_7cf53 : MethodName := ⟨RJ9, "min", "(II)I"⟩
def RJ10 : String := "java/lang/System"
def TJ10 : u_T := fun k => match k with
  | _ => ("", "", "", false)
def tyJ10 : Nat → FieldType := fun k => match k with
  | _ => .int
abbrev wsJ100 : List Cond := u_ws RJ10 TJ10 0
theorem nmJ10 : ∀ a, a < 0 → ∀ b, b < 0 → a ≠ b → (TJ10 a).2.1 ≠ (TJ10 b).2.1 := by decide +kernel
theorem tyJ10_ok : ∀ k, k < 0 → parseFieldDescriptor (TJ10 k).2.2.1 = some (tyJ10 k) := by decide +kernel
def RJxa1e45 : String := "java/util/AbstractCollection"
def TJxa1e45 : u_T := fun k => match k with
  | _ => ("", "", "", false)
def tyJxa1e45 : Nat → FieldType := fun k => match k with
  | _ => .int
abbrev wsJxa1e450 : List Cond := u_ws RJxa1e45 TJxa1e45 0
theorem nmJxa1e45 : ∀ a, a < 0 → ∀ b, b < 0 → a ≠ b → (TJxa1e45 a).2.1 ≠ (TJxa1e45 b).2.1 := by decide +kernel
theorem tyJxa1e45_ok : ∀ k, k < 0 → parseFieldDescriptor (TJxa1e45 k).2.2.1 = some (tyJxa1e45 k) := by decide +kernel
abbrev cJxa1e45_init_da8c8 : ByteArray := prog_15_method_1_code
def yJxa1e45_init_da8c8 : MethodName := ⟨RJxa1e45, "<init>", "()V"⟩
def RJxc12de : String := "java/util/AbstractList"
def TJxc12de : u_T := fun k => match k with
  | _ => ("", "", "", false)
def tyJxc12de : Nat → FieldType := fun k => match k with
  | _ => .int
abbrev wsJxc12de0 : List Cond := u_ws RJxc12de TJxc12de 0
theorem nmJxc12de : ∀ a, a < 0 → ∀ b, b < 0 → a ≠ b → (TJxc12de a).2.1 ≠ (TJxc12de b).2.1 := by decide +kernel
theorem tyJxc12de_ok : ∀ k, k < 0 → parseFieldDescriptor (TJxc12de k).2.2.1 = some (tyJxc12de k) := by decide +kernel
abbrev cJxc12de_init_da8c8 : ByteArray := prog_16_method_1_code
def yJxc12de_init_da8c8 : MethodName := ⟨RJxc12de, "<init>", "()V"⟩
def RJx4a65c : String := "java/util/ArrayList"
def TJx4a65c : u_T := fun k => match k with
  | 0 => ("java/util/AbstractList", "modCount", "I", false)
  | 1 => ("java/util/ArrayList", "elementData", "[Ljava/lang/Object;", false)
  | _ => ("java/util/ArrayList", "size", "I", false)
def tyJx4a65c : Nat → FieldType := fun k => match k with
  | 0 => .int
  | 1 => .array (.object "java/lang/Object")
  | _ => .int
abbrev wsJx4a65c0 : List Cond := u_ws RJx4a65c TJx4a65c 3
theorem nmJx4a65c : ∀ a, a < 3 → ∀ b, b < 3 → a ≠ b → (TJx4a65c a).2.1 ≠ (TJx4a65c b).2.1 := by decide +kernel
theorem tyJx4a65c_ok : ∀ k, k < 3 → parseFieldDescriptor (TJx4a65c k).2.2.1 = some (tyJx4a65c k) := by decide +kernel
abbrev cJx4a65c_init_da8c8 : ByteArray := prog_17_method_2_code
def yJx4a65c_init_da8c8 : MethodName := ⟨RJx4a65c, "<init>", "()V"⟩
abbrev cJx4a65c_grow_92f84 : ByteArray := prog_17_method_6_code
def yJx4a65c_grow_92f84 : MethodName := ⟨RJx4a65c, "grow", "(I)[Ljava/lang/Object;"⟩
abbrev cJx4a65c_grow_d5877 : ByteArray := prog_17_method_7_code
def yJx4a65c_grow_d5877 : MethodName := ⟨RJx4a65c, "grow", "()[Ljava/lang/Object;"⟩
abbrev cJx4a65c_size_8abf5 : ByteArray := prog_17_method_8_code
def yJx4a65c_size_8abf5 : MethodName := ⟨RJx4a65c, "size", "()I"⟩
abbrev cJx4a65c_elementData_915e3 : ByteArray := prog_17_method_18_code
def yJx4a65c_elementData_915e3 : MethodName := ⟨RJx4a65c, "elementData", "(I)Ljava/lang/Object;"⟩
abbrev cJx4a65c_get_915e3 : ByteArray := prog_17_method_20_code
def yJx4a65c_get_915e3 : MethodName := ⟨RJx4a65c, "get", "(I)Ljava/lang/Object;"⟩
abbrev cJx4a65c_set_bcc79 : ByteArray := prog_17_method_23_code
def yJx4a65c_set_bcc79 : MethodName := ⟨RJx4a65c, "set", "(ILjava/lang/Object;)Ljava/lang/Object;"⟩
abbrev cJx4a65c_add_72be8 : ByteArray := prog_17_method_24_code
def yJx4a65c_add_72be8 : MethodName := ⟨RJx4a65c, "add", "(Ljava/lang/Object;[Ljava/lang/Object;I)V"⟩
abbrev cJx4a65c_add_9ea2d : ByteArray := prog_17_method_25_code
def yJx4a65c_add_9ea2d : MethodName := ⟨RJx4a65c, "add", "(Ljava/lang/Object;)Z"⟩
abbrev cJx4a65c_remove_915e3 : ByteArray := prog_17_method_29_code
def yJx4a65c_remove_915e3 : MethodName := ⟨RJx4a65c, "remove", "(I)Ljava/lang/Object;"⟩
abbrev cJx4a65c_fastRemove_b59b0 : ByteArray := prog_17_method_39_code
def yJx4a65c_fastRemove_b59b0 : MethodName := ⟨RJx4a65c, "fastRemove", "([Ljava/lang/Object;I)V"⟩
abbrev cJx4a65c_clear_da8c8 : ByteArray := prog_17_method_40_code
def yJx4a65c_clear_da8c8 : MethodName := ⟨RJx4a65c, "clear", "()V"⟩
def RJ7 : String := "java/util/Arrays"
def TJ7 : u_T := fun k => match k with
  | _ => ("", "", "", false)
def tyJ7 : Nat → FieldType := fun k => match k with
  | _ => .int
abbrev wsJ70 : List Cond := u_ws RJ7 TJ7 0
theorem nmJ7 : ∀ a, a < 0 → ∀ b, b < 0 → a ≠ b → (TJ7 a).2.1 ≠ (TJ7 b).2.1 := by decide +kernel
theorem tyJ7_ok : ∀ k, k < 0 → parseFieldDescriptor (TJ7 k).2.2.1 = some (tyJ7 k) := by decide +kernel
abbrev cJ7_copyOf_1904c : ByteArray := prog_18_method_119_code
def yJ7_copyOf_1904c : MethodName := ⟨RJ7, "copyOf", "([Ljava/lang/Object;I)[Ljava/lang/Object;"⟩
abbrev cJ7_copyOf_6403c : ByteArray := prog_18_method_120_code
def yJ7_copyOf_6403c : MethodName := ⟨RJ7, "copyOf", "([Ljava/lang/Object;ILjava/lang/Class;)[Ljava/lang/Object;"⟩
def RJx5ef63 : String := "java/util/Collection"
def TJx5ef63 : u_T := fun k => match k with
  | _ => ("", "", "", false)
def tyJx5ef63 : Nat → FieldType := fun k => match k with
  | _ => .int
abbrev wsJx5ef630 : List Cond := u_ws RJx5ef63 TJx5ef63 0
theorem nmJx5ef63 : ∀ a, a < 0 → ∀ b, b < 0 → a ≠ b → (TJx5ef63 a).2.1 ≠ (TJx5ef63 b).2.1 := by decide +kernel
theorem tyJx5ef63_ok : ∀ k, k < 0 → parseFieldDescriptor (TJx5ef63 k).2.2.1 = some (tyJx5ef63 k) := by decide +kernel
def RJxbd725 : String := "java/util/List"
def TJxbd725 : u_T := fun k => match k with
  | _ => ("", "", "", false)
def tyJxbd725 : Nat → FieldType := fun k => match k with
  | _ => .int
abbrev wsJxbd7250 : List Cond := u_ws RJxbd725 TJxbd725 0
theorem nmJxbd725 : ∀ a, a < 0 → ∀ b, b < 0 → a ≠ b → (TJxbd725 a).2.1 ≠ (TJxbd725 b).2.1 := by decide +kernel
theorem tyJxbd725_ok : ∀ k, k < 0 → parseFieldDescriptor (TJxbd725 k).2.2.1 = some (tyJxbd725 k) := by decide +kernel
def RJ15 : String := "java/util/Objects"
def TJ15 : u_T := fun k => match k with
  | _ => ("", "", "", false)
def tyJ15 : Nat → FieldType := fun k => match k with
  | _ => .int
abbrev wsJ150 : List Cond := u_ws RJ15 TJ15 0
theorem nmJ15 : ∀ a, a < 0 → ∀ b, b < 0 → a ≠ b → (TJ15 a).2.1 ≠ (TJ15 b).2.1 := by decide +kernel
theorem tyJ15_ok : ∀ k, k < 0 → parseFieldDescriptor (TJ15 k).2.2.1 = some (tyJ15 k) := by decide +kernel
abbrev cJ15_checkIndex_7cf53 : ByteArray := prog_21_method_17_code
def yJ15_checkIndex_7cf53 : MethodName := ⟨RJ15, "checkIndex", "(II)I"⟩
def RJxf0a74 : String := "java/util/RandomAccess"
def TJxf0a74 : u_T := fun k => match k with
  | _ => ("", "", "", false)
def tyJxf0a74 : Nat → FieldType := fun k => match k with
  | _ => .int
abbrev wsJxf0a740 : List Cond := u_ws RJxf0a74 TJxf0a74 0
theorem nmJxf0a74 : ∀ a, a < 0 → ∀ b, b < 0 → a ≠ b → (TJxf0a74 a).2.1 ≠ (TJxf0a74 b).2.1 := by decide +kernel
theorem tyJxf0a74_ok : ∀ k, k < 0 → parseFieldDescriptor (TJxf0a74 k).2.2.1 = some (tyJxf0a74 k) := by decide +kernel
def RJxa66e6 : String := "java/util/SequencedCollection"
def TJxa66e6 : u_T := fun k => match k with
  | _ => ("", "", "", false)
def tyJxa66e6 : Nat → FieldType := fun k => match k with
  | _ => .int
abbrev wsJxa66e60 : List Cond := u_ws RJxa66e6 TJxa66e6 0
theorem nmJxa66e6 : ∀ a, a < 0 → ∀ b, b < 0 → a ≠ b → (TJxa66e6 a).2.1 ≠ (TJxa66e6 b).2.1 := by decide +kernel
theorem tyJxa66e6_ok : ∀ k, k < 0 → parseFieldDescriptor (TJxa66e6 k).2.2.1 = some (tyJxa66e6 k) := by decide +kernel
def RJ8 : String := "jdk/internal/util/ArraysSupport"
def TJ8 : u_T := fun k => match k with
  | _ => ("", "", "", false)
def tyJ8 : Nat → FieldType := fun k => match k with
  | _ => .int
abbrev wsJ80 : List Cond := u_ws RJ8 TJ8 0
theorem nmJ8 : ∀ a, a < 0 → ∀ b, b < 0 → a ≠ b → (TJ8 a).2.1 ≠ (TJ8 b).2.1 := by decide +kernel
theorem tyJ8_ok : ∀ k, k < 0 → parseFieldDescriptor (TJ8 k).2.2.1 = some (tyJ8 k) := by decide +kernel
abbrev cJ8_newLength_cabcc : ByteArray := prog_24_method_27_code
def yJ8_newLength_cabcc : MethodName := ⟨RJ8, "newLength", "(III)I"⟩
abbrev cJ8_hugeLength_7cf53 : ByteArray := prog_24_method_28_code
def yJ8_hugeLength_7cf53 : MethodName := ⟨RJ8, "hugeLength", "(II)I"⟩
def RJ3 : String := "jdk/internal/util/Preconditions"
def TJ3 : u_T := fun k => match k with
  | _ => ("", "", "", false)
def tyJ3 : Nat → FieldType := fun k => match k with
  | _ => .int
abbrev wsJ30 : List Cond := u_ws RJ3 TJ3 0
theorem nmJ3 : ∀ a, a < 0 → ∀ b, b < 0 → a ≠ b → (TJ3 a).2.1 ≠ (TJ3 b).2.1 := by decide +kernel
theorem tyJ3_ok : ∀ k, k < 0 → parseFieldDescriptor (TJ3 k).2.2.1 = some (tyJ3 k) := by decide +kernel
abbrev cJ3_checkIndex_8e157 : ByteArray := prog_25_method_11_code
def yJ3_checkIndex_8e157 : MethodName := ⟨RJ3, "checkIndex", "(IILjava/util/function/BiFunction;)I"⟩
def RL : String := "TitleFinderLaw"
abbrev cL_cell : ByteArray := method_2_code
def yL_cell : MethodName := ⟨RL, "cell", "([II)I"⟩
abbrev cL_low : ByteArray := method_3_code
def yL_low : MethodName := ⟨RL, "low", "(II)I"⟩
abbrev cL_code : ByteArray := method_4_code
def yL_code : MethodName := ⟨RL, "code", "(I)I"⟩
abbrev cL_at : ByteArray := method_5_code
def yL_at : MethodName := ⟨RL, "at", "(JI)I"⟩
abbrev cL_size : ByteArray := method_6_code
def yL_size : MethodName := ⟨RL, "size", "(J)I"⟩
abbrev cL_from : ByteArray := method_7_code
def yL_from : MethodName := ⟨RL, "from", "(JI)J"⟩
abbrev cL_piece : ByteArray := method_8_code
def yL_piece : MethodName := ⟨RL, "piece", "(JIII)J"⟩
abbrev cL_place : ByteArray := method_9_code
def yL_place : MethodName := ⟨RL, "place", "(JJI)I"⟩
abbrev cL_named : ByteArray := method_10_code
def yL_named : MethodName := ⟨RL, "named", "(JJ)Z"⟩
abbrev cL_ahead : ByteArray := method_11_code
def yL_ahead : MethodName := ⟨RL, "ahead", "(IIJ[I[J)Z"⟩
abbrev cL_best : ByteArray := method_12_code
def yL_best : MethodName := ⟨RL, "best", "(IZ[I[J)I"⟩
abbrev cL_common : ByteArray := method_13_code
def yL_common : MethodName := ⟨RL, "common", "(JJ)I"⟩
abbrev cL_cut : ByteArray := method_14_code
def yL_cut : MethodName := ⟨RL, "cut", "(J)J"⟩
abbrev cL_ranked : ByteArray := method_15_code
def yL_ranked : MethodName := ⟨RL, "ranked", "(IJ[I[J)I"⟩
abbrev cL_same : ByteArray := method_16_code
def yL_same : MethodName := ⟨RL, "same", "(LTitleFinder;IJ[I[J)Z"⟩
abbrev cL_made : ByteArray := method_17_code
def yL_made : MethodName := ⟨RL, "made", "(II)J"⟩
abbrev cL_law : ByteArray := code
def yL_law : MethodName := ⟨RL, "law", "([I)Z"⟩
abbrev vwCl : List vw_C := [(RJx4a65c, TJx4a65c, 3), (RX0, TX0, 3), (RX1, TX1, 3), (RX2, TX2, 5), (RX3, TX3, 5), (RX4, TX4, 7), (RX5, TX5, 3), (RX6, TX6, 6)]
/-- the tables' words that every method may take along -/
def BIG : List Cond := lw_tbl.filter goodWord
theorem big_good : ∀ w ∈ BIG, (w.onTables && w.keeps) = true ∨ ∃ ty, w = .arrayClass ty := fun w h => good_of_word (List.mem_filter.mp h).2
theorem bw (i : Nat) {w : Cond} (h : lw_tbl[i]? = some w) (hg : goodWord w = true) : w ∈ BIG := List.mem_filter.mpr ⟨List.mem_of_getElem? h, hg⟩
end
section
theorem dX0_init_0 : decode cX0_init 0 = .ok (.aload_n 0, 1) := by decide +kernel
theorem dX0_init_1 : decode cX0_init 1 = .ok (.invokespecial 3, 3) := by decide +kernel
theorem dX0_init_4 : decode cX0_init 4 = .ok (.aload_n 0, 1) := by decide +kernel
theorem dX0_init_5 : decode cX0_init 5 = .ok (.bipush 6, 2) := by decide +kernel
theorem dX0_init_7 : decode cX0_init 7 = .ok (.anewarray 9, 3) := by decide +kernel
theorem dX0_init_10 : decode cX0_init 10 = .ok (.putfield 11, 3) := by decide +kernel
theorem dX0_init_13 : decode cX0_init 13 = .ok (.iconst 0, 1) := by decide +kernel
theorem dX0_init_14 : decode cX0_init 14 = .ok (.istore_n 1, 1) := by decide +kernel
theorem dX0_init_15 : decode cX0_init 15 = .ok (.iload_n 1, 1) := by decide +kernel
theorem dX0_init_16 : decode cX0_init 16 = .ok (.aload_n 0, 1) := by decide +kernel
theorem dX0_init_17 : decode cX0_init 17 = .ok (.getfield 11, 3) := by decide +kernel
theorem dX0_init_20 : decode cX0_init 20 = .ok (.arraylength, 1) := by decide +kernel
theorem dX0_init_21 : decode cX0_init 21 = .ok (.if_icmp .ge 22, 3) := by decide +kernel
theorem dX0_init_24 : decode cX0_init 24 = .ok (.aload_n 0, 1) := by decide +kernel
theorem dX0_init_25 : decode cX0_init 25 = .ok (.getfield 11, 3) := by decide +kernel
theorem dX0_init_28 : decode cX0_init 28 = .ok (.iload_n 1, 1) := by decide +kernel
theorem dX0_init_29 : decode cX0_init 29 = .ok (.new 9, 3) := by decide +kernel
theorem dX0_init_32 : decode cX0_init 32 = .ok (.dup, 1) := by decide +kernel
theorem dX0_init_33 : decode cX0_init 33 = .ok (.invokespecial 17, 3) := by decide +kernel
theorem dX0_init_36 : decode cX0_init 36 = .ok (.aastore, 1) := by decide +kernel
theorem dX0_init_37 : decode cX0_init 37 = .ok (.iinc 1 1, 3) := by decide +kernel
theorem dX0_init_40 : decode cX0_init 40 = .ok (.goto (-25), 3) := by decide +kernel
theorem dX0_init_43 : decode cX0_init 43 = .ok (.return_, 1) := by decide +kernel
theorem dX0_save_0 : decode cX0_save 0 = .ok (.aload_n 0, 1) := by decide +kernel
theorem dX0_save_1 : decode cX0_save 1 = .ok (.aload_n 0, 1) := by decide +kernel
theorem dX0_save_2 : decode cX0_save 2 = .ok (.getfield 18, 3) := by decide +kernel
theorem dX0_save_5 : decode cX0_save 5 = .ok (.iconst 1, 1) := by decide +kernel
theorem dX0_save_6 : decode cX0_save 6 = .ok (.iadd, 1) := by decide +kernel
theorem dX0_save_7 : decode cX0_save 7 = .ok (.aload_n 0, 1) := by decide +kernel
theorem dX0_save_8 : decode cX0_save 8 = .ok (.getfield 11, 3) := by decide +kernel
theorem dX0_save_11 : decode cX0_save 11 = .ok (.arraylength, 1) := by decide +kernel
theorem dX0_save_12 : decode cX0_save 12 = .ok (.if_icmp .ge 12, 3) := by decide +kernel
theorem dX0_save_15 : decode cX0_save 15 = .ok (.aload_n 0, 1) := by decide +kernel
theorem dX0_save_16 : decode cX0_save 16 = .ok (.getfield 18, 3) := by decide +kernel
theorem dX0_save_19 : decode cX0_save 19 = .ok (.iconst 1, 1) := by decide +kernel
theorem dX0_save_20 : decode cX0_save 20 = .ok (.iadd, 1) := by decide +kernel
theorem dX0_save_21 : decode cX0_save 21 = .ok (.goto 4, 3) := by decide +kernel
theorem dX0_save_24 : decode cX0_save 24 = .ok (.iconst 0, 1) := by decide +kernel
theorem dX0_save_25 : decode cX0_save 25 = .ok (.putfield 18, 3) := by decide +kernel
theorem dX0_save_28 : decode cX0_save 28 = .ok (.aload_n 0, 1) := by decide +kernel
theorem dX0_save_29 : decode cX0_save 29 = .ok (.getfield 11, 3) := by decide +kernel
theorem dX0_save_32 : decode cX0_save 32 = .ok (.aload_n 0, 1) := by decide +kernel
theorem dX0_save_33 : decode cX0_save 33 = .ok (.getfield 18, 3) := by decide +kernel
theorem dX0_save_36 : decode cX0_save 36 = .ok (.aaload, 1) := by decide +kernel
theorem dX0_save_37 : decode cX0_save 37 = .ok (.aload_n 1, 1) := by decide +kernel
theorem dX0_save_38 : decode cX0_save 38 = .ok (.invokevirtual 22, 3) := by decide +kernel
theorem dX0_save_41 : decode cX0_save 41 = .ok (.aload_n 0, 1) := by decide +kernel
theorem dX0_save_42 : decode cX0_save 42 = .ok (.aload_n 0, 1) := by decide +kernel
theorem dX0_save_43 : decode cX0_save 43 = .ok (.getfield 26, 3) := by decide +kernel
theorem dX0_save_46 : decode cX0_save 46 = .ok (.iconst 1, 1) := by decide +kernel
theorem dX0_save_47 : decode cX0_save 47 = .ok (.iadd, 1) := by decide +kernel
theorem dX0_save_48 : decode cX0_save 48 = .ok (.aload_n 0, 1) := by decide +kernel
theorem dX0_save_49 : decode cX0_save 49 = .ok (.getfield 11, 3) := by decide +kernel
theorem dX0_save_52 : decode cX0_save 52 = .ok (.arraylength, 1) := by decide +kernel
theorem dX0_save_53 : decode cX0_save 53 = .ok (.invokestatic 29, 3) := by decide +kernel
theorem dX0_save_56 : decode cX0_save 56 = .ok (.putfield 26, 3) := by decide +kernel
theorem dX0_save_59 : decode cX0_save 59 = .ok (.return_, 1) := by decide +kernel
theorem dX1_init_0 : decode cX1_init 0 = .ok (.aload_n 0, 1) := by decide +kernel
theorem dX1_init_1 : decode cX1_init 1 = .ok (.invokespecial 3, 3) := by decide +kernel
theorem dX1_init_4 : decode cX1_init 4 = .ok (.aload_n 0, 1) := by decide +kernel
theorem dX1_init_5 : decode cX1_init 5 = .ok (.bipush 16, 2) := by decide +kernel
theorem dX1_init_7 : decode cX1_init 7 = .ok (.newarray .int, 2) := by decide +kernel
theorem dX1_init_9 : decode cX1_init 9 = .ok (.putfield 9, 3) := by decide +kernel
theorem dX1_init_12 : decode cX1_init 12 = .ok (.aload_n 0, 1) := by decide +kernel
theorem dX1_init_13 : decode cX1_init 13 = .ok (.bipush 16, 2) := by decide +kernel
theorem dX1_init_15 : decode cX1_init 15 = .ok (.newarray .int, 2) := by decide +kernel
theorem dX1_init_17 : decode cX1_init 17 = .ok (.putfield 15, 3) := by decide +kernel
theorem dX1_init_20 : decode cX1_init 20 = .ok (.return_, 1) := by decide +kernel
theorem dX1_rank_0 : decode cX1_rank 0 = .ok (.aload_n 0, 1) := by decide +kernel
theorem dX1_rank_1 : decode cX1_rank 1 = .ok (.iconst 0, 1) := by decide +kernel
theorem dX1_rank_2 : decode cX1_rank 2 = .ok (.putfield 18, 3) := by decide +kernel
theorem dX1_rank_5 : decode cX1_rank 5 = .ok (.iconst 0, 1) := by decide +kernel
theorem dX1_rank_6 : decode cX1_rank 6 = .ok (.istore_n 2, 1) := by decide +kernel
theorem dX1_rank_7 : decode cX1_rank 7 = .ok (.iload_n 2, 1) := by decide +kernel
theorem dX1_rank_8 : decode cX1_rank 8 = .ok (.aload_n 1, 1) := by decide +kernel
theorem dX1_rank_9 : decode cX1_rank 9 = .ok (.getfield 22, 3) := by decide +kernel
theorem dX1_rank_12 : decode cX1_rank 12 = .ok (.invokevirtual 28, 3) := by decide +kernel
theorem dX1_rank_15 : decode cX1_rank 15 = .ok (.if_icmp .ge 38, 3) := by decide +kernel
theorem dX1_rank_18 : decode cX1_rank 18 = .ok (.aload_n 1, 1) := by decide +kernel
theorem dX1_rank_19 : decode cX1_rank 19 = .ok (.iload_n 2, 1) := by decide +kernel
theorem dX1_rank_20 : decode cX1_rank 20 = .ok (.invokevirtual 34, 3) := by decide +kernel
theorem dX1_rank_23 : decode cX1_rank 23 = .ok (.istore_n 3, 1) := by decide +kernel
theorem dX1_rank_24 : decode cX1_rank 24 = .ok (.iload_n 3, 1) := by decide +kernel
theorem dX1_rank_25 : decode cX1_rank 25 = .ok (.ifCond .lt 22, 3) := by decide +kernel
theorem dX1_rank_28 : decode cX1_rank 28 = .ok (.aload_n 0, 1) := by decide +kernel
theorem dX1_rank_29 : decode cX1_rank 29 = .ok (.getfield 18, 3) := by decide +kernel
theorem dX1_rank_32 : decode cX1_rank 32 = .ok (.aload_n 0, 1) := by decide +kernel
theorem dX1_rank_33 : decode cX1_rank 33 = .ok (.getfield 9, 3) := by decide +kernel
theorem dX1_rank_36 : decode cX1_rank 36 = .ok (.arraylength, 1) := by decide +kernel
theorem dX1_rank_37 : decode cX1_rank 37 = .ok (.if_icmp .ge 10, 3) := by decide +kernel
theorem dX1_rank_40 : decode cX1_rank 40 = .ok (.aload_n 0, 1) := by decide +kernel
theorem dX1_rank_41 : decode cX1_rank 41 = .ok (.aload_n 1, 1) := by decide +kernel
theorem dX1_rank_42 : decode cX1_rank 42 = .ok (.iload_n 2, 1) := by decide +kernel
theorem dX1_rank_43 : decode cX1_rank 43 = .ok (.iload_n 3, 1) := by decide +kernel
theorem dX1_rank_44 : decode cX1_rank 44 = .ok (.invokevirtual 38, 3) := by decide +kernel
theorem dX1_rank_47 : decode cX1_rank 47 = .ok (.iinc 2 1, 3) := by decide +kernel
theorem dX1_rank_50 : decode cX1_rank 50 = .ok (.goto (-43), 3) := by decide +kernel
theorem dX1_rank_53 : decode cX1_rank 53 = .ok (.return_, 1) := by decide +kernel
theorem dX1_insert_0 : decode cX1_insert 0 = .ok (.aload_n 0, 1) := by decide +kernel
theorem dX1_insert_1 : decode cX1_insert 1 = .ok (.getfield 18, 3) := by decide +kernel
theorem dX1_insert_4 : decode cX1_insert 4 = .ok (.istore 4, 2) := by decide +kernel
theorem dX1_insert_6 : decode cX1_insert 6 = .ok (.iload 4, 2) := by decide +kernel
theorem dX1_insert_8 : decode cX1_insert 8 = .ok (.ifCond .le 68, 3) := by decide +kernel
theorem dX1_insert_11 : decode cX1_insert 11 = .ok (.aload_n 1, 1) := by decide +kernel
theorem dX1_insert_12 : decode cX1_insert 12 = .ok (.iload_n 2, 1) := by decide +kernel
theorem dX1_insert_13 : decode cX1_insert 13 = .ok (.iload_n 3, 1) := by decide +kernel
theorem dX1_insert_14 : decode cX1_insert 14 = .ok (.aload_n 0, 1) := by decide +kernel
theorem dX1_insert_15 : decode cX1_insert 15 = .ok (.getfield 9, 3) := by decide +kernel
theorem dX1_insert_18 : decode cX1_insert 18 = .ok (.iload 4, 2) := by decide +kernel
theorem dX1_insert_20 : decode cX1_insert 20 = .ok (.iconst 1, 1) := by decide +kernel
theorem dX1_insert_21 : decode cX1_insert 21 = .ok (.isub, 1) := by decide +kernel
theorem dX1_insert_22 : decode cX1_insert 22 = .ok (.iaload, 1) := by decide +kernel
theorem dX1_insert_23 : decode cX1_insert 23 = .ok (.aload_n 0, 1) := by decide +kernel
theorem dX1_insert_24 : decode cX1_insert 24 = .ok (.getfield 15, 3) := by decide +kernel
theorem dX1_insert_27 : decode cX1_insert 27 = .ok (.iload 4, 2) := by decide +kernel
theorem dX1_insert_29 : decode cX1_insert 29 = .ok (.iconst 1, 1) := by decide +kernel
theorem dX1_insert_30 : decode cX1_insert 30 = .ok (.isub, 1) := by decide +kernel
theorem dX1_insert_31 : decode cX1_insert 31 = .ok (.iaload, 1) := by decide +kernel
theorem dX1_insert_32 : decode cX1_insert 32 = .ok (.invokevirtual 42, 3) := by decide +kernel
theorem dX1_insert_35 : decode cX1_insert 35 = .ok (.ifCond .eq 41, 3) := by decide +kernel
theorem dX1_insert_38 : decode cX1_insert 38 = .ok (.aload_n 0, 1) := by decide +kernel
theorem dX1_insert_39 : decode cX1_insert 39 = .ok (.getfield 9, 3) := by decide +kernel
theorem dX1_insert_42 : decode cX1_insert 42 = .ok (.iload 4, 2) := by decide +kernel
theorem dX1_insert_44 : decode cX1_insert 44 = .ok (.aload_n 0, 1) := by decide +kernel
theorem dX1_insert_45 : decode cX1_insert 45 = .ok (.getfield 9, 3) := by decide +kernel
theorem dX1_insert_48 : decode cX1_insert 48 = .ok (.iload 4, 2) := by decide +kernel
theorem dX1_insert_50 : decode cX1_insert 50 = .ok (.iconst 1, 1) := by decide +kernel
theorem dX1_insert_51 : decode cX1_insert 51 = .ok (.isub, 1) := by decide +kernel
theorem dX1_insert_52 : decode cX1_insert 52 = .ok (.iaload, 1) := by decide +kernel
theorem dX1_insert_53 : decode cX1_insert 53 = .ok (.iastore, 1) := by decide +kernel
theorem dX1_insert_54 : decode cX1_insert 54 = .ok (.aload_n 0, 1) := by decide +kernel
theorem dX1_insert_55 : decode cX1_insert 55 = .ok (.getfield 15, 3) := by decide +kernel
theorem dX1_insert_58 : decode cX1_insert 58 = .ok (.iload 4, 2) := by decide +kernel
theorem dX1_insert_60 : decode cX1_insert 60 = .ok (.aload_n 0, 1) := by decide +kernel
theorem dX1_insert_61 : decode cX1_insert 61 = .ok (.getfield 15, 3) := by decide +kernel
theorem dX1_insert_64 : decode cX1_insert 64 = .ok (.iload 4, 2) := by decide +kernel
theorem dX1_insert_66 : decode cX1_insert 66 = .ok (.iconst 1, 1) := by decide +kernel
theorem dX1_insert_67 : decode cX1_insert 67 = .ok (.isub, 1) := by decide +kernel
theorem dX1_insert_68 : decode cX1_insert 68 = .ok (.iaload, 1) := by decide +kernel
theorem dX1_insert_69 : decode cX1_insert 69 = .ok (.iastore, 1) := by decide +kernel
theorem dX1_insert_70 : decode cX1_insert 70 = .ok (.iinc 4 (-1), 3) := by decide +kernel
theorem dX1_insert_73 : decode cX1_insert 73 = .ok (.goto (-67), 3) := by decide +kernel
theorem dX1_insert_76 : decode cX1_insert 76 = .ok (.aload_n 0, 1) := by decide +kernel
theorem dX1_insert_77 : decode cX1_insert 77 = .ok (.getfield 9, 3) := by decide +kernel
theorem dX1_insert_80 : decode cX1_insert 80 = .ok (.iload 4, 2) := by decide +kernel
theorem dX1_insert_82 : decode cX1_insert 82 = .ok (.iload_n 2, 1) := by decide +kernel
theorem dX1_insert_83 : decode cX1_insert 83 = .ok (.iastore, 1) := by decide +kernel
theorem dX1_insert_84 : decode cX1_insert 84 = .ok (.aload_n 0, 1) := by decide +kernel
theorem dX1_insert_85 : decode cX1_insert 85 = .ok (.getfield 15, 3) := by decide +kernel
theorem dX1_insert_88 : decode cX1_insert 88 = .ok (.iload 4, 2) := by decide +kernel
theorem dX1_insert_90 : decode cX1_insert 90 = .ok (.iload_n 3, 1) := by decide +kernel
theorem dX1_insert_91 : decode cX1_insert 91 = .ok (.iastore, 1) := by decide +kernel
theorem dX1_insert_92 : decode cX1_insert 92 = .ok (.aload_n 0, 1) := by decide +kernel
theorem dX1_insert_93 : decode cX1_insert 93 = .ok (.dup, 1) := by decide +kernel
theorem dX1_insert_94 : decode cX1_insert 94 = .ok (.getfield 18, 3) := by decide +kernel
theorem dX1_insert_97 : decode cX1_insert 97 = .ok (.iconst 1, 1) := by decide +kernel
theorem dX1_insert_98 : decode cX1_insert 98 = .ok (.iadd, 1) := by decide +kernel
theorem dX1_insert_99 : decode cX1_insert 99 = .ok (.putfield 18, 3) := by decide +kernel
theorem dX1_insert_102 : decode cX1_insert 102 = .ok (.return_, 1) := by decide +kernel
theorem dX1_has_0 : decode cX1_has 0 = .ok (.iload_n 1, 1) := by decide +kernel
theorem dX1_has_1 : decode cX1_has 1 = .ok (.ifCond .lt 24, 3) := by decide +kernel
theorem dX1_has_4 : decode cX1_has 4 = .ok (.iload_n 1, 1) := by decide +kernel
theorem dX1_has_5 : decode cX1_has 5 = .ok (.aload_n 0, 1) := by decide +kernel
theorem dX1_has_6 : decode cX1_has 6 = .ok (.getfield 18, 3) := by decide +kernel
theorem dX1_has_9 : decode cX1_has 9 = .ok (.if_icmp .ge 16, 3) := by decide +kernel
theorem dX1_has_12 : decode cX1_has 12 = .ok (.iload_n 1, 1) := by decide +kernel
theorem dX1_has_13 : decode cX1_has 13 = .ok (.aload_n 0, 1) := by decide +kernel
theorem dX1_has_14 : decode cX1_has 14 = .ok (.getfield 9, 3) := by decide +kernel
theorem dX1_has_17 : decode cX1_has 17 = .ok (.arraylength, 1) := by decide +kernel
theorem dX1_has_18 : decode cX1_has 18 = .ok (.if_icmp .ge 7, 3) := by decide +kernel
theorem dX1_has_21 : decode cX1_has 21 = .ok (.iconst 1, 1) := by decide +kernel
theorem dX1_has_22 : decode cX1_has 22 = .ok (.goto 4, 3) := by decide +kernel
theorem dX1_has_25 : decode cX1_has 25 = .ok (.iconst 0, 1) := by decide +kernel
theorem dX1_has_26 : decode cX1_has 26 = .ok (.ireturn, 1) := by decide +kernel
theorem dX1_titleAt_0 : decode cX1_titleAt 0 = .ok (.aload_n 0, 1) := by decide +kernel
theorem dX1_titleAt_1 : decode cX1_titleAt 1 = .ok (.iload_n 1, 1) := by decide +kernel
theorem dX1_titleAt_2 : decode cX1_titleAt 2 = .ok (.invokevirtual 46, 3) := by decide +kernel
theorem dX1_titleAt_5 : decode cX1_titleAt 5 = .ok (.ifCond .eq 12, 3) := by decide +kernel
theorem dX1_titleAt_8 : decode cX1_titleAt 8 = .ok (.aload_n 0, 1) := by decide +kernel
theorem dX1_titleAt_9 : decode cX1_titleAt 9 = .ok (.getfield 9, 3) := by decide +kernel
theorem dX1_titleAt_12 : decode cX1_titleAt 12 = .ok (.iload_n 1, 1) := by decide +kernel
theorem dX1_titleAt_13 : decode cX1_titleAt 13 = .ok (.iaload, 1) := by decide +kernel
theorem dX1_titleAt_14 : decode cX1_titleAt 14 = .ok (.goto 4, 3) := by decide +kernel
theorem dX1_titleAt_17 : decode cX1_titleAt 17 = .ok (.iconst (-1), 1) := by decide +kernel
theorem dX1_titleAt_18 : decode cX1_titleAt 18 = .ok (.ireturn, 1) := by decide +kernel
theorem dX1_placeAt_0 : decode cX1_placeAt 0 = .ok (.aload_n 0, 1) := by decide +kernel
theorem dX1_placeAt_1 : decode cX1_placeAt 1 = .ok (.iload_n 1, 1) := by decide +kernel
theorem dX1_placeAt_2 : decode cX1_placeAt 2 = .ok (.invokevirtual 46, 3) := by decide +kernel
theorem dX1_placeAt_5 : decode cX1_placeAt 5 = .ok (.ifCond .eq 12, 3) := by decide +kernel
theorem dX1_placeAt_8 : decode cX1_placeAt 8 = .ok (.aload_n 0, 1) := by decide +kernel
theorem dX1_placeAt_9 : decode cX1_placeAt 9 = .ok (.getfield 15, 3) := by decide +kernel
theorem dX1_placeAt_12 : decode cX1_placeAt 12 = .ok (.iload_n 1, 1) := by decide +kernel
theorem dX1_placeAt_13 : decode cX1_placeAt 13 = .ok (.iaload, 1) := by decide +kernel
theorem dX1_placeAt_14 : decode cX1_placeAt 14 = .ok (.goto 4, 3) := by decide +kernel
theorem dX1_placeAt_17 : decode cX1_placeAt 17 = .ok (.iconst (-1), 1) := by decide +kernel
theorem dX1_placeAt_18 : decode cX1_placeAt 18 = .ok (.ireturn, 1) := by decide +kernel
theorem dX2_init_0 : decode cX2_init 0 = .ok (.aload_n 0, 1) := by decide +kernel
theorem dX2_init_1 : decode cX2_init 1 = .ok (.invokespecial 3, 3) := by decide +kernel
theorem dX2_init_4 : decode cX2_init 4 = .ok (.aload_n 0, 1) := by decide +kernel
theorem dX2_init_5 : decode cX2_init 5 = .ok (.new 9, 3) := by decide +kernel
theorem dX2_init_8 : decode cX2_init 8 = .ok (.dup, 1) := by decide +kernel
theorem dX2_init_9 : decode cX2_init 9 = .ok (.invokespecial 11, 3) := by decide +kernel
theorem dX2_init_12 : decode cX2_init 12 = .ok (.putfield 12, 3) := by decide +kernel
theorem dX2_init_15 : decode cX2_init 15 = .ok (.aload_n 0, 1) := by decide +kernel
theorem dX2_init_16 : decode cX2_init 16 = .ok (.bipush 24, 2) := by decide +kernel
theorem dX2_init_18 : decode cX2_init 18 = .ok (.newarray .char, 2) := by decide +kernel
theorem dX2_init_20 : decode cX2_init 20 = .ok (.putfield 18, 3) := by decide +kernel
theorem dX2_init_23 : decode cX2_init 23 = .ok (.return_, 1) := by decide +kernel
theorem dX2_copyFrom_0 : decode cX2_copyFrom 0 = .ok (.aload_n 0, 1) := by decide +kernel
theorem dX2_copyFrom_1 : decode cX2_copyFrom 1 = .ok (.getfield 12, 3) := by decide +kernel
theorem dX2_copyFrom_4 : decode cX2_copyFrom 4 = .ok (.invokevirtual 22, 3) := by decide +kernel
theorem dX2_copyFrom_7 : decode cX2_copyFrom 7 = .ok (.iconst 0, 1) := by decide +kernel
theorem dX2_copyFrom_8 : decode cX2_copyFrom 8 = .ok (.istore_n 2, 1) := by decide +kernel
theorem dX2_copyFrom_9 : decode cX2_copyFrom 9 = .ok (.iload_n 2, 1) := by decide +kernel
theorem dX2_copyFrom_10 : decode cX2_copyFrom 10 = .ok (.aload_n 1, 1) := by decide +kernel
theorem dX2_copyFrom_11 : decode cX2_copyFrom 11 = .ok (.getfield 12, 3) := by decide +kernel
theorem dX2_copyFrom_14 : decode cX2_copyFrom 14 = .ok (.invokevirtual 25, 3) := by decide +kernel
theorem dX2_copyFrom_17 : decode cX2_copyFrom 17 = .ok (.if_icmp .ge 28, 3) := by decide +kernel
theorem dX2_copyFrom_20 : decode cX2_copyFrom 20 = .ok (.aload_n 0, 1) := by decide +kernel
theorem dX2_copyFrom_21 : decode cX2_copyFrom 21 = .ok (.getfield 12, 3) := by decide +kernel
theorem dX2_copyFrom_24 : decode cX2_copyFrom 24 = .ok (.aload_n 1, 1) := by decide +kernel
theorem dX2_copyFrom_25 : decode cX2_copyFrom 25 = .ok (.getfield 12, 3) := by decide +kernel
theorem dX2_copyFrom_28 : decode cX2_copyFrom 28 = .ok (.iload_n 2, 1) := by decide +kernel
theorem dX2_copyFrom_29 : decode cX2_copyFrom 29 = .ok (.invokevirtual 29, 3) := by decide +kernel
theorem dX2_copyFrom_32 : decode cX2_copyFrom 32 = .ok (.checkcast 33, 3) := by decide +kernel
theorem dX2_copyFrom_35 : decode cX2_copyFrom 35 = .ok (.invokevirtual 35, 3) := by decide +kernel
theorem dX2_copyFrom_38 : decode cX2_copyFrom 38 = .ok (.pop, 1) := by decide +kernel
theorem dX2_copyFrom_39 : decode cX2_copyFrom 39 = .ok (.iinc 2 1, 3) := by decide +kernel
theorem dX2_copyFrom_42 : decode cX2_copyFrom 42 = .ok (.goto (-33), 3) := by decide +kernel
theorem dX2_copyFrom_45 : decode cX2_copyFrom 45 = .ok (.iconst 0, 1) := by decide +kernel
theorem dX2_copyFrom_46 : decode cX2_copyFrom 46 = .ok (.istore_n 2, 1) := by decide +kernel
theorem dX2_copyFrom_47 : decode cX2_copyFrom 47 = .ok (.iload_n 2, 1) := by decide +kernel
theorem dX2_copyFrom_48 : decode cX2_copyFrom 48 = .ok (.aload_n 0, 1) := by decide +kernel
theorem dX2_copyFrom_49 : decode cX2_copyFrom 49 = .ok (.getfield 18, 3) := by decide +kernel
theorem dX2_copyFrom_52 : decode cX2_copyFrom 52 = .ok (.arraylength, 1) := by decide +kernel
theorem dX2_copyFrom_53 : decode cX2_copyFrom 53 = .ok (.if_icmp .ge 30, 3) := by decide +kernel
theorem dX2_copyFrom_56 : decode cX2_copyFrom 56 = .ok (.iload_n 2, 1) := by decide +kernel
theorem dX2_copyFrom_57 : decode cX2_copyFrom 57 = .ok (.aload_n 1, 1) := by decide +kernel
theorem dX2_copyFrom_58 : decode cX2_copyFrom 58 = .ok (.getfield 18, 3) := by decide +kernel
theorem dX2_copyFrom_61 : decode cX2_copyFrom 61 = .ok (.arraylength, 1) := by decide +kernel
theorem dX2_copyFrom_62 : decode cX2_copyFrom 62 = .ok (.if_icmp .ge 21, 3) := by decide +kernel
theorem dX2_copyFrom_65 : decode cX2_copyFrom 65 = .ok (.aload_n 0, 1) := by decide +kernel
theorem dX2_copyFrom_66 : decode cX2_copyFrom 66 = .ok (.getfield 18, 3) := by decide +kernel
theorem dX2_copyFrom_69 : decode cX2_copyFrom 69 = .ok (.iload_n 2, 1) := by decide +kernel
theorem dX2_copyFrom_70 : decode cX2_copyFrom 70 = .ok (.aload_n 1, 1) := by decide +kernel
theorem dX2_copyFrom_71 : decode cX2_copyFrom 71 = .ok (.getfield 18, 3) := by decide +kernel
theorem dX2_copyFrom_74 : decode cX2_copyFrom 74 = .ok (.iload_n 2, 1) := by decide +kernel
theorem dX2_copyFrom_75 : decode cX2_copyFrom 75 = .ok (.caload, 1) := by decide +kernel
theorem dX2_copyFrom_76 : decode cX2_copyFrom 76 = .ok (.castore, 1) := by decide +kernel
theorem dX2_copyFrom_77 : decode cX2_copyFrom 77 = .ok (.iinc 2 1, 3) := by decide +kernel
theorem dX2_copyFrom_80 : decode cX2_copyFrom 80 = .ok (.goto (-33), 3) := by decide +kernel
theorem dX2_copyFrom_83 : decode cX2_copyFrom 83 = .ok (.aload_n 0, 1) := by decide +kernel
theorem dX2_copyFrom_84 : decode cX2_copyFrom 84 = .ok (.aload_n 1, 1) := by decide +kernel
theorem dX2_copyFrom_85 : decode cX2_copyFrom 85 = .ok (.getfield 39, 3) := by decide +kernel
theorem dX2_copyFrom_88 : decode cX2_copyFrom 88 = .ok (.putfield 39, 3) := by decide +kernel
theorem dX2_copyFrom_91 : decode cX2_copyFrom 91 = .ok (.aload_n 0, 1) := by decide +kernel
theorem dX2_copyFrom_92 : decode cX2_copyFrom 92 = .ok (.aload_n 1, 1) := by decide +kernel
theorem dX2_copyFrom_93 : decode cX2_copyFrom 93 = .ok (.getfield 43, 3) := by decide +kernel
theorem dX2_copyFrom_96 : decode cX2_copyFrom 96 = .ok (.putfield 43, 3) := by decide +kernel
theorem dX2_copyFrom_99 : decode cX2_copyFrom 99 = .ok (.aload_n 0, 1) := by decide +kernel
theorem dX2_copyFrom_100 : decode cX2_copyFrom 100 = .ok (.aload_n 1, 1) := by decide +kernel
theorem dX2_copyFrom_101 : decode cX2_copyFrom 101 = .ok (.getfield 46, 3) := by decide +kernel
theorem dX2_copyFrom_104 : decode cX2_copyFrom 104 = .ok (.putfield 46, 3) := by decide +kernel
theorem dX2_copyFrom_107 : decode cX2_copyFrom 107 = .ok (.return_, 1) := by decide +kernel
theorem dX2_has_0 : decode cX2_has 0 = .ok (.iload_n 1, 1) := by decide +kernel
theorem dX2_has_1 : decode cX2_has 1 = .ok (.ifCond .lt 18, 3) := by decide +kernel
theorem dX2_has_4 : decode cX2_has 4 = .ok (.iload_n 1, 1) := by decide +kernel
theorem dX2_has_5 : decode cX2_has 5 = .ok (.aload_n 0, 1) := by decide +kernel
theorem dX2_has_6 : decode cX2_has 6 = .ok (.getfield 12, 3) := by decide +kernel
theorem dX2_has_9 : decode cX2_has 9 = .ok (.invokevirtual 25, 3) := by decide +kernel
theorem dX2_has_12 : decode cX2_has 12 = .ok (.if_icmp .ge 7, 3) := by decide +kernel
theorem dX2_has_15 : decode cX2_has 15 = .ok (.iconst 1, 1) := by decide +kernel
theorem dX2_has_16 : decode cX2_has 16 = .ok (.goto 4, 3) := by decide +kernel
theorem dX2_has_19 : decode cX2_has 19 = .ok (.iconst 0, 1) := by decide +kernel
theorem dX2_has_20 : decode cX2_has 20 = .ok (.ireturn, 1) := by decide +kernel
theorem dX2_refusal_0 : decode cX2_refusal 0 = .ok (.iconst 0, 1) := by decide +kernel
theorem dX2_refusal_1 : decode cX2_refusal 1 = .ok (.istore_n 2, 1) := by decide +kernel
theorem dX2_refusal_2 : decode cX2_refusal 2 = .ok (.iload_n 2, 1) := by decide +kernel
theorem dX2_refusal_3 : decode cX2_refusal 3 = .ok (.aload_n 0, 1) := by decide +kernel
theorem dX2_refusal_4 : decode cX2_refusal 4 = .ok (.getfield 12, 3) := by decide +kernel
theorem dX2_refusal_7 : decode cX2_refusal 7 = .ok (.invokevirtual 25, 3) := by decide +kernel
theorem dX2_refusal_10 : decode cX2_refusal 10 = .ok (.if_icmp .ge 30, 3) := by decide +kernel
theorem dX2_refusal_13 : decode cX2_refusal 13 = .ok (.aload_n 0, 1) := by decide +kernel
theorem dX2_refusal_14 : decode cX2_refusal 14 = .ok (.getfield 12, 3) := by decide +kernel
theorem dX2_refusal_17 : decode cX2_refusal 17 = .ok (.iload_n 2, 1) := by decide +kernel
theorem dX2_refusal_18 : decode cX2_refusal 18 = .ok (.invokevirtual 29, 3) := by decide +kernel
theorem dX2_refusal_21 : decode cX2_refusal 21 = .ok (.checkcast 33, 3) := by decide +kernel
theorem dX2_refusal_24 : decode cX2_refusal 24 = .ok (.aload_n 1, 1) := by decide +kernel
theorem dX2_refusal_25 : decode cX2_refusal 25 = .ok (.invokevirtual 49, 3) := by decide +kernel
theorem dX2_refusal_28 : decode cX2_refusal 28 = .ok (.ifCond .eq 6, 3) := by decide +kernel
theorem dX2_refusal_31 : decode cX2_refusal 31 = .ok (.bipush (-3), 2) := by decide +kernel
theorem dX2_refusal_33 : decode cX2_refusal 33 = .ok (.ireturn, 1) := by decide +kernel
theorem dX2_refusal_34 : decode cX2_refusal 34 = .ok (.iinc 2 1, 3) := by decide +kernel
theorem dX2_refusal_37 : decode cX2_refusal 37 = .ok (.goto (-35), 3) := by decide +kernel
theorem dX2_refusal_40 : decode cX2_refusal 40 = .ok (.aload_n 0, 1) := by decide +kernel
theorem dX2_refusal_41 : decode cX2_refusal 41 = .ok (.getfield 12, 3) := by decide +kernel
theorem dX2_refusal_44 : decode cX2_refusal 44 = .ok (.invokevirtual 25, 3) := by decide +kernel
theorem dX2_refusal_47 : decode cX2_refusal 47 = .ok (.bipush 16, 2) := by decide +kernel
theorem dX2_refusal_49 : decode cX2_refusal 49 = .ok (.if_icmp .lt 8, 3) := by decide +kernel
theorem dX2_refusal_52 : decode cX2_refusal 52 = .ok (.bipush (-4), 2) := by decide +kernel
theorem dX2_refusal_54 : decode cX2_refusal 54 = .ok (.goto 4, 3) := by decide +kernel
theorem dX2_refusal_57 : decode cX2_refusal 57 = .ok (.iconst 0, 1) := by decide +kernel
theorem dX2_refusal_58 : decode cX2_refusal 58 = .ok (.ireturn, 1) := by decide +kernel
theorem dX2_appendToQuery_0 : decode cX2_appendToQuery 0 = .ok (.aload_n 0, 1) := by decide +kernel
theorem dX2_appendToQuery_1 : decode cX2_appendToQuery 1 = .ok (.getfield 39, 3) := by decide +kernel
theorem dX2_appendToQuery_4 : decode cX2_appendToQuery 4 = .ok (.ifCond .lt 35, 3) := by decide +kernel
theorem dX2_appendToQuery_7 : decode cX2_appendToQuery 7 = .ok (.aload_n 0, 1) := by decide +kernel
theorem dX2_appendToQuery_8 : decode cX2_appendToQuery 8 = .ok (.getfield 39, 3) := by decide +kernel
theorem dX2_appendToQuery_11 : decode cX2_appendToQuery 11 = .ok (.aload_n 0, 1) := by decide +kernel
theorem dX2_appendToQuery_12 : decode cX2_appendToQuery 12 = .ok (.getfield 18, 3) := by decide +kernel
theorem dX2_appendToQuery_15 : decode cX2_appendToQuery 15 = .ok (.arraylength, 1) := by decide +kernel
theorem dX2_appendToQuery_16 : decode cX2_appendToQuery 16 = .ok (.if_icmp .ge 23, 3) := by decide +kernel
theorem dX2_appendToQuery_19 : decode cX2_appendToQuery 19 = .ok (.aload_n 0, 1) := by decide +kernel
theorem dX2_appendToQuery_20 : decode cX2_appendToQuery 20 = .ok (.getfield 18, 3) := by decide +kernel
theorem dX2_appendToQuery_23 : decode cX2_appendToQuery 23 = .ok (.aload_n 0, 1) := by decide +kernel
theorem dX2_appendToQuery_24 : decode cX2_appendToQuery 24 = .ok (.getfield 39, 3) := by decide +kernel
theorem dX2_appendToQuery_27 : decode cX2_appendToQuery 27 = .ok (.iload_n 1, 1) := by decide +kernel
theorem dX2_appendToQuery_28 : decode cX2_appendToQuery 28 = .ok (.castore, 1) := by decide +kernel
theorem dX2_appendToQuery_29 : decode cX2_appendToQuery 29 = .ok (.aload_n 0, 1) := by decide +kernel
theorem dX2_appendToQuery_30 : decode cX2_appendToQuery 30 = .ok (.dup, 1) := by decide +kernel
theorem dX2_appendToQuery_31 : decode cX2_appendToQuery 31 = .ok (.getfield 39, 3) := by decide +kernel
theorem dX2_appendToQuery_34 : decode cX2_appendToQuery 34 = .ok (.iconst 1, 1) := by decide +kernel
theorem dX2_appendToQuery_35 : decode cX2_appendToQuery 35 = .ok (.iadd, 1) := by decide +kernel
theorem dX2_appendToQuery_36 : decode cX2_appendToQuery 36 = .ok (.putfield 39, 3) := by decide +kernel
theorem dX2_appendToQuery_39 : decode cX2_appendToQuery 39 = .ok (.return_, 1) := by decide +kernel
theorem dX2_queryEndsWithLetter_0 : decode cX2_queryEndsWithLetter 0 = .ok (.aload_n 0, 1) := by decide +kernel
theorem dX2_queryEndsWithLetter_1 : decode cX2_queryEndsWithLetter 1 = .ok (.getfield 39, 3) := by decide +kernel
theorem dX2_queryEndsWithLetter_4 : decode cX2_queryEndsWithLetter 4 = .ok (.ifCond .le 35, 3) := by decide +kernel
theorem dX2_queryEndsWithLetter_7 : decode cX2_queryEndsWithLetter 7 = .ok (.aload_n 0, 1) := by decide +kernel
theorem dX2_queryEndsWithLetter_8 : decode cX2_queryEndsWithLetter 8 = .ok (.getfield 39, 3) := by decide +kernel
theorem dX2_queryEndsWithLetter_11 : decode cX2_queryEndsWithLetter 11 = .ok (.aload_n 0, 1) := by decide +kernel
theorem dX2_queryEndsWithLetter_12 : decode cX2_queryEndsWithLetter 12 = .ok (.getfield 18, 3) := by decide +kernel
theorem dX2_queryEndsWithLetter_15 : decode cX2_queryEndsWithLetter 15 = .ok (.arraylength, 1) := by decide +kernel
theorem dX2_queryEndsWithLetter_16 : decode cX2_queryEndsWithLetter 16 = .ok (.if_icmp .gt 23, 3) := by decide +kernel
theorem dX2_queryEndsWithLetter_19 : decode cX2_queryEndsWithLetter 19 = .ok (.aload_n 0, 1) := by decide +kernel
theorem dX2_queryEndsWithLetter_20 : decode cX2_queryEndsWithLetter 20 = .ok (.getfield 18, 3) := by decide +kernel
theorem dX2_queryEndsWithLetter_23 : decode cX2_queryEndsWithLetter 23 = .ok (.aload_n 0, 1) := by decide +kernel
theorem dX2_queryEndsWithLetter_24 : decode cX2_queryEndsWithLetter 24 = .ok (.getfield 39, 3) := by decide +kernel
theorem dX2_queryEndsWithLetter_27 : decode cX2_queryEndsWithLetter 27 = .ok (.iconst 1, 1) := by decide +kernel
theorem dX2_queryEndsWithLetter_28 : decode cX2_queryEndsWithLetter 28 = .ok (.isub, 1) := by decide +kernel
theorem dX2_queryEndsWithLetter_29 : decode cX2_queryEndsWithLetter 29 = .ok (.caload, 1) := by decide +kernel
theorem dX2_queryEndsWithLetter_30 : decode cX2_queryEndsWithLetter 30 = .ok (.bipush 32, 2) := by decide +kernel
theorem dX2_queryEndsWithLetter_32 : decode cX2_queryEndsWithLetter 32 = .ok (.if_icmp .eq 7, 3) := by decide +kernel
theorem dX2_queryEndsWithLetter_35 : decode cX2_queryEndsWithLetter 35 = .ok (.iconst 1, 1) := by decide +kernel
theorem dX2_queryEndsWithLetter_36 : decode cX2_queryEndsWithLetter 36 = .ok (.goto 4, 3) := by decide +kernel
theorem dX2_queryEndsWithLetter_39 : decode cX2_queryEndsWithLetter 39 = .ok (.iconst 0, 1) := by decide +kernel
theorem dX2_queryEndsWithLetter_40 : decode cX2_queryEndsWithLetter 40 = .ok (.ireturn, 1) := by decide +kernel
theorem dX2_placeOfMatch_0 : decode cX2_placeOfMatch 0 = .ok (.aload_n 0, 1) := by decide +kernel
theorem dX2_placeOfMatch_1 : decode cX2_placeOfMatch 1 = .ok (.invokevirtual 53, 3) := by decide +kernel
theorem dX2_placeOfMatch_4 : decode cX2_placeOfMatch 4 = .ok (.ifCond .eq 10, 3) := by decide +kernel
theorem dX2_placeOfMatch_7 : decode cX2_placeOfMatch 7 = .ok (.aload_n 0, 1) := by decide +kernel
theorem dX2_placeOfMatch_8 : decode cX2_placeOfMatch 8 = .ok (.getfield 39, 3) := by decide +kernel
theorem dX2_placeOfMatch_11 : decode cX2_placeOfMatch 11 = .ok (.goto 9, 3) := by decide +kernel
theorem dX2_placeOfMatch_14 : decode cX2_placeOfMatch 14 = .ok (.aload_n 0, 1) := by decide +kernel
theorem dX2_placeOfMatch_15 : decode cX2_placeOfMatch 15 = .ok (.getfield 39, 3) := by decide +kernel
theorem dX2_placeOfMatch_18 : decode cX2_placeOfMatch 18 = .ok (.iconst 1, 1) := by decide +kernel
theorem dX2_placeOfMatch_19 : decode cX2_placeOfMatch 19 = .ok (.isub, 1) := by decide +kernel
theorem dX2_placeOfMatch_20 : decode cX2_placeOfMatch 20 = .ok (.istore_n 2, 1) := by decide +kernel
theorem dX2_placeOfMatch_21 : decode cX2_placeOfMatch 21 = .ok (.iload_n 2, 1) := by decide +kernel
theorem dX2_placeOfMatch_22 : decode cX2_placeOfMatch 22 = .ok (.ifCond .gt 7, 3) := by decide +kernel
theorem dX2_placeOfMatch_25 : decode cX2_placeOfMatch 25 = .ok (.iconst 0, 1) := by decide +kernel
theorem dX2_placeOfMatch_26 : decode cX2_placeOfMatch 26 = .ok (.goto 26, 3) := by decide +kernel
theorem dX2_placeOfMatch_29 : decode cX2_placeOfMatch 29 = .ok (.aload_n 0, 1) := by decide +kernel
theorem dX2_placeOfMatch_30 : decode cX2_placeOfMatch 30 = .ok (.getfield 12, 3) := by decide +kernel
theorem dX2_placeOfMatch_33 : decode cX2_placeOfMatch 33 = .ok (.iload_n 1, 1) := by decide +kernel
theorem dX2_placeOfMatch_34 : decode cX2_placeOfMatch 34 = .ok (.invokevirtual 29, 3) := by decide +kernel
theorem dX2_placeOfMatch_37 : decode cX2_placeOfMatch 37 = .ok (.checkcast 33, 3) := by decide +kernel
theorem dX2_placeOfMatch_40 : decode cX2_placeOfMatch 40 = .ok (.aload_n 0, 1) := by decide +kernel
theorem dX2_placeOfMatch_41 : decode cX2_placeOfMatch 41 = .ok (.getfield 18, 3) := by decide +kernel
theorem dX2_placeOfMatch_44 : decode cX2_placeOfMatch 44 = .ok (.iload_n 2, 1) := by decide +kernel
theorem dX2_placeOfMatch_45 : decode cX2_placeOfMatch 45 = .ok (.aload_n 0, 1) := by decide +kernel
theorem dX2_placeOfMatch_46 : decode cX2_placeOfMatch 46 = .ok (.getfield 43, 3) := by decide +kernel
theorem dX2_placeOfMatch_49 : decode cX2_placeOfMatch 49 = .ok (.invokevirtual 57, 3) := by decide +kernel
theorem dX2_placeOfMatch_52 : decode cX2_placeOfMatch 52 = .ok (.ireturn, 1) := by decide +kernel
theorem dX2_comesBefore_0 : decode cX2_comesBefore 0 = .ok (.aload_n 0, 1) := by decide +kernel
theorem dX2_comesBefore_1 : decode cX2_comesBefore 1 = .ok (.getfield 12, 3) := by decide +kernel
theorem dX2_comesBefore_4 : decode cX2_comesBefore 4 = .ok (.iload_n 1, 1) := by decide +kernel
theorem dX2_comesBefore_5 : decode cX2_comesBefore 5 = .ok (.invokevirtual 29, 3) := by decide +kernel
theorem dX2_comesBefore_8 : decode cX2_comesBefore 8 = .ok (.checkcast 33, 3) := by decide +kernel
theorem dX2_comesBefore_11 : decode cX2_comesBefore 11 = .ok (.astore 5, 2) := by decide +kernel
theorem dX2_comesBefore_13 : decode cX2_comesBefore 13 = .ok (.aload_n 0, 1) := by decide +kernel
theorem dX2_comesBefore_14 : decode cX2_comesBefore 14 = .ok (.getfield 12, 3) := by decide +kernel
theorem dX2_comesBefore_17 : decode cX2_comesBefore 17 = .ok (.iload_n 3, 1) := by decide +kernel
theorem dX2_comesBefore_18 : decode cX2_comesBefore 18 = .ok (.invokevirtual 29, 3) := by decide +kernel
theorem dX2_comesBefore_21 : decode cX2_comesBefore 21 = .ok (.checkcast 33, 3) := by decide +kernel
theorem dX2_comesBefore_24 : decode cX2_comesBefore 24 = .ok (.astore 6, 2) := by decide +kernel
theorem dX2_comesBefore_26 : decode cX2_comesBefore 26 = .ok (.aload_n 0, 1) := by decide +kernel
theorem dX2_comesBefore_27 : decode cX2_comesBefore 27 = .ok (.getfield 46, 3) := by decide +kernel
theorem dX2_comesBefore_30 : decode cX2_comesBefore 30 = .ok (.iconst 2, 1) := by decide +kernel
theorem dX2_comesBefore_31 : decode cX2_comesBefore 31 = .ok (.if_icmp .ne 11, 3) := by decide +kernel
theorem dX2_comesBefore_34 : decode cX2_comesBefore 34 = .ok (.aload 5, 2) := by decide +kernel
theorem dX2_comesBefore_36 : decode cX2_comesBefore 36 = .ok (.aload 6, 2) := by decide +kernel
theorem dX2_comesBefore_38 : decode cX2_comesBefore 38 = .ok (.invokevirtual 61, 3) := by decide +kernel
theorem dX2_comesBefore_41 : decode cX2_comesBefore 41 = .ok (.ireturn, 1) := by decide +kernel
theorem dX2_comesBefore_42 : decode cX2_comesBefore 42 = .ok (.aload_n 0, 1) := by decide +kernel
theorem dX2_comesBefore_43 : decode cX2_comesBefore 43 = .ok (.getfield 46, 3) := by decide +kernel
theorem dX2_comesBefore_46 : decode cX2_comesBefore 46 = .ok (.iconst 1, 1) := by decide +kernel
theorem dX2_comesBefore_47 : decode cX2_comesBefore 47 = .ok (.if_icmp .ne 35, 3) := by decide +kernel
theorem dX2_comesBefore_50 : decode cX2_comesBefore 50 = .ok (.aload 5, 2) := by decide +kernel
theorem dX2_comesBefore_52 : decode cX2_comesBefore 52 = .ok (.getfield 64, 3) := by decide +kernel
theorem dX2_comesBefore_55 : decode cX2_comesBefore 55 = .ok (.aload 6, 2) := by decide +kernel
theorem dX2_comesBefore_57 : decode cX2_comesBefore 57 = .ok (.getfield 64, 3) := by decide +kernel
theorem dX2_comesBefore_60 : decode cX2_comesBefore 60 = .ok (.if_icmp .eq 22, 3) := by decide +kernel
theorem dX2_comesBefore_63 : decode cX2_comesBefore 63 = .ok (.aload 5, 2) := by decide +kernel
theorem dX2_comesBefore_65 : decode cX2_comesBefore 65 = .ok (.getfield 64, 3) := by decide +kernel
theorem dX2_comesBefore_68 : decode cX2_comesBefore 68 = .ok (.aload 6, 2) := by decide +kernel
theorem dX2_comesBefore_70 : decode cX2_comesBefore 70 = .ok (.getfield 64, 3) := by decide +kernel
theorem dX2_comesBefore_73 : decode cX2_comesBefore 73 = .ok (.if_icmp .le 7, 3) := by decide +kernel
theorem dX2_comesBefore_76 : decode cX2_comesBefore 76 = .ok (.iconst 1, 1) := by decide +kernel
theorem dX2_comesBefore_77 : decode cX2_comesBefore 77 = .ok (.goto 4, 3) := by decide +kernel
theorem dX2_comesBefore_80 : decode cX2_comesBefore 80 = .ok (.iconst 0, 1) := by decide +kernel
theorem dX2_comesBefore_81 : decode cX2_comesBefore 81 = .ok (.ireturn, 1) := by decide +kernel
theorem dX2_comesBefore_82 : decode cX2_comesBefore 82 = .ok (.iload_n 2, 1) := by decide +kernel
theorem dX2_comesBefore_83 : decode cX2_comesBefore 83 = .ok (.iload 4, 2) := by decide +kernel
theorem dX2_comesBefore_85 : decode cX2_comesBefore 85 = .ok (.if_icmp .eq 15, 3) := by decide +kernel
theorem dX2_comesBefore_88 : decode cX2_comesBefore 88 = .ok (.iload_n 2, 1) := by decide +kernel
theorem dX2_comesBefore_89 : decode cX2_comesBefore 89 = .ok (.iload 4, 2) := by decide +kernel
theorem dX2_comesBefore_91 : decode cX2_comesBefore 91 = .ok (.if_icmp .ge 7, 3) := by decide +kernel
theorem dX2_comesBefore_94 : decode cX2_comesBefore 94 = .ok (.iconst 1, 1) := by decide +kernel
theorem dX2_comesBefore_95 : decode cX2_comesBefore 95 = .ok (.goto 4, 3) := by decide +kernel
theorem dX2_comesBefore_98 : decode cX2_comesBefore 98 = .ok (.iconst 0, 1) := by decide +kernel
theorem dX2_comesBefore_99 : decode cX2_comesBefore 99 = .ok (.ireturn, 1) := by decide +kernel
theorem dX2_comesBefore_100 : decode cX2_comesBefore 100 = .ok (.aload 5, 2) := by decide +kernel
theorem dX2_comesBefore_102 : decode cX2_comesBefore 102 = .ok (.getfield 67, 3) := by decide +kernel
theorem dX2_comesBefore_105 : decode cX2_comesBefore 105 = .ok (.arraylength, 1) := by decide +kernel
theorem dX2_comesBefore_106 : decode cX2_comesBefore 106 = .ok (.aload 6, 2) := by decide +kernel
theorem dX2_comesBefore_108 : decode cX2_comesBefore 108 = .ok (.getfield 67, 3) := by decide +kernel
theorem dX2_comesBefore_111 : decode cX2_comesBefore 111 = .ok (.arraylength, 1) := by decide +kernel
theorem dX2_comesBefore_112 : decode cX2_comesBefore 112 = .ok (.if_icmp .eq 24, 3) := by decide +kernel
theorem dX2_comesBefore_115 : decode cX2_comesBefore 115 = .ok (.aload 5, 2) := by decide +kernel
theorem dX2_comesBefore_117 : decode cX2_comesBefore 117 = .ok (.getfield 67, 3) := by decide +kernel
theorem dX2_comesBefore_120 : decode cX2_comesBefore 120 = .ok (.arraylength, 1) := by decide +kernel
theorem dX2_comesBefore_121 : decode cX2_comesBefore 121 = .ok (.aload 6, 2) := by decide +kernel
theorem dX2_comesBefore_123 : decode cX2_comesBefore 123 = .ok (.getfield 67, 3) := by decide +kernel
theorem dX2_comesBefore_126 : decode cX2_comesBefore 126 = .ok (.arraylength, 1) := by decide +kernel
theorem dX2_comesBefore_127 : decode cX2_comesBefore 127 = .ok (.if_icmp .ge 7, 3) := by decide +kernel
theorem dX2_comesBefore_130 : decode cX2_comesBefore 130 = .ok (.iconst 1, 1) := by decide +kernel
theorem dX2_comesBefore_131 : decode cX2_comesBefore 131 = .ok (.goto 4, 3) := by decide +kernel
theorem dX2_comesBefore_134 : decode cX2_comesBefore 134 = .ok (.iconst 0, 1) := by decide +kernel
theorem dX2_comesBefore_135 : decode cX2_comesBefore 135 = .ok (.ireturn, 1) := by decide +kernel
theorem dX2_comesBefore_136 : decode cX2_comesBefore 136 = .ok (.iload_n 1, 1) := by decide +kernel
theorem dX2_comesBefore_137 : decode cX2_comesBefore 137 = .ok (.iload_n 3, 1) := by decide +kernel
theorem dX2_comesBefore_138 : decode cX2_comesBefore 138 = .ok (.if_icmp .ge 7, 3) := by decide +kernel
theorem dX2_comesBefore_141 : decode cX2_comesBefore 141 = .ok (.iconst 1, 1) := by decide +kernel
theorem dX2_comesBefore_142 : decode cX2_comesBefore 142 = .ok (.goto 4, 3) := by decide +kernel
theorem dX2_comesBefore_145 : decode cX2_comesBefore 145 = .ok (.iconst 0, 1) := by decide +kernel
theorem dX2_comesBefore_146 : decode cX2_comesBefore 146 = .ok (.ireturn, 1) := by decide +kernel
theorem dX3_init_0 : decode cX3_init 0 = .ok (.aload_n 0, 1) := by decide +kernel
theorem dX3_init_1 : decode cX3_init 1 = .ok (.invokespecial 3, 3) := by decide +kernel
theorem dX3_init_4 : decode cX3_init 4 = .ok (.aload_n 0, 1) := by decide +kernel
theorem dX3_init_5 : decode cX3_init 5 = .ok (.bipush 16, 2) := by decide +kernel
theorem dX3_init_7 : decode cX3_init 7 = .ok (.bipush 25, 2) := by decide +kernel
theorem dX3_init_9 : decode cX3_init 9 = .ok (.multianewarray 9 2, 4) := by decide +kernel
theorem dX3_init_13 : decode cX3_init 13 = .ok (.putfield 11, 3) := by decide +kernel
theorem dX3_init_16 : decode cX3_init 16 = .ok (.return_, 1) := by decide +kernel
theorem dX3_look_0 : decode cX3_look 0 = .ok (.aload_n 0, 1) := by decide +kernel
theorem dX3_look_1 : decode cX3_look 1 = .ok (.iconst 0, 1) := by decide +kernel
theorem dX3_look_2 : decode cX3_look 2 = .ok (.putfield 16, 3) := by decide +kernel
theorem dX3_look_5 : decode cX3_look 5 = .ok (.aload_n 0, 1) := by decide +kernel
theorem dX3_look_6 : decode cX3_look 6 = .ok (.iconst 0, 1) := by decide +kernel
theorem dX3_look_7 : decode cX3_look 7 = .ok (.putfield 20, 3) := by decide +kernel
theorem dX3_look_10 : decode cX3_look 10 = .ok (.aload_n 0, 1) := by decide +kernel
theorem dX3_look_11 : decode cX3_look 11 = .ok (.iconst 0, 1) := by decide +kernel
theorem dX3_look_12 : decode cX3_look 12 = .ok (.putfield 23, 3) := by decide +kernel
theorem dX3_look_15 : decode cX3_look 15 = .ok (.aload_n 0, 1) := by decide +kernel
theorem dX3_look_16 : decode cX3_look 16 = .ok (.iconst 0, 1) := by decide +kernel
theorem dX3_look_17 : decode cX3_look 17 = .ok (.putfield 26, 3) := by decide +kernel
theorem dX3_look_20 : decode cX3_look 20 = .ok (.aload_n 1, 1) := by decide +kernel
theorem dX3_look_21 : decode cX3_look 21 = .ok (.iload_n 2, 1) := by decide +kernel
theorem dX3_look_22 : decode cX3_look 22 = .ok (.invokevirtual 29, 3) := by decide +kernel
theorem dX3_look_25 : decode cX3_look 25 = .ok (.ifCond .ne 4, 3) := by decide +kernel
theorem dX3_look_28 : decode cX3_look 28 = .ok (.return_, 1) := by decide +kernel
theorem dX3_look_29 : decode cX3_look 29 = .ok (.aload_n 1, 1) := by decide +kernel
theorem dX3_look_30 : decode cX3_look 30 = .ok (.getfield 35, 3) := by decide +kernel
theorem dX3_look_33 : decode cX3_look 33 = .ok (.iload_n 2, 1) := by decide +kernel
theorem dX3_look_34 : decode cX3_look 34 = .ok (.invokevirtual 39, 3) := by decide +kernel
theorem dX3_look_37 : decode cX3_look 37 = .ok (.checkcast 45, 3) := by decide +kernel
theorem dX3_look_40 : decode cX3_look 40 = .ok (.astore_n 3, 1) := by decide +kernel
theorem dX3_look_41 : decode cX3_look 41 = .ok (.aload_n 3, 1) := by decide +kernel
theorem dX3_look_42 : decode cX3_look 42 = .ok (.aload_n 1, 1) := by decide +kernel
theorem dX3_look_43 : decode cX3_look 43 = .ok (.getfield 47, 3) := by decide +kernel
theorem dX3_look_46 : decode cX3_look 46 = .ok (.invokevirtual 50, 3) := by decide +kernel
theorem dX3_look_49 : decode cX3_look 49 = .ok (.astore 4, 2) := by decide +kernel
theorem dX3_look_51 : decode cX3_look 51 = .ok (.iconst 0, 1) := by decide +kernel
theorem dX3_look_52 : decode cX3_look 52 = .ok (.istore 5, 2) := by decide +kernel
theorem dX3_look_54 : decode cX3_look 54 = .ok (.iload 5, 2) := by decide +kernel
theorem dX3_look_56 : decode cX3_look 56 = .ok (.aload 4, 2) := by decide +kernel
theorem dX3_look_58 : decode cX3_look 58 = .ok (.arraylength, 1) := by decide +kernel
theorem dX3_look_59 : decode cX3_look 59 = .ok (.if_icmp .ge 32, 3) := by decide +kernel
theorem dX3_look_62 : decode cX3_look 62 = .ok (.aload_n 3, 1) := by decide +kernel
theorem dX3_look_63 : decode cX3_look 63 = .ok (.aload_n 1, 1) := by decide +kernel
theorem dX3_look_64 : decode cX3_look 64 = .ok (.getfield 47, 3) := by decide +kernel
theorem dX3_look_67 : decode cX3_look 67 = .ok (.iload 5, 2) := by decide +kernel
theorem dX3_look_69 : decode cX3_look 69 = .ok (.invokevirtual 54, 3) := by decide +kernel
theorem dX3_look_72 : decode cX3_look 72 = .ok (.ifCond .eq 13, 3) := by decide +kernel
theorem dX3_look_75 : decode cX3_look 75 = .ok (.aload_n 0, 1) := by decide +kernel
theorem dX3_look_76 : decode cX3_look 76 = .ok (.iload 5, 2) := by decide +kernel
theorem dX3_look_78 : decode cX3_look 78 = .ok (.aload 4, 2) := by decide +kernel
theorem dX3_look_80 : decode cX3_look 80 = .ok (.aload_n 1, 1) := by decide +kernel
theorem dX3_look_81 : decode cX3_look 81 = .ok (.iload_n 2, 1) := by decide +kernel
theorem dX3_look_82 : decode cX3_look 82 = .ok (.invokevirtual 58, 3) := by decide +kernel
theorem dX3_look_85 : decode cX3_look 85 = .ok (.iinc 5 1, 3) := by decide +kernel
theorem dX3_look_88 : decode cX3_look 88 = .ok (.goto (-34), 3) := by decide +kernel
theorem dX3_look_91 : decode cX3_look 91 = .ok (.return_, 1) := by decide +kernel
theorem dX3_hasKey_0 : decode cX3_hasKey 0 = .ok (.aload_n 0, 1) := by decide +kernel
theorem dX3_hasKey_1 : decode cX3_hasKey 1 = .ok (.getfield 20, 3) := by decide +kernel
theorem dX3_hasKey_4 : decode cX3_hasKey 4 = .ok (.ifCond .le 7, 3) := by decide +kernel
theorem dX3_hasKey_7 : decode cX3_hasKey 7 = .ok (.iconst 1, 1) := by decide +kernel
theorem dX3_hasKey_8 : decode cX3_hasKey 8 = .ok (.goto 4, 3) := by decide +kernel
theorem dX3_hasKey_11 : decode cX3_hasKey 11 = .ok (.iconst 0, 1) := by decide +kernel
theorem dX3_hasKey_12 : decode cX3_hasKey 12 = .ok (.ireturn, 1) := by decide +kernel
theorem dX3_hasShortcut_0 : decode cX3_hasShortcut 0 = .ok (.aload_n 0, 1) := by decide +kernel
theorem dX3_hasShortcut_1 : decode cX3_hasShortcut 1 = .ok (.getfield 26, 3) := by decide +kernel
theorem dX3_hasShortcut_4 : decode cX3_hasShortcut 4 = .ok (.ifCond .le 7, 3) := by decide +kernel
theorem dX3_hasShortcut_7 : decode cX3_hasShortcut 7 = .ok (.iconst 1, 1) := by decide +kernel
theorem dX3_hasShortcut_8 : decode cX3_hasShortcut 8 = .ok (.goto 4, 3) := by decide +kernel
theorem dX3_hasShortcut_11 : decode cX3_hasShortcut 11 = .ok (.iconst 0, 1) := by decide +kernel
theorem dX3_hasShortcut_12 : decode cX3_hasShortcut 12 = .ok (.ireturn, 1) := by decide +kernel
theorem dX3_lookAtPiecesFrom_0 : decode cX3_lookAtPiecesFrom 0 = .ok (.aload_n 2, 1) := by decide +kernel
theorem dX3_lookAtPiecesFrom_1 : decode cX3_lookAtPiecesFrom 1 = .ok (.arraylength, 1) := by decide +kernel
theorem dX3_lookAtPiecesFrom_2 : decode cX3_lookAtPiecesFrom 2 = .ok (.iload_n 1, 1) := by decide +kernel
theorem dX3_lookAtPiecesFrom_3 : decode cX3_lookAtPiecesFrom 3 = .ok (.isub, 1) := by decide +kernel
theorem dX3_lookAtPiecesFrom_4 : decode cX3_lookAtPiecesFrom 4 = .ok (.aload_n 0, 1) := by decide +kernel
theorem dX3_lookAtPiecesFrom_5 : decode cX3_lookAtPiecesFrom 5 = .ok (.invokevirtual 62, 3) := by decide +kernel
theorem dX3_lookAtPiecesFrom_8 : decode cX3_lookAtPiecesFrom 8 = .ok (.invokestatic 66, 3) := by decide +kernel
theorem dX3_lookAtPiecesFrom_11 : decode cX3_lookAtPiecesFrom 11 = .ok (.istore 5, 2) := by decide +kernel
theorem dX3_lookAtPiecesFrom_13 : decode cX3_lookAtPiecesFrom 13 = .ok (.iconst 0, 1) := by decide +kernel
theorem dX3_lookAtPiecesFrom_14 : decode cX3_lookAtPiecesFrom 14 = .ok (.istore 6, 2) := by decide +kernel
theorem dX3_lookAtPiecesFrom_16 : decode cX3_lookAtPiecesFrom 16 = .ok (.iload 6, 2) := by decide +kernel
theorem dX3_lookAtPiecesFrom_18 : decode cX3_lookAtPiecesFrom 18 = .ok (.aload_n 3, 1) := by decide +kernel
theorem dX3_lookAtPiecesFrom_19 : decode cX3_lookAtPiecesFrom 19 = .ok (.getfield 35, 3) := by decide +kernel
theorem dX3_lookAtPiecesFrom_22 : decode cX3_lookAtPiecesFrom 22 = .ok (.invokevirtual 72, 3) := by decide +kernel
theorem dX3_lookAtPiecesFrom_25 : decode cX3_lookAtPiecesFrom 25 = .ok (.if_icmp .ge 49, 3) := by decide +kernel
theorem dX3_lookAtPiecesFrom_28 : decode cX3_lookAtPiecesFrom 28 = .ok (.iload 6, 2) := by decide +kernel
theorem dX3_lookAtPiecesFrom_30 : decode cX3_lookAtPiecesFrom 30 = .ok (.aload_n 0, 1) := by decide +kernel
theorem dX3_lookAtPiecesFrom_31 : decode cX3_lookAtPiecesFrom 31 = .ok (.getfield 11, 3) := by decide +kernel
theorem dX3_lookAtPiecesFrom_34 : decode cX3_lookAtPiecesFrom 34 = .ok (.arraylength, 1) := by decide +kernel
theorem dX3_lookAtPiecesFrom_35 : decode cX3_lookAtPiecesFrom 35 = .ok (.if_icmp .ge 39, 3) := by decide +kernel
theorem dX3_lookAtPiecesFrom_38 : decode cX3_lookAtPiecesFrom 38 = .ok (.aload_n 0, 1) := by decide +kernel
theorem dX3_lookAtPiecesFrom_39 : decode cX3_lookAtPiecesFrom 39 = .ok (.getfield 11, 3) := by decide +kernel
theorem dX3_lookAtPiecesFrom_42 : decode cX3_lookAtPiecesFrom 42 = .ok (.iload 6, 2) := by decide +kernel
theorem dX3_lookAtPiecesFrom_44 : decode cX3_lookAtPiecesFrom 44 = .ok (.aaload, 1) := by decide +kernel
theorem dX3_lookAtPiecesFrom_45 : decode cX3_lookAtPiecesFrom 45 = .ok (.iload 5, 2) := by decide +kernel
theorem dX3_lookAtPiecesFrom_47 : decode cX3_lookAtPiecesFrom 47 = .ok (.aload_n 2, 1) := by decide +kernel
theorem dX3_lookAtPiecesFrom_48 : decode cX3_lookAtPiecesFrom 48 = .ok (.iload_n 1, 1) := by decide +kernel
theorem dX3_lookAtPiecesFrom_49 : decode cX3_lookAtPiecesFrom 49 = .ok (.aload_n 3, 1) := by decide +kernel
theorem dX3_lookAtPiecesFrom_50 : decode cX3_lookAtPiecesFrom 50 = .ok (.getfield 35, 3) := by decide +kernel
theorem dX3_lookAtPiecesFrom_53 : decode cX3_lookAtPiecesFrom 53 = .ok (.iload 6, 2) := by decide +kernel
theorem dX3_lookAtPiecesFrom_55 : decode cX3_lookAtPiecesFrom 55 = .ok (.invokevirtual 39, 3) := by decide +kernel
theorem dX3_lookAtPiecesFrom_58 : decode cX3_lookAtPiecesFrom 58 = .ok (.checkcast 45, 3) := by decide +kernel
theorem dX3_lookAtPiecesFrom_61 : decode cX3_lookAtPiecesFrom 61 = .ok (.aload_n 3, 1) := by decide +kernel
theorem dX3_lookAtPiecesFrom_62 : decode cX3_lookAtPiecesFrom 62 = .ok (.getfield 47, 3) := by decide +kernel
theorem dX3_lookAtPiecesFrom_65 : decode cX3_lookAtPiecesFrom 65 = .ok (.invokestatic 75, 3) := by decide +kernel
theorem dX3_lookAtPiecesFrom_68 : decode cX3_lookAtPiecesFrom 68 = .ok (.iinc 6 1, 3) := by decide +kernel
theorem dX3_lookAtPiecesFrom_71 : decode cX3_lookAtPiecesFrom 71 = .ok (.goto (-55), 3) := by decide +kernel
theorem dX3_lookAtPiecesFrom_74 : decode cX3_lookAtPiecesFrom 74 = .ok (.iconst 1, 1) := by decide +kernel
theorem dX3_lookAtPiecesFrom_75 : decode cX3_lookAtPiecesFrom 75 = .ok (.istore 6, 2) := by decide +kernel
theorem dX3_lookAtPiecesFrom_77 : decode cX3_lookAtPiecesFrom 77 = .ok (.iload 6, 2) := by decide +kernel
theorem dX3_lookAtPiecesFrom_79 : decode cX3_lookAtPiecesFrom 79 = .ok (.iload 5, 2) := by decide +kernel
theorem dX3_lookAtPiecesFrom_81 : decode cX3_lookAtPiecesFrom 81 = .ok (.if_icmp .gt 103, 3) := by decide +kernel
theorem dX3_lookAtPiecesFrom_84 : decode cX3_lookAtPiecesFrom 84 = .ok (.aload_n 2, 1) := by decide +kernel
theorem dX3_lookAtPiecesFrom_85 : decode cX3_lookAtPiecesFrom 85 = .ok (.iload_n 1, 1) := by decide +kernel
theorem dX3_lookAtPiecesFrom_86 : decode cX3_lookAtPiecesFrom 86 = .ok (.iload 6, 2) := by decide +kernel
theorem dX3_lookAtPiecesFrom_88 : decode cX3_lookAtPiecesFrom 88 = .ok (.iadd, 1) := by decide +kernel
theorem dX3_lookAtPiecesFrom_89 : decode cX3_lookAtPiecesFrom 89 = .ok (.iconst 1, 1) := by decide +kernel
theorem dX3_lookAtPiecesFrom_90 : decode cX3_lookAtPiecesFrom 90 = .ok (.isub, 1) := by decide +kernel
theorem dX3_lookAtPiecesFrom_91 : decode cX3_lookAtPiecesFrom 91 = .ok (.caload, 1) := by decide +kernel
theorem dX3_lookAtPiecesFrom_92 : decode cX3_lookAtPiecesFrom 92 = .ok (.bipush 32, 2) := by decide +kernel
theorem dX3_lookAtPiecesFrom_94 : decode cX3_lookAtPiecesFrom 94 = .ok (.if_icmp .ne 6, 3) := by decide +kernel
theorem dX3_lookAtPiecesFrom_97 : decode cX3_lookAtPiecesFrom 97 = .ok (.goto 81, 3) := by decide +kernel
theorem dX3_lookAtPiecesFrom_100 : decode cX3_lookAtPiecesFrom 100 = .ok (.aload_n 0, 1) := by decide +kernel
theorem dX3_lookAtPiecesFrom_101 : decode cX3_lookAtPiecesFrom 101 = .ok (.invokevirtual 79, 3) := by decide +kernel
theorem dX3_lookAtPiecesFrom_104 : decode cX3_lookAtPiecesFrom 104 = .ok (.ifCond .eq 12, 3) := by decide +kernel
theorem dX3_lookAtPiecesFrom_107 : decode cX3_lookAtPiecesFrom 107 = .ok (.iload 6, 2) := by decide +kernel
theorem dX3_lookAtPiecesFrom_109 : decode cX3_lookAtPiecesFrom 109 = .ok (.aload_n 0, 1) := by decide +kernel
theorem dX3_lookAtPiecesFrom_110 : decode cX3_lookAtPiecesFrom 110 = .ok (.getfield 20, 3) := by decide +kernel
theorem dX3_lookAtPiecesFrom_113 : decode cX3_lookAtPiecesFrom 113 = .ok (.if_icmp .ge 26, 3) := by decide +kernel
theorem dX3_lookAtPiecesFrom_116 : decode cX3_lookAtPiecesFrom 116 = .ok (.aload_n 0, 1) := by decide +kernel
theorem dX3_lookAtPiecesFrom_117 : decode cX3_lookAtPiecesFrom 117 = .ok (.iload 6, 2) := by decide +kernel
theorem dX3_lookAtPiecesFrom_119 : decode cX3_lookAtPiecesFrom 119 = .ok (.aload_n 3, 1) := by decide +kernel
theorem dX3_lookAtPiecesFrom_120 : decode cX3_lookAtPiecesFrom 120 = .ok (.iload 4, 2) := by decide +kernel
theorem dX3_lookAtPiecesFrom_122 : decode cX3_lookAtPiecesFrom 122 = .ok (.invokevirtual 83, 3) := by decide +kernel
theorem dX3_lookAtPiecesFrom_125 : decode cX3_lookAtPiecesFrom 125 = .ok (.ifCond .eq 14, 3) := by decide +kernel
theorem dX3_lookAtPiecesFrom_128 : decode cX3_lookAtPiecesFrom 128 = .ok (.aload_n 0, 1) := by decide +kernel
theorem dX3_lookAtPiecesFrom_129 : decode cX3_lookAtPiecesFrom 129 = .ok (.iload_n 1, 1) := by decide +kernel
theorem dX3_lookAtPiecesFrom_130 : decode cX3_lookAtPiecesFrom 130 = .ok (.putfield 16, 3) := by decide +kernel
theorem dX3_lookAtPiecesFrom_133 : decode cX3_lookAtPiecesFrom 133 = .ok (.aload_n 0, 1) := by decide +kernel
theorem dX3_lookAtPiecesFrom_134 : decode cX3_lookAtPiecesFrom 134 = .ok (.iload 6, 2) := by decide +kernel
theorem dX3_lookAtPiecesFrom_136 : decode cX3_lookAtPiecesFrom 136 = .ok (.putfield 20, 3) := by decide +kernel
theorem dX3_lookAtPiecesFrom_139 : decode cX3_lookAtPiecesFrom 139 = .ok (.aload_n 0, 1) := by decide +kernel
theorem dX3_lookAtPiecesFrom_140 : decode cX3_lookAtPiecesFrom 140 = .ok (.invokevirtual 87, 3) := by decide +kernel
theorem dX3_lookAtPiecesFrom_143 : decode cX3_lookAtPiecesFrom 143 = .ok (.ifCond .eq 12, 3) := by decide +kernel
theorem dX3_lookAtPiecesFrom_146 : decode cX3_lookAtPiecesFrom 146 = .ok (.iload 6, 2) := by decide +kernel
theorem dX3_lookAtPiecesFrom_148 : decode cX3_lookAtPiecesFrom 148 = .ok (.aload_n 0, 1) := by decide +kernel
theorem dX3_lookAtPiecesFrom_149 : decode cX3_lookAtPiecesFrom 149 = .ok (.getfield 26, 3) := by decide +kernel
theorem dX3_lookAtPiecesFrom_152 : decode cX3_lookAtPiecesFrom 152 = .ok (.if_icmp .ge 26, 3) := by decide +kernel
theorem dX3_lookAtPiecesFrom_155 : decode cX3_lookAtPiecesFrom 155 = .ok (.aload_n 0, 1) := by decide +kernel
theorem dX3_lookAtPiecesFrom_156 : decode cX3_lookAtPiecesFrom 156 = .ok (.iload 6, 2) := by decide +kernel
theorem dX3_lookAtPiecesFrom_158 : decode cX3_lookAtPiecesFrom 158 = .ok (.aload_n 3, 1) := by decide +kernel
theorem dX3_lookAtPiecesFrom_159 : decode cX3_lookAtPiecesFrom 159 = .ok (.iload 4, 2) := by decide +kernel
theorem dX3_lookAtPiecesFrom_161 : decode cX3_lookAtPiecesFrom 161 = .ok (.invokevirtual 90, 3) := by decide +kernel
theorem dX3_lookAtPiecesFrom_164 : decode cX3_lookAtPiecesFrom 164 = .ok (.ifCond .eq 14, 3) := by decide +kernel
theorem dX3_lookAtPiecesFrom_167 : decode cX3_lookAtPiecesFrom 167 = .ok (.aload_n 0, 1) := by decide +kernel
theorem dX3_lookAtPiecesFrom_168 : decode cX3_lookAtPiecesFrom 168 = .ok (.iload_n 1, 1) := by decide +kernel
theorem dX3_lookAtPiecesFrom_169 : decode cX3_lookAtPiecesFrom 169 = .ok (.putfield 23, 3) := by decide +kernel
theorem dX3_lookAtPiecesFrom_172 : decode cX3_lookAtPiecesFrom 172 = .ok (.aload_n 0, 1) := by decide +kernel
theorem dX3_lookAtPiecesFrom_173 : decode cX3_lookAtPiecesFrom 173 = .ok (.iload 6, 2) := by decide +kernel
theorem dX3_lookAtPiecesFrom_175 : decode cX3_lookAtPiecesFrom 175 = .ok (.putfield 26, 3) := by decide +kernel
theorem dX3_lookAtPiecesFrom_178 : decode cX3_lookAtPiecesFrom 178 = .ok (.iinc 6 1, 3) := by decide +kernel
theorem dX3_lookAtPiecesFrom_181 : decode cX3_lookAtPiecesFrom 181 = .ok (.goto (-104), 3) := by decide +kernel
theorem dX3_lookAtPiecesFrom_184 : decode cX3_lookAtPiecesFrom 184 = .ok (.return_, 1) := by decide +kernel
theorem dX3_longestWanted_0 : decode cX3_longestWanted 0 = .ok (.aload_n 0, 1) := by decide +kernel
theorem dX3_longestWanted_1 : decode cX3_longestWanted 1 = .ok (.invokevirtual 79, 3) := by decide +kernel
theorem dX3_longestWanted_4 : decode cX3_longestWanted 4 = .ok (.ifCond .eq 10, 3) := by decide +kernel
theorem dX3_longestWanted_7 : decode cX3_longestWanted 7 = .ok (.aload_n 0, 1) := by decide +kernel
theorem dX3_longestWanted_8 : decode cX3_longestWanted 8 = .ok (.invokevirtual 87, 3) := by decide +kernel
theorem dX3_longestWanted_11 : decode cX3_longestWanted 11 = .ok (.ifCond .ne 6, 3) := by decide +kernel
theorem dX3_longestWanted_14 : decode cX3_longestWanted 14 = .ok (.bipush 24, 2) := by decide +kernel
theorem dX3_longestWanted_16 : decode cX3_longestWanted 16 = .ok (.ireturn, 1) := by decide +kernel
theorem dX3_longestWanted_17 : decode cX3_longestWanted 17 = .ok (.aload_n 0, 1) := by decide +kernel
theorem dX3_longestWanted_18 : decode cX3_longestWanted 18 = .ok (.getfield 20, 3) := by decide +kernel
theorem dX3_longestWanted_21 : decode cX3_longestWanted 21 = .ok (.aload_n 0, 1) := by decide +kernel
theorem dX3_longestWanted_22 : decode cX3_longestWanted 22 = .ok (.getfield 26, 3) := by decide +kernel
theorem dX3_longestWanted_25 : decode cX3_longestWanted 25 = .ok (.invokestatic 93, 3) := by decide +kernel
theorem dX3_longestWanted_28 : decode cX3_longestWanted 28 = .ok (.iconst 1, 1) := by decide +kernel
theorem dX3_longestWanted_29 : decode cX3_longestWanted 29 = .ok (.isub, 1) := by decide +kernel
theorem dX3_longestWanted_30 : decode cX3_longestWanted 30 = .ok (.ireturn, 1) := by decide +kernel
theorem dX3_findPlaces_0 : decode cX3_findPlaces 0 = .ok (.aload 4, 2) := by decide +kernel
theorem dX3_findPlaces_2 : decode cX3_findPlaces 2 = .ok (.iload 5, 2) := by decide +kernel
theorem dX3_findPlaces_4 : decode cX3_findPlaces 4 = .ok (.invokevirtual 50, 3) := by decide +kernel
theorem dX3_findPlaces_7 : decode cX3_findPlaces 7 = .ok (.astore 6, 2) := by decide +kernel
theorem dX3_findPlaces_9 : decode cX3_findPlaces 9 = .ok (.iconst 0, 1) := by decide +kernel
theorem dX3_findPlaces_10 : decode cX3_findPlaces 10 = .ok (.istore 7, 2) := by decide +kernel
theorem dX3_findPlaces_12 : decode cX3_findPlaces 12 = .ok (.iconst 0, 1) := by decide +kernel
theorem dX3_findPlaces_13 : decode cX3_findPlaces 13 = .ok (.istore 8, 2) := by decide +kernel
theorem dX3_findPlaces_15 : decode cX3_findPlaces 15 = .ok (.iload 8, 2) := by decide +kernel
theorem dX3_findPlaces_17 : decode cX3_findPlaces 17 = .ok (.aload 6, 2) := by decide +kernel
theorem dX3_findPlaces_19 : decode cX3_findPlaces 19 = .ok (.arraylength, 1) := by decide +kernel
theorem dX3_findPlaces_20 : decode cX3_findPlaces 20 = .ok (.if_icmp .ge 78, 3) := by decide +kernel
theorem dX3_findPlaces_23 : decode cX3_findPlaces 23 = .ok (.iload 7, 2) := by decide +kernel
theorem dX3_findPlaces_25 : decode cX3_findPlaces 25 = .ok (.iload_n 1, 1) := by decide +kernel
theorem dX3_findPlaces_26 : decode cX3_findPlaces 26 = .ok (.if_icmp .ge 72, 3) := by decide +kernel
theorem dX3_findPlaces_29 : decode cX3_findPlaces 29 = .ok (.aload 6, 2) := by decide +kernel
theorem dX3_findPlaces_31 : decode cX3_findPlaces 31 = .ok (.iload 8, 2) := by decide +kernel
theorem dX3_findPlaces_33 : decode cX3_findPlaces 33 = .ok (.caload, 1) := by decide +kernel
theorem dX3_findPlaces_34 : decode cX3_findPlaces 34 = .ok (.aload_n 2, 1) := by decide +kernel
theorem dX3_findPlaces_35 : decode cX3_findPlaces 35 = .ok (.iload_n 3, 1) := by decide +kernel
theorem dX3_findPlaces_36 : decode cX3_findPlaces 36 = .ok (.caload, 1) := by decide +kernel
theorem dX3_findPlaces_37 : decode cX3_findPlaces 37 = .ok (.if_icmp .ne 55, 3) := by decide +kernel
theorem dX3_findPlaces_40 : decode cX3_findPlaces 40 = .ok (.aload 4, 2) := by decide +kernel
theorem dX3_findPlaces_42 : decode cX3_findPlaces 42 = .ok (.iload 5, 2) := by decide +kernel
theorem dX3_findPlaces_44 : decode cX3_findPlaces 44 = .ok (.iload 8, 2) := by decide +kernel
theorem dX3_findPlaces_46 : decode cX3_findPlaces 46 = .ok (.invokevirtual 54, 3) := by decide +kernel
theorem dX3_findPlaces_49 : decode cX3_findPlaces 49 = .ok (.ifCond .eq 43, 3) := by decide +kernel
theorem dX3_findPlaces_52 : decode cX3_findPlaces 52 = .ok (.aload_n 2, 1) := by decide +kernel
theorem dX3_findPlaces_53 : decode cX3_findPlaces 53 = .ok (.iload_n 3, 1) := by decide +kernel
theorem dX3_findPlaces_54 : decode cX3_findPlaces 54 = .ok (.aload 6, 2) := by decide +kernel
theorem dX3_findPlaces_56 : decode cX3_findPlaces 56 = .ok (.iload 8, 2) := by decide +kernel
theorem dX3_findPlaces_58 : decode cX3_findPlaces 58 = .ok (.iload_n 1, 1) := by decide +kernel
theorem dX3_findPlaces_59 : decode cX3_findPlaces 59 = .ok (.invokestatic 96, 3) := by decide +kernel
theorem dX3_findPlaces_62 : decode cX3_findPlaces 62 = .ok (.istore 9, 2) := by decide +kernel
theorem dX3_findPlaces_64 : decode cX3_findPlaces 64 = .ok (.iload 7, 2) := by decide +kernel
theorem dX3_findPlaces_66 : decode cX3_findPlaces 66 = .ok (.iload 9, 2) := by decide +kernel
theorem dX3_findPlaces_68 : decode cX3_findPlaces 68 = .ok (.if_icmp .ge 24, 3) := by decide +kernel
theorem dX3_findPlaces_71 : decode cX3_findPlaces 71 = .ok (.iload 7, 2) := by decide +kernel
theorem dX3_findPlaces_73 : decode cX3_findPlaces 73 = .ok (.iconst 1, 1) := by decide +kernel
theorem dX3_findPlaces_74 : decode cX3_findPlaces 74 = .ok (.iadd, 1) := by decide +kernel
theorem dX3_findPlaces_75 : decode cX3_findPlaces 75 = .ok (.aload_n 0, 1) := by decide +kernel
theorem dX3_findPlaces_76 : decode cX3_findPlaces 76 = .ok (.arraylength, 1) := by decide +kernel
theorem dX3_findPlaces_77 : decode cX3_findPlaces 77 = .ok (.if_icmp .ge 15, 3) := by decide +kernel
theorem dX3_findPlaces_80 : decode cX3_findPlaces 80 = .ok (.iinc 7 1, 3) := by decide +kernel
theorem dX3_findPlaces_83 : decode cX3_findPlaces 83 = .ok (.aload_n 0, 1) := by decide +kernel
theorem dX3_findPlaces_84 : decode cX3_findPlaces 84 = .ok (.iload 7, 2) := by decide +kernel
theorem dX3_findPlaces_86 : decode cX3_findPlaces 86 = .ok (.iload 8, 2) := by decide +kernel
theorem dX3_findPlaces_88 : decode cX3_findPlaces 88 = .ok (.iastore, 1) := by decide +kernel
theorem dX3_findPlaces_89 : decode cX3_findPlaces 89 = .ok (.goto (-25), 3) := by decide +kernel
theorem dX3_findPlaces_92 : decode cX3_findPlaces 92 = .ok (.iinc 8 1, 3) := by decide +kernel
theorem dX3_findPlaces_95 : decode cX3_findPlaces 95 = .ok (.goto (-80), 3) := by decide +kernel
theorem dX3_findPlaces_98 : decode cX3_findPlaces 98 = .ok (.iload 7, 2) := by decide +kernel
theorem dX3_findPlaces_100 : decode cX3_findPlaces 100 = .ok (.iconst 1, 1) := by decide +kernel
theorem dX3_findPlaces_101 : decode cX3_findPlaces 101 = .ok (.iadd, 1) := by decide +kernel
theorem dX3_findPlaces_102 : decode cX3_findPlaces 102 = .ok (.istore 8, 2) := by decide +kernel
theorem dX3_findPlaces_104 : decode cX3_findPlaces 104 = .ok (.iload 8, 2) := by decide +kernel
theorem dX3_findPlaces_106 : decode cX3_findPlaces 106 = .ok (.iload_n 1, 1) := by decide +kernel
theorem dX3_findPlaces_107 : decode cX3_findPlaces 107 = .ok (.if_icmp .gt 22, 3) := by decide +kernel
theorem dX3_findPlaces_110 : decode cX3_findPlaces 110 = .ok (.iload 8, 2) := by decide +kernel
theorem dX3_findPlaces_112 : decode cX3_findPlaces 112 = .ok (.aload_n 0, 1) := by decide +kernel
theorem dX3_findPlaces_113 : decode cX3_findPlaces 113 = .ok (.arraylength, 1) := by decide +kernel
theorem dX3_findPlaces_114 : decode cX3_findPlaces 114 = .ok (.if_icmp .ge 15, 3) := by decide +kernel
theorem dX3_findPlaces_117 : decode cX3_findPlaces 117 = .ok (.aload_n 0, 1) := by decide +kernel
theorem dX3_findPlaces_118 : decode cX3_findPlaces 118 = .ok (.iload 8, 2) := by decide +kernel
theorem dX3_findPlaces_120 : decode cX3_findPlaces 120 = .ok (.bipush (-6), 2) := by decide +kernel
theorem dX3_findPlaces_122 : decode cX3_findPlaces 122 = .ok (.iastore, 1) := by decide +kernel
theorem dX3_findPlaces_123 : decode cX3_findPlaces 123 = .ok (.iinc 8 1, 3) := by decide +kernel
theorem dX3_findPlaces_126 : decode cX3_findPlaces 126 = .ok (.goto (-22), 3) := by decide +kernel
theorem dX3_findPlaces_129 : decode cX3_findPlaces 129 = .ok (.return_, 1) := by decide +kernel
theorem dX3_isKnownBy_0 : decode cX3_isKnownBy 0 = .ok (.iconst 0, 1) := by decide +kernel
theorem dX3_isKnownBy_1 : decode cX3_isKnownBy 1 = .ok (.istore 4, 2) := by decide +kernel
theorem dX3_isKnownBy_3 : decode cX3_isKnownBy 3 = .ok (.iload 4, 2) := by decide +kernel
theorem dX3_isKnownBy_5 : decode cX3_isKnownBy 5 = .ok (.aload_n 2, 1) := by decide +kernel
theorem dX3_isKnownBy_6 : decode cX3_isKnownBy 6 = .ok (.getfield 35, 3) := by decide +kernel
theorem dX3_isKnownBy_9 : decode cX3_isKnownBy 9 = .ok (.invokevirtual 72, 3) := by decide +kernel
theorem dX3_isKnownBy_12 : decode cX3_isKnownBy 12 = .ok (.if_icmp .ge 27, 3) := by decide +kernel
theorem dX3_isKnownBy_15 : decode cX3_isKnownBy 15 = .ok (.iload 4, 2) := by decide +kernel
theorem dX3_isKnownBy_17 : decode cX3_isKnownBy 17 = .ok (.iload_n 3, 1) := by decide +kernel
theorem dX3_isKnownBy_18 : decode cX3_isKnownBy 18 = .ok (.if_icmp .eq 15, 3) := by decide +kernel
theorem dX3_isKnownBy_21 : decode cX3_isKnownBy 21 = .ok (.aload_n 0, 1) := by decide +kernel
theorem dX3_isKnownBy_22 : decode cX3_isKnownBy 22 = .ok (.iload 4, 2) := by decide +kernel
theorem dX3_isKnownBy_24 : decode cX3_isKnownBy 24 = .ok (.iload_n 1, 1) := by decide +kernel
theorem dX3_isKnownBy_25 : decode cX3_isKnownBy 25 = .ok (.invokevirtual 100, 3) := by decide +kernel
theorem dX3_isKnownBy_28 : decode cX3_isKnownBy 28 = .ok (.ifCond .lt 5, 3) := by decide +kernel
theorem dX3_isKnownBy_31 : decode cX3_isKnownBy 31 = .ok (.iconst 0, 1) := by decide +kernel
theorem dX3_isKnownBy_32 : decode cX3_isKnownBy 32 = .ok (.ireturn, 1) := by decide +kernel
theorem dX3_isKnownBy_33 : decode cX3_isKnownBy 33 = .ok (.iinc 4 1, 3) := by decide +kernel
theorem dX3_isKnownBy_36 : decode cX3_isKnownBy 36 = .ok (.goto (-33), 3) := by decide +kernel
theorem dX3_isKnownBy_39 : decode cX3_isKnownBy 39 = .ok (.iconst 1, 1) := by decide +kernel
theorem dX3_isKnownBy_40 : decode cX3_isKnownBy 40 = .ok (.ireturn, 1) := by decide +kernel
theorem dX3_isFirstFor_0 : decode cX3_isFirstFor 0 = .ok (.aload_n 0, 1) := by decide +kernel
theorem dX3_isFirstFor_1 : decode cX3_isFirstFor 1 = .ok (.iload_n 3, 1) := by decide +kernel
theorem dX3_isFirstFor_2 : decode cX3_isFirstFor 2 = .ok (.iload_n 1, 1) := by decide +kernel
theorem dX3_isFirstFor_3 : decode cX3_isFirstFor 3 = .ok (.invokevirtual 100, 3) := by decide +kernel
theorem dX3_isFirstFor_6 : decode cX3_isFirstFor 6 = .ok (.istore 4, 2) := by decide +kernel
theorem dX3_isFirstFor_8 : decode cX3_isFirstFor 8 = .ok (.iconst 0, 1) := by decide +kernel
theorem dX3_isFirstFor_9 : decode cX3_isFirstFor 9 = .ok (.istore 5, 2) := by decide +kernel
theorem dX3_isFirstFor_11 : decode cX3_isFirstFor 11 = .ok (.iload 5, 2) := by decide +kernel
theorem dX3_isFirstFor_13 : decode cX3_isFirstFor 13 = .ok (.aload_n 2, 1) := by decide +kernel
theorem dX3_isFirstFor_14 : decode cX3_isFirstFor 14 = .ok (.getfield 35, 3) := by decide +kernel
theorem dX3_isFirstFor_17 : decode cX3_isFirstFor 17 = .ok (.invokevirtual 72, 3) := by decide +kernel
theorem dX3_isFirstFor_20 : decode cX3_isFirstFor 20 = .ok (.if_icmp .ge 45, 3) := by decide +kernel
theorem dX3_isFirstFor_23 : decode cX3_isFirstFor 23 = .ok (.aload_n 0, 1) := by decide +kernel
theorem dX3_isFirstFor_24 : decode cX3_isFirstFor 24 = .ok (.iload 5, 2) := by decide +kernel
theorem dX3_isFirstFor_26 : decode cX3_isFirstFor 26 = .ok (.iload_n 1, 1) := by decide +kernel
theorem dX3_isFirstFor_27 : decode cX3_isFirstFor 27 = .ok (.invokevirtual 100, 3) := by decide +kernel
theorem dX3_isFirstFor_30 : decode cX3_isFirstFor 30 = .ok (.istore 6, 2) := by decide +kernel
theorem dX3_isFirstFor_32 : decode cX3_isFirstFor 32 = .ok (.iload 5, 2) := by decide +kernel
theorem dX3_isFirstFor_34 : decode cX3_isFirstFor 34 = .ok (.iload_n 3, 1) := by decide +kernel
theorem dX3_isFirstFor_35 : decode cX3_isFirstFor 35 = .ok (.if_icmp .eq 24, 3) := by decide +kernel
theorem dX3_isFirstFor_38 : decode cX3_isFirstFor 38 = .ok (.iload 6, 2) := by decide +kernel
theorem dX3_isFirstFor_40 : decode cX3_isFirstFor 40 = .ok (.ifCond .lt 19, 3) := by decide +kernel
theorem dX3_isFirstFor_43 : decode cX3_isFirstFor 43 = .ok (.aload_n 2, 1) := by decide +kernel
theorem dX3_isFirstFor_44 : decode cX3_isFirstFor 44 = .ok (.iload 5, 2) := by decide +kernel
theorem dX3_isFirstFor_46 : decode cX3_isFirstFor 46 = .ok (.iload 6, 2) := by decide +kernel
theorem dX3_isFirstFor_48 : decode cX3_isFirstFor 48 = .ok (.iload_n 3, 1) := by decide +kernel
theorem dX3_isFirstFor_49 : decode cX3_isFirstFor 49 = .ok (.iload 4, 2) := by decide +kernel
theorem dX3_isFirstFor_51 : decode cX3_isFirstFor 51 = .ok (.invokevirtual 103, 3) := by decide +kernel
theorem dX3_isFirstFor_54 : decode cX3_isFirstFor 54 = .ok (.ifCond .eq 5, 3) := by decide +kernel
theorem dX3_isFirstFor_57 : decode cX3_isFirstFor 57 = .ok (.iconst 0, 1) := by decide +kernel
theorem dX3_isFirstFor_58 : decode cX3_isFirstFor 58 = .ok (.ireturn, 1) := by decide +kernel
theorem dX3_isFirstFor_59 : decode cX3_isFirstFor 59 = .ok (.iinc 5 1, 3) := by decide +kernel
theorem dX3_isFirstFor_62 : decode cX3_isFirstFor 62 = .ok (.goto (-51), 3) := by decide +kernel
theorem dX3_isFirstFor_65 : decode cX3_isFirstFor 65 = .ok (.iconst 1, 1) := by decide +kernel
theorem dX3_isFirstFor_66 : decode cX3_isFirstFor 66 = .ok (.ireturn, 1) := by decide +kernel
theorem dX3_placeOf_0 : decode cX3_placeOf 0 = .ok (.iload_n 1, 1) := by decide +kernel
theorem dX3_placeOf_1 : decode cX3_placeOf 1 = .ok (.ifCond .lt 22, 3) := by decide +kernel
theorem dX3_placeOf_4 : decode cX3_placeOf 4 = .ok (.iload_n 1, 1) := by decide +kernel
theorem dX3_placeOf_5 : decode cX3_placeOf 5 = .ok (.aload_n 0, 1) := by decide +kernel
theorem dX3_placeOf_6 : decode cX3_placeOf 6 = .ok (.getfield 11, 3) := by decide +kernel
theorem dX3_placeOf_9 : decode cX3_placeOf 9 = .ok (.arraylength, 1) := by decide +kernel
theorem dX3_placeOf_10 : decode cX3_placeOf 10 = .ok (.if_icmp .ge 13, 3) := by decide +kernel
theorem dX3_placeOf_13 : decode cX3_placeOf 13 = .ok (.iload_n 2, 1) := by decide +kernel
theorem dX3_placeOf_14 : decode cX3_placeOf 14 = .ok (.ifCond .lt 9, 3) := by decide +kernel
theorem dX3_placeOf_17 : decode cX3_placeOf 17 = .ok (.iload_n 2, 1) := by decide +kernel
theorem dX3_placeOf_18 : decode cX3_placeOf 18 = .ok (.bipush 24, 2) := by decide +kernel
theorem dX3_placeOf_20 : decode cX3_placeOf 20 = .ok (.if_icmp .le 6, 3) := by decide +kernel
theorem dX3_placeOf_23 : decode cX3_placeOf 23 = .ok (.bipush (-6), 2) := by decide +kernel
theorem dX3_placeOf_25 : decode cX3_placeOf 25 = .ok (.ireturn, 1) := by decide +kernel
theorem dX3_placeOf_26 : decode cX3_placeOf 26 = .ok (.aload_n 0, 1) := by decide +kernel
theorem dX3_placeOf_27 : decode cX3_placeOf 27 = .ok (.getfield 11, 3) := by decide +kernel
theorem dX3_placeOf_30 : decode cX3_placeOf 30 = .ok (.iload_n 1, 1) := by decide +kernel
theorem dX3_placeOf_31 : decode cX3_placeOf 31 = .ok (.aaload, 1) := by decide +kernel
theorem dX3_placeOf_32 : decode cX3_placeOf 32 = .ok (.iload_n 2, 1) := by decide +kernel
theorem dX3_placeOf_33 : decode cX3_placeOf 33 = .ok (.iaload, 1) := by decide +kernel
theorem dX3_placeOf_34 : decode cX3_placeOf 34 = .ok (.ireturn, 1) := by decide +kernel
theorem dX4_init_0 : decode cX4_init 0 = .ok (.aload_n 0, 1) := by decide +kernel
theorem dX4_init_1 : decode cX4_init 1 = .ok (.invokespecial 3, 3) := by decide +kernel
theorem dX4_init_4 : decode cX4_init 4 = .ok (.aload_n 0, 1) := by decide +kernel
theorem dX4_init_5 : decode cX4_init 5 = .ok (.bipush 80, 2) := by decide +kernel
theorem dX4_init_7 : decode cX4_init 7 = .ok (.newarray .char, 2) := by decide +kernel
theorem dX4_init_9 : decode cX4_init 9 = .ok (.putfield 9, 3) := by decide +kernel
theorem dX4_init_12 : decode cX4_init 12 = .ok (.return_, 1) := by decide +kernel
theorem dX4_append_0 : decode cX4_append 0 = .ok (.aload_n 0, 1) := by decide +kernel
theorem dX4_append_1 : decode cX4_append 1 = .ok (.getfield 15, 3) := by decide +kernel
theorem dX4_append_4 : decode cX4_append 4 = .ok (.ifCond .lt 15, 3) := by decide +kernel
theorem dX4_append_7 : decode cX4_append 7 = .ok (.aload_n 0, 1) := by decide +kernel
theorem dX4_append_8 : decode cX4_append 8 = .ok (.getfield 15, 3) := by decide +kernel
theorem dX4_append_11 : decode cX4_append 11 = .ok (.aload_n 0, 1) := by decide +kernel
theorem dX4_append_12 : decode cX4_append 12 = .ok (.getfield 9, 3) := by decide +kernel
theorem dX4_append_15 : decode cX4_append 15 = .ok (.arraylength, 1) := by decide +kernel
theorem dX4_append_16 : decode cX4_append 16 = .ok (.if_icmp .lt 5, 3) := by decide +kernel
theorem dX4_append_19 : decode cX4_append 19 = .ok (.iconst 0, 1) := by decide +kernel
theorem dX4_append_20 : decode cX4_append 20 = .ok (.ireturn, 1) := by decide +kernel
theorem dX4_append_21 : decode cX4_append 21 = .ok (.aload_n 0, 1) := by decide +kernel
theorem dX4_append_22 : decode cX4_append 22 = .ok (.getfield 9, 3) := by decide +kernel
theorem dX4_append_25 : decode cX4_append 25 = .ok (.aload_n 0, 1) := by decide +kernel
theorem dX4_append_26 : decode cX4_append 26 = .ok (.getfield 15, 3) := by decide +kernel
theorem dX4_append_29 : decode cX4_append 29 = .ok (.iload_n 1, 1) := by decide +kernel
theorem dX4_append_30 : decode cX4_append 30 = .ok (.castore, 1) := by decide +kernel
theorem dX4_append_31 : decode cX4_append 31 = .ok (.aload_n 0, 1) := by decide +kernel
theorem dX4_append_32 : decode cX4_append 32 = .ok (.dup, 1) := by decide +kernel
theorem dX4_append_33 : decode cX4_append 33 = .ok (.getfield 15, 3) := by decide +kernel
theorem dX4_append_36 : decode cX4_append 36 = .ok (.iconst 1, 1) := by decide +kernel
theorem dX4_append_37 : decode cX4_append 37 = .ok (.iadd, 1) := by decide +kernel
theorem dX4_append_38 : decode cX4_append 38 = .ok (.putfield 15, 3) := by decide +kernel
theorem dX4_append_41 : decode cX4_append 41 = .ok (.iconst 1, 1) := by decide +kernel
theorem dX4_append_42 : decode cX4_append 42 = .ok (.ireturn, 1) := by decide +kernel
theorem dX4_makeEmpty_0 : decode cX4_makeEmpty 0 = .ok (.aload_n 0, 1) := by decide +kernel
theorem dX4_makeEmpty_1 : decode cX4_makeEmpty 1 = .ok (.iconst 0, 1) := by decide +kernel
theorem dX4_makeEmpty_2 : decode cX4_makeEmpty 2 = .ok (.putfield 15, 3) := by decide +kernel
theorem dX4_makeEmpty_5 : decode cX4_makeEmpty 5 = .ok (.return_, 1) := by decide +kernel
theorem dX4_rewind_0 : decode cX4_rewind 0 = .ok (.aload_n 0, 1) := by decide +kernel
theorem dX4_rewind_1 : decode cX4_rewind 1 = .ok (.iconst 0, 1) := by decide +kernel
theorem dX4_rewind_2 : decode cX4_rewind 2 = .ok (.putfield 19, 3) := by decide +kernel
theorem dX4_rewind_5 : decode cX4_rewind 5 = .ok (.return_, 1) := by decide +kernel
theorem dX4_isTitle_0 : decode cX4_isTitle 0 = .ok (.aload_n 0, 1) := by decide +kernel
theorem dX4_isTitle_1 : decode cX4_isTitle 1 = .ok (.invokevirtual 22, 3) := by decide +kernel
theorem dX4_isTitle_4 : decode cX4_isTitle 4 = .ok (.aload_n 0, 1) := by decide +kernel
theorem dX4_isTitle_5 : decode cX4_isTitle 5 = .ok (.invokevirtual 32, 3) := by decide +kernel
theorem dX4_isTitle_8 : decode cX4_isTitle 8 = .ok (.ifCond .eq 18, 3) := by decide +kernel
theorem dX4_isTitle_11 : decode cX4_isTitle 11 = .ok (.aload_n 0, 1) := by decide +kernel
theorem dX4_isTitle_12 : decode cX4_isTitle 12 = .ok (.getfield 19, 3) := by decide +kernel
theorem dX4_isTitle_15 : decode cX4_isTitle 15 = .ok (.aload_n 0, 1) := by decide +kernel
theorem dX4_isTitle_16 : decode cX4_isTitle 16 = .ok (.getfield 15, 3) := by decide +kernel
theorem dX4_isTitle_19 : decode cX4_isTitle 19 = .ok (.if_icmp .lt 7, 3) := by decide +kernel
theorem dX4_isTitle_22 : decode cX4_isTitle 22 = .ok (.iconst 1, 1) := by decide +kernel
theorem dX4_isTitle_23 : decode cX4_isTitle 23 = .ok (.goto 4, 3) := by decide +kernel
theorem dX4_isTitle_26 : decode cX4_isTitle 26 = .ok (.iconst 0, 1) := by decide +kernel
theorem dX4_isTitle_27 : decode cX4_isTitle 27 = .ok (.ireturn, 1) := by decide +kernel
theorem dX4_passTitle_0 : decode cX4_passTitle 0 = .ok (.aload_n 0, 1) := by decide +kernel
theorem dX4_passTitle_1 : decode cX4_passTitle 1 = .ok (.aload_n 0, 1) := by decide +kernel
theorem dX4_passTitle_2 : decode cX4_passTitle 2 = .ok (.getfield 19, 3) := by decide +kernel
theorem dX4_passTitle_5 : decode cX4_passTitle 5 = .ok (.putfield 52, 3) := by decide +kernel
theorem dX4_passTitle_8 : decode cX4_passTitle 8 = .ok (.iconst 1, 1) := by decide +kernel
theorem dX4_passTitle_9 : decode cX4_passTitle 9 = .ok (.istore_n 1, 1) := by decide +kernel
theorem dX4_passTitle_10 : decode cX4_passTitle 10 = .ok (.iconst 1, 1) := by decide +kernel
theorem dX4_passTitle_11 : decode cX4_passTitle 11 = .ok (.istore_n 2, 1) := by decide +kernel
theorem dX4_passTitle_12 : decode cX4_passTitle 12 = .ok (.iload_n 2, 1) := by decide +kernel
theorem dX4_passTitle_13 : decode cX4_passTitle 13 = .ok (.bipush 24, 2) := by decide +kernel
theorem dX4_passTitle_15 : decode cX4_passTitle 15 = .ok (.if_icmp .gt 87, 3) := by decide +kernel
theorem dX4_passTitle_18 : decode cX4_passTitle 18 = .ok (.aload_n 0, 1) := by decide +kernel
theorem dX4_passTitle_19 : decode cX4_passTitle 19 = .ok (.invokevirtual 49, 3) := by decide +kernel
theorem dX4_passTitle_22 : decode cX4_passTitle 22 = .ok (.ifCond .eq 80, 3) := by decide +kernel
theorem dX4_passTitle_25 : decode cX4_passTitle 25 = .ok (.aload_n 0, 1) := by decide +kernel
theorem dX4_passTitle_26 : decode cX4_passTitle 26 = .ok (.getfield 9, 3) := by decide +kernel
theorem dX4_passTitle_29 : decode cX4_passTitle 29 = .ok (.aload_n 0, 1) := by decide +kernel
theorem dX4_passTitle_30 : decode cX4_passTitle 30 = .ok (.getfield 19, 3) := by decide +kernel
theorem dX4_passTitle_33 : decode cX4_passTitle 33 = .ok (.caload, 1) := by decide +kernel
theorem dX4_passTitle_34 : decode cX4_passTitle 34 = .ok (.bipush 32, 2) := by decide +kernel
theorem dX4_passTitle_36 : decode cX4_passTitle 36 = .ok (.if_icmp .ne 7, 3) := by decide +kernel
theorem dX4_passTitle_39 : decode cX4_passTitle 39 = .ok (.iconst 1, 1) := by decide +kernel
theorem dX4_passTitle_40 : decode cX4_passTitle 40 = .ok (.goto 4, 3) := by decide +kernel
theorem dX4_passTitle_43 : decode cX4_passTitle 43 = .ok (.iconst 0, 1) := by decide +kernel
theorem dX4_passTitle_44 : decode cX4_passTitle 44 = .ok (.istore_n 3, 1) := by decide +kernel
theorem dX4_passTitle_45 : decode cX4_passTitle 45 = .ok (.iload_n 3, 1) := by decide +kernel
theorem dX4_passTitle_46 : decode cX4_passTitle 46 = .ok (.ifCond .eq 16, 3) := by decide +kernel
theorem dX4_passTitle_49 : decode cX4_passTitle 49 = .ok (.iload_n 1, 1) := by decide +kernel
theorem dX4_passTitle_50 : decode cX4_passTitle 50 = .ok (.ifCond .ne 52, 3) := by decide +kernel
theorem dX4_passTitle_53 : decode cX4_passTitle 53 = .ok (.iload_n 2, 1) := by decide +kernel
theorem dX4_passTitle_54 : decode cX4_passTitle 54 = .ok (.bipush 24, 2) := by decide +kernel
theorem dX4_passTitle_56 : decode cX4_passTitle 56 = .ok (.if_icmp .ne 6, 3) := by decide +kernel
theorem dX4_passTitle_59 : decode cX4_passTitle 59 = .ok (.goto 43, 3) := by decide +kernel
theorem dX4_passTitle_62 : decode cX4_passTitle 62 = .ok (.iload_n 3, 1) := by decide +kernel
theorem dX4_passTitle_63 : decode cX4_passTitle 63 = .ok (.ifCond .ne 21, 3) := by decide +kernel
theorem dX4_passTitle_66 : decode cX4_passTitle 66 = .ok (.aload_n 0, 1) := by decide +kernel
theorem dX4_passTitle_67 : decode cX4_passTitle 67 = .ok (.getfield 9, 3) := by decide +kernel
theorem dX4_passTitle_70 : decode cX4_passTitle 70 = .ok (.aload_n 0, 1) := by decide +kernel
theorem dX4_passTitle_71 : decode cX4_passTitle 71 = .ok (.getfield 19, 3) := by decide +kernel
theorem dX4_passTitle_74 : decode cX4_passTitle 74 = .ok (.caload, 1) := by decide +kernel
theorem dX4_passTitle_75 : decode cX4_passTitle 75 = .ok (.invokestatic 55, 3) := by decide +kernel
theorem dX4_passTitle_78 : decode cX4_passTitle 78 = .ok (.ifCond .ne 6, 3) := by decide +kernel
theorem dX4_passTitle_81 : decode cX4_passTitle 81 = .ok (.goto 21, 3) := by decide +kernel
theorem dX4_passTitle_84 : decode cX4_passTitle 84 = .ok (.iload_n 3, 1) := by decide +kernel
theorem dX4_passTitle_85 : decode cX4_passTitle 85 = .ok (.istore_n 1, 1) := by decide +kernel
theorem dX4_passTitle_86 : decode cX4_passTitle 86 = .ok (.aload_n 0, 1) := by decide +kernel
theorem dX4_passTitle_87 : decode cX4_passTitle 87 = .ok (.dup, 1) := by decide +kernel
theorem dX4_passTitle_88 : decode cX4_passTitle 88 = .ok (.getfield 19, 3) := by decide +kernel
theorem dX4_passTitle_91 : decode cX4_passTitle 91 = .ok (.iconst 1, 1) := by decide +kernel
theorem dX4_passTitle_92 : decode cX4_passTitle 92 = .ok (.iadd, 1) := by decide +kernel
theorem dX4_passTitle_93 : decode cX4_passTitle 93 = .ok (.putfield 19, 3) := by decide +kernel
theorem dX4_passTitle_96 : decode cX4_passTitle 96 = .ok (.iinc 2 1, 3) := by decide +kernel
theorem dX4_passTitle_99 : decode cX4_passTitle 99 = .ok (.goto (-87), 3) := by decide +kernel
theorem dX4_passTitle_102 : decode cX4_passTitle 102 = .ok (.aload_n 0, 1) := by decide +kernel
theorem dX4_passTitle_103 : decode cX4_passTitle 103 = .ok (.aload_n 0, 1) := by decide +kernel
theorem dX4_passTitle_104 : decode cX4_passTitle 104 = .ok (.getfield 19, 3) := by decide +kernel
theorem dX4_passTitle_107 : decode cX4_passTitle 107 = .ok (.putfield 59, 3) := by decide +kernel
theorem dX4_passTitle_110 : decode cX4_passTitle 110 = .ok (.iload_n 1, 1) := by decide +kernel
theorem dX4_passTitle_111 : decode cX4_passTitle 111 = .ok (.ifCond .ne 7, 3) := by decide +kernel
theorem dX4_passTitle_114 : decode cX4_passTitle 114 = .ok (.iconst 1, 1) := by decide +kernel
theorem dX4_passTitle_115 : decode cX4_passTitle 115 = .ok (.goto 4, 3) := by decide +kernel
theorem dX4_passTitle_118 : decode cX4_passTitle 118 = .ok (.iconst 0, 1) := by decide +kernel
theorem dX4_passTitle_119 : decode cX4_passTitle 119 = .ok (.ireturn, 1) := by decide +kernel
theorem dX4_hasSign_0 : decode cX4_hasSign 0 = .ok (.aload_n 0, 1) := by decide +kernel
theorem dX4_hasSign_1 : decode cX4_hasSign 1 = .ok (.getfield 19, 3) := by decide +kernel
theorem dX4_hasSign_4 : decode cX4_hasSign 4 = .ok (.ifCond .lt 30, 3) := by decide +kernel
theorem dX4_hasSign_7 : decode cX4_hasSign 7 = .ok (.aload_n 0, 1) := by decide +kernel
theorem dX4_hasSign_8 : decode cX4_hasSign 8 = .ok (.getfield 19, 3) := by decide +kernel
theorem dX4_hasSign_11 : decode cX4_hasSign 11 = .ok (.aload_n 0, 1) := by decide +kernel
theorem dX4_hasSign_12 : decode cX4_hasSign 12 = .ok (.getfield 15, 3) := by decide +kernel
theorem dX4_hasSign_15 : decode cX4_hasSign 15 = .ok (.if_icmp .ge 19, 3) := by decide +kernel
theorem dX4_hasSign_18 : decode cX4_hasSign 18 = .ok (.aload_n 0, 1) := by decide +kernel
theorem dX4_hasSign_19 : decode cX4_hasSign 19 = .ok (.getfield 19, 3) := by decide +kernel
theorem dX4_hasSign_22 : decode cX4_hasSign 22 = .ok (.aload_n 0, 1) := by decide +kernel
theorem dX4_hasSign_23 : decode cX4_hasSign 23 = .ok (.getfield 9, 3) := by decide +kernel
theorem dX4_hasSign_26 : decode cX4_hasSign 26 = .ok (.arraylength, 1) := by decide +kernel
theorem dX4_hasSign_27 : decode cX4_hasSign 27 = .ok (.if_icmp .ge 7, 3) := by decide +kernel
theorem dX4_hasSign_30 : decode cX4_hasSign 30 = .ok (.iconst 1, 1) := by decide +kernel
theorem dX4_hasSign_31 : decode cX4_hasSign 31 = .ok (.goto 4, 3) := by decide +kernel
theorem dX4_hasSign_34 : decode cX4_hasSign 34 = .ok (.iconst 0, 1) := by decide +kernel
theorem dX4_hasSign_35 : decode cX4_hasSign 35 = .ok (.ireturn, 1) := by decide +kernel
theorem dX4_isLetter_0 : decode cX4_isLetter 0 = .ok (.iload_n 0, 1) := by decide +kernel
theorem dX4_isLetter_1 : decode cX4_isLetter 1 = .ok (.bipush 97, 2) := by decide +kernel
theorem dX4_isLetter_3 : decode cX4_isLetter 3 = .ok (.if_icmp .lt 9, 3) := by decide +kernel
theorem dX4_isLetter_6 : decode cX4_isLetter 6 = .ok (.iload_n 0, 1) := by decide +kernel
theorem dX4_isLetter_7 : decode cX4_isLetter 7 = .ok (.bipush 122, 2) := by decide +kernel
theorem dX4_isLetter_9 : decode cX4_isLetter 9 = .ok (.if_icmp .le 10, 3) := by decide +kernel
theorem dX4_isLetter_12 : decode cX4_isLetter 12 = .ok (.iload_n 0, 1) := by decide +kernel
theorem dX4_isLetter_13 : decode cX4_isLetter 13 = .ok (.invokestatic 65, 3) := by decide +kernel
theorem dX4_isLetter_16 : decode cX4_isLetter 16 = .ok (.ifCond .eq 7, 3) := by decide +kernel
theorem dX4_isLetter_19 : decode cX4_isLetter 19 = .ok (.iconst 1, 1) := by decide +kernel
theorem dX4_isLetter_20 : decode cX4_isLetter 20 = .ok (.goto 4, 3) := by decide +kernel
theorem dX4_isLetter_23 : decode cX4_isLetter 23 = .ok (.iconst 0, 1) := by decide +kernel
theorem dX4_isLetter_24 : decode cX4_isLetter 24 = .ok (.ireturn, 1) := by decide +kernel
theorem dX4_isDigit_0 : decode cX4_isDigit 0 = .ok (.iload_n 0, 1) := by decide +kernel
theorem dX4_isDigit_1 : decode cX4_isDigit 1 = .ok (.bipush 48, 2) := by decide +kernel
theorem dX4_isDigit_3 : decode cX4_isDigit 3 = .ok (.if_icmp .lt 13, 3) := by decide +kernel
theorem dX4_isDigit_6 : decode cX4_isDigit 6 = .ok (.iload_n 0, 1) := by decide +kernel
theorem dX4_isDigit_7 : decode cX4_isDigit 7 = .ok (.bipush 57, 2) := by decide +kernel
theorem dX4_isDigit_9 : decode cX4_isDigit 9 = .ok (.if_icmp .gt 7, 3) := by decide +kernel
theorem dX4_isDigit_12 : decode cX4_isDigit 12 = .ok (.iconst 1, 1) := by decide +kernel
theorem dX4_isDigit_13 : decode cX4_isDigit 13 = .ok (.goto 4, 3) := by decide +kernel
theorem dX4_isDigit_16 : decode cX4_isDigit 16 = .ok (.iconst 0, 1) := by decide +kernel
theorem dX4_isDigit_17 : decode cX4_isDigit 17 = .ok (.ireturn, 1) := by decide +kernel
theorem dX4_passedTitle_0 : decode cX4_passedTitle 0 = .ok (.iconst 0, 1) := by decide +kernel
theorem dX4_passedTitle_1 : decode cX4_passedTitle 1 = .ok (.aload_n 0, 1) := by decide +kernel
theorem dX4_passedTitle_2 : decode cX4_passedTitle 2 = .ok (.getfield 59, 3) := by decide +kernel
theorem dX4_passedTitle_5 : decode cX4_passedTitle 5 = .ok (.aload_n 0, 1) := by decide +kernel
theorem dX4_passedTitle_6 : decode cX4_passedTitle 6 = .ok (.getfield 52, 3) := by decide +kernel
theorem dX4_passedTitle_9 : decode cX4_passedTitle 9 = .ok (.isub, 1) := by decide +kernel
theorem dX4_passedTitle_10 : decode cX4_passedTitle 10 = .ok (.invokestatic 81, 3) := by decide +kernel
theorem dX4_passedTitle_13 : decode cX4_passedTitle 13 = .ok (.newarray .char, 2) := by decide +kernel
theorem dX4_passedTitle_15 : decode cX4_passedTitle 15 = .ok (.astore_n 1, 1) := by decide +kernel
theorem dX4_passedTitle_16 : decode cX4_passedTitle 16 = .ok (.iconst 0, 1) := by decide +kernel
theorem dX4_passedTitle_17 : decode cX4_passedTitle 17 = .ok (.istore_n 2, 1) := by decide +kernel
theorem dX4_passedTitle_18 : decode cX4_passedTitle 18 = .ok (.iload_n 2, 1) := by decide +kernel
theorem dX4_passedTitle_19 : decode cX4_passedTitle 19 = .ok (.aload_n 1, 1) := by decide +kernel
theorem dX4_passedTitle_20 : decode cX4_passedTitle 20 = .ok (.arraylength, 1) := by decide +kernel
theorem dX4_passedTitle_21 : decode cX4_passedTitle 21 = .ok (.if_icmp .ge 37, 3) := by decide +kernel
theorem dX4_passedTitle_24 : decode cX4_passedTitle 24 = .ok (.aload_n 0, 1) := by decide +kernel
theorem dX4_passedTitle_25 : decode cX4_passedTitle 25 = .ok (.getfield 52, 3) := by decide +kernel
theorem dX4_passedTitle_28 : decode cX4_passedTitle 28 = .ok (.iload_n 2, 1) := by decide +kernel
theorem dX4_passedTitle_29 : decode cX4_passedTitle 29 = .ok (.iadd, 1) := by decide +kernel
theorem dX4_passedTitle_30 : decode cX4_passedTitle 30 = .ok (.aload_n 0, 1) := by decide +kernel
theorem dX4_passedTitle_31 : decode cX4_passedTitle 31 = .ok (.getfield 9, 3) := by decide +kernel
theorem dX4_passedTitle_34 : decode cX4_passedTitle 34 = .ok (.arraylength, 1) := by decide +kernel
theorem dX4_passedTitle_35 : decode cX4_passedTitle 35 = .ok (.if_icmp .ge 23, 3) := by decide +kernel
theorem dX4_passedTitle_38 : decode cX4_passedTitle 38 = .ok (.aload_n 1, 1) := by decide +kernel
theorem dX4_passedTitle_39 : decode cX4_passedTitle 39 = .ok (.iload_n 2, 1) := by decide +kernel
theorem dX4_passedTitle_40 : decode cX4_passedTitle 40 = .ok (.aload_n 0, 1) := by decide +kernel
theorem dX4_passedTitle_41 : decode cX4_passedTitle 41 = .ok (.getfield 9, 3) := by decide +kernel
theorem dX4_passedTitle_44 : decode cX4_passedTitle 44 = .ok (.aload_n 0, 1) := by decide +kernel
theorem dX4_passedTitle_45 : decode cX4_passedTitle 45 = .ok (.getfield 52, 3) := by decide +kernel
theorem dX4_passedTitle_48 : decode cX4_passedTitle 48 = .ok (.iload_n 2, 1) := by decide +kernel
theorem dX4_passedTitle_49 : decode cX4_passedTitle 49 = .ok (.iadd, 1) := by decide +kernel
theorem dX4_passedTitle_50 : decode cX4_passedTitle 50 = .ok (.caload, 1) := by decide +kernel
theorem dX4_passedTitle_51 : decode cX4_passedTitle 51 = .ok (.castore, 1) := by decide +kernel
theorem dX4_passedTitle_52 : decode cX4_passedTitle 52 = .ok (.iinc 2 1, 3) := by decide +kernel
theorem dX4_passedTitle_55 : decode cX4_passedTitle 55 = .ok (.goto (-37), 3) := by decide +kernel
theorem dX4_passedTitle_58 : decode cX4_passedTitle 58 = .ok (.aload_n 1, 1) := by decide +kernel
theorem dX4_passedTitle_59 : decode cX4_passedTitle 59 = .ok (.invokestatic 119, 3) := by decide +kernel
theorem dX4_passedTitle_62 : decode cX4_passedTitle 62 = .ok (.areturn, 1) := by decide +kernel
theorem dX5_init_0 : decode cX5_init 0 = .ok (.aload_n 0, 1) := by decide +kernel
theorem dX5_init_1 : decode cX5_init 1 = .ok (.invokespecial 3, 3) := by decide +kernel
theorem dX5_init_4 : decode cX5_init 4 = .ok (.aload_n 0, 1) := by decide +kernel
theorem dX5_init_5 : decode cX5_init 5 = .ok (.aload_n 1, 1) := by decide +kernel
theorem dX5_init_6 : decode cX5_init 6 = .ok (.putfield 9, 3) := by decide +kernel
theorem dX5_init_9 : decode cX5_init 9 = .ok (.aload_n 0, 1) := by decide +kernel
theorem dX5_init_10 : decode cX5_init 10 = .ok (.aload_n 2, 1) := by decide +kernel
theorem dX5_init_11 : decode cX5_init 11 = .ok (.putfield 15, 3) := by decide +kernel
theorem dX5_init_14 : decode cX5_init 14 = .ok (.aload_n 0, 1) := by decide +kernel
theorem dX5_init_15 : decode cX5_init 15 = .ok (.iload_n 3, 1) := by decide +kernel
theorem dX5_init_16 : decode cX5_init 16 = .ok (.putfield 18, 3) := by decide +kernel
theorem dX5_init_19 : decode cX5_init 19 = .ok (.return_, 1) := by decide +kernel
theorem dX5_unused_0 : decode cX5_unused 0 = .ok (.new 10, 3) := by decide +kernel
theorem dX5_unused_3 : decode cX5_unused 3 = .ok (.dup, 1) := by decide +kernel
theorem dX5_unused_4 : decode cX5_unused 4 = .ok (.aload_n 0, 1) := by decide +kernel
theorem dX5_unused_5 : decode cX5_unused 5 = .ok (.aload_n 0, 1) := by decide +kernel
theorem dX5_unused_6 : decode cX5_unused 6 = .ok (.invokestatic 22, 3) := by decide +kernel
theorem dX5_unused_9 : decode cX5_unused 9 = .ok (.iconst 0, 1) := by decide +kernel
theorem dX5_unused_10 : decode cX5_unused 10 = .ok (.invokespecial 26, 3) := by decide +kernel
theorem dX5_unused_13 : decode cX5_unused 13 = .ok (.areturn, 1) := by decide +kernel
theorem dX5_initialsOf_0 : decode cX5_initialsOf 0 = .ok (.aload_n 0, 1) := by decide +kernel
theorem dX5_initialsOf_1 : decode cX5_initialsOf 1 = .ok (.invokestatic 29, 3) := by decide +kernel
theorem dX5_initialsOf_4 : decode cX5_initialsOf 4 = .ok (.newarray .char, 2) := by decide +kernel
theorem dX5_initialsOf_6 : decode cX5_initialsOf 6 = .ok (.astore_n 1, 1) := by decide +kernel
theorem dX5_initialsOf_7 : decode cX5_initialsOf 7 = .ok (.iconst 0, 1) := by decide +kernel
theorem dX5_initialsOf_8 : decode cX5_initialsOf 8 = .ok (.istore_n 2, 1) := by decide +kernel
theorem dX5_initialsOf_9 : decode cX5_initialsOf 9 = .ok (.iconst 0, 1) := by decide +kernel
theorem dX5_initialsOf_10 : decode cX5_initialsOf 10 = .ok (.istore_n 3, 1) := by decide +kernel
theorem dX5_initialsOf_11 : decode cX5_initialsOf 11 = .ok (.iload_n 3, 1) := by decide +kernel
theorem dX5_initialsOf_12 : decode cX5_initialsOf 12 = .ok (.aload_n 0, 1) := by decide +kernel
theorem dX5_initialsOf_13 : decode cX5_initialsOf 13 = .ok (.arraylength, 1) := by decide +kernel
theorem dX5_initialsOf_14 : decode cX5_initialsOf 14 = .ok (.if_icmp .ge 38, 3) := by decide +kernel
theorem dX5_initialsOf_17 : decode cX5_initialsOf 17 = .ok (.iload_n 2, 1) := by decide +kernel
theorem dX5_initialsOf_18 : decode cX5_initialsOf 18 = .ok (.aload_n 1, 1) := by decide +kernel
theorem dX5_initialsOf_19 : decode cX5_initialsOf 19 = .ok (.arraylength, 1) := by decide +kernel
theorem dX5_initialsOf_20 : decode cX5_initialsOf 20 = .ok (.if_icmp .ge 32, 3) := by decide +kernel
theorem dX5_initialsOf_23 : decode cX5_initialsOf 23 = .ok (.iload_n 3, 1) := by decide +kernel
theorem dX5_initialsOf_24 : decode cX5_initialsOf 24 = .ok (.ifCond .eq 13, 3) := by decide +kernel
theorem dX5_initialsOf_27 : decode cX5_initialsOf 27 = .ok (.aload_n 0, 1) := by decide +kernel
theorem dX5_initialsOf_28 : decode cX5_initialsOf 28 = .ok (.iload_n 3, 1) := by decide +kernel
theorem dX5_initialsOf_29 : decode cX5_initialsOf 29 = .ok (.iconst 1, 1) := by decide +kernel
theorem dX5_initialsOf_30 : decode cX5_initialsOf 30 = .ok (.isub, 1) := by decide +kernel
theorem dX5_initialsOf_31 : decode cX5_initialsOf 31 = .ok (.caload, 1) := by decide +kernel
theorem dX5_initialsOf_32 : decode cX5_initialsOf 32 = .ok (.bipush 32, 2) := by decide +kernel
theorem dX5_initialsOf_34 : decode cX5_initialsOf 34 = .ok (.if_icmp .ne 12, 3) := by decide +kernel
theorem dX5_initialsOf_37 : decode cX5_initialsOf 37 = .ok (.aload_n 1, 1) := by decide +kernel
theorem dX5_initialsOf_38 : decode cX5_initialsOf 38 = .ok (.iload_n 2, 1) := by decide +kernel
theorem dX5_initialsOf_39 : decode cX5_initialsOf 39 = .ok (.aload_n 0, 1) := by decide +kernel
theorem dX5_initialsOf_40 : decode cX5_initialsOf 40 = .ok (.iload_n 3, 1) := by decide +kernel
theorem dX5_initialsOf_41 : decode cX5_initialsOf 41 = .ok (.caload, 1) := by decide +kernel
theorem dX5_initialsOf_42 : decode cX5_initialsOf 42 = .ok (.castore, 1) := by decide +kernel
theorem dX5_initialsOf_43 : decode cX5_initialsOf 43 = .ok (.iinc 2 1, 3) := by decide +kernel
theorem dX5_initialsOf_46 : decode cX5_initialsOf 46 = .ok (.iinc 3 1, 3) := by decide +kernel
theorem dX5_initialsOf_49 : decode cX5_initialsOf 49 = .ok (.goto (-38), 3) := by decide +kernel
theorem dX5_initialsOf_52 : decode cX5_initialsOf 52 = .ok (.aload_n 1, 1) := by decide +kernel
theorem dX5_initialsOf_53 : decode cX5_initialsOf 53 = .ok (.areturn, 1) := by decide +kernel
theorem dX5_wordCount_0 : decode cX5_wordCount 0 = .ok (.iconst 1, 1) := by decide +kernel
theorem dX5_wordCount_1 : decode cX5_wordCount 1 = .ok (.istore_n 1, 1) := by decide +kernel
theorem dX5_wordCount_2 : decode cX5_wordCount 2 = .ok (.iconst 0, 1) := by decide +kernel
theorem dX5_wordCount_3 : decode cX5_wordCount 3 = .ok (.istore_n 2, 1) := by decide +kernel
theorem dX5_wordCount_4 : decode cX5_wordCount 4 = .ok (.iload_n 2, 1) := by decide +kernel
theorem dX5_wordCount_5 : decode cX5_wordCount 5 = .ok (.aload_n 0, 1) := by decide +kernel
theorem dX5_wordCount_6 : decode cX5_wordCount 6 = .ok (.arraylength, 1) := by decide +kernel
theorem dX5_wordCount_7 : decode cX5_wordCount 7 = .ok (.if_icmp .ge 20, 3) := by decide +kernel
theorem dX5_wordCount_10 : decode cX5_wordCount 10 = .ok (.aload_n 0, 1) := by decide +kernel
theorem dX5_wordCount_11 : decode cX5_wordCount 11 = .ok (.iload_n 2, 1) := by decide +kernel
theorem dX5_wordCount_12 : decode cX5_wordCount 12 = .ok (.caload, 1) := by decide +kernel
theorem dX5_wordCount_13 : decode cX5_wordCount 13 = .ok (.bipush 32, 2) := by decide +kernel
theorem dX5_wordCount_15 : decode cX5_wordCount 15 = .ok (.if_icmp .ne 6, 3) := by decide +kernel
theorem dX5_wordCount_18 : decode cX5_wordCount 18 = .ok (.iinc 1 1, 3) := by decide +kernel
theorem dX5_wordCount_21 : decode cX5_wordCount 21 = .ok (.iinc 2 1, 3) := by decide +kernel
theorem dX5_wordCount_24 : decode cX5_wordCount 24 = .ok (.goto (-20), 3) := by decide +kernel
theorem dX5_wordCount_27 : decode cX5_wordCount 27 = .ok (.iload_n 1, 1) := by decide +kernel
theorem dX5_wordCount_28 : decode cX5_wordCount 28 = .ok (.ireturn, 1) := by decide +kernel
theorem dX5_usedOnceMore_0 : decode cX5_usedOnceMore 0 = .ok (.new 10, 3) := by decide +kernel
theorem dX5_usedOnceMore_3 : decode cX5_usedOnceMore 3 = .ok (.dup, 1) := by decide +kernel
theorem dX5_usedOnceMore_4 : decode cX5_usedOnceMore 4 = .ok (.aload_n 0, 1) := by decide +kernel
theorem dX5_usedOnceMore_5 : decode cX5_usedOnceMore 5 = .ok (.getfield 9, 3) := by decide +kernel
theorem dX5_usedOnceMore_8 : decode cX5_usedOnceMore 8 = .ok (.aload_n 0, 1) := by decide +kernel
theorem dX5_usedOnceMore_9 : decode cX5_usedOnceMore 9 = .ok (.getfield 15, 3) := by decide +kernel
theorem dX5_usedOnceMore_12 : decode cX5_usedOnceMore 12 = .ok (.aload_n 0, 1) := by decide +kernel
theorem dX5_usedOnceMore_13 : decode cX5_usedOnceMore 13 = .ok (.getfield 18, 3) := by decide +kernel
theorem dX5_usedOnceMore_16 : decode cX5_usedOnceMore 16 = .ok (.iconst 1, 1) := by decide +kernel
theorem dX5_usedOnceMore_17 : decode cX5_usedOnceMore 17 = .ok (.iadd, 1) := by decide +kernel
theorem dX5_usedOnceMore_18 : decode cX5_usedOnceMore 18 = .ok (.invokespecial 26, 3) := by decide +kernel
theorem dX5_usedOnceMore_21 : decode cX5_usedOnceMore 21 = .ok (.areturn, 1) := by decide +kernel
theorem dX5_run_0 : decode cX5_run 0 = .ok (.iload_n 1, 1) := by decide +kernel
theorem dX5_run_1 : decode cX5_run 1 = .ok (.iconst 3, 1) := by decide +kernel
theorem dX5_run_2 : decode cX5_run 2 = .ok (.if_icmp .ne 10, 3) := by decide +kernel
theorem dX5_run_5 : decode cX5_run 5 = .ok (.aload_n 0, 1) := by decide +kernel
theorem dX5_run_6 : decode cX5_run 6 = .ok (.getfield 15, 3) := by decide +kernel
theorem dX5_run_9 : decode cX5_run 9 = .ok (.goto 7, 3) := by decide +kernel
theorem dX5_run_12 : decode cX5_run 12 = .ok (.aload_n 0, 1) := by decide +kernel
theorem dX5_run_13 : decode cX5_run 13 = .ok (.getfield 9, 3) := by decide +kernel
theorem dX5_run_16 : decode cX5_run 16 = .ok (.areturn, 1) := by decide +kernel
theorem dX5_startsPiece_0 : decode cX5_startsPiece 0 = .ok (.iload_n 1, 1) := by decide +kernel
theorem dX5_startsPiece_1 : decode cX5_startsPiece 1 = .ok (.iconst 3, 1) := by decide +kernel
theorem dX5_startsPiece_2 : decode cX5_startsPiece 2 = .ok (.if_icmp .ne 22, 3) := by decide +kernel
theorem dX5_startsPiece_5 : decode cX5_startsPiece 5 = .ok (.iload_n 2, 1) := by decide +kernel
theorem dX5_startsPiece_6 : decode cX5_startsPiece 6 = .ok (.ifCond .lt 16, 3) := by decide +kernel
theorem dX5_startsPiece_9 : decode cX5_startsPiece 9 = .ok (.iload_n 2, 1) := by decide +kernel
theorem dX5_startsPiece_10 : decode cX5_startsPiece 10 = .ok (.aload_n 0, 1) := by decide +kernel
theorem dX5_startsPiece_11 : decode cX5_startsPiece 11 = .ok (.getfield 15, 3) := by decide +kernel
theorem dX5_startsPiece_14 : decode cX5_startsPiece 14 = .ok (.arraylength, 1) := by decide +kernel
theorem dX5_startsPiece_15 : decode cX5_startsPiece 15 = .ok (.if_icmp .ge 7, 3) := by decide +kernel
theorem dX5_startsPiece_18 : decode cX5_startsPiece 18 = .ok (.iconst 1, 1) := by decide +kernel
theorem dX5_startsPiece_19 : decode cX5_startsPiece 19 = .ok (.goto 4, 3) := by decide +kernel
theorem dX5_startsPiece_22 : decode cX5_startsPiece 22 = .ok (.iconst 0, 1) := by decide +kernel
theorem dX5_startsPiece_23 : decode cX5_startsPiece 23 = .ok (.ireturn, 1) := by decide +kernel
theorem dX5_startsPiece_24 : decode cX5_startsPiece 24 = .ok (.iload_n 2, 1) := by decide +kernel
theorem dX5_startsPiece_25 : decode cX5_startsPiece 25 = .ok (.ifCond .lt 12, 3) := by decide +kernel
theorem dX5_startsPiece_28 : decode cX5_startsPiece 28 = .ok (.iload_n 2, 1) := by decide +kernel
theorem dX5_startsPiece_29 : decode cX5_startsPiece 29 = .ok (.aload_n 0, 1) := by decide +kernel
theorem dX5_startsPiece_30 : decode cX5_startsPiece 30 = .ok (.getfield 9, 3) := by decide +kernel
theorem dX5_startsPiece_33 : decode cX5_startsPiece 33 = .ok (.arraylength, 1) := by decide +kernel
theorem dX5_startsPiece_34 : decode cX5_startsPiece 34 = .ok (.if_icmp .lt 5, 3) := by decide +kernel
theorem dX5_startsPiece_37 : decode cX5_startsPiece 37 = .ok (.iconst 0, 1) := by decide +kernel
theorem dX5_startsPiece_38 : decode cX5_startsPiece 38 = .ok (.ireturn, 1) := by decide +kernel
theorem dX5_startsPiece_39 : decode cX5_startsPiece 39 = .ok (.iload_n 1, 1) := by decide +kernel
theorem dX5_startsPiece_40 : decode cX5_startsPiece 40 = .ok (.lookupswitch 61 #[(1, 28), (2, 38)], 28) := by decide +kernel
theorem dX5_startsPiece_68 : decode cX5_startsPiece 68 = .ok (.iload_n 2, 1) := by decide +kernel
theorem dX5_startsPiece_69 : decode cX5_startsPiece 69 = .ok (.ifCond .ne 7, 3) := by decide +kernel
theorem dX5_startsPiece_72 : decode cX5_startsPiece 72 = .ok (.iconst 1, 1) := by decide +kernel
theorem dX5_startsPiece_73 : decode cX5_startsPiece 73 = .ok (.goto 4, 3) := by decide +kernel
theorem dX5_startsPiece_76 : decode cX5_startsPiece 76 = .ok (.iconst 0, 1) := by decide +kernel
theorem dX5_startsPiece_77 : decode cX5_startsPiece 77 = .ok (.ireturn, 1) := by decide +kernel
theorem dX5_startsPiece_78 : decode cX5_startsPiece 78 = .ok (.iload_n 2, 1) := by decide +kernel
theorem dX5_startsPiece_79 : decode cX5_startsPiece 79 = .ok (.ifCond .eq 16, 3) := by decide +kernel
theorem dX5_startsPiece_82 : decode cX5_startsPiece 82 = .ok (.aload_n 0, 1) := by decide +kernel
theorem dX5_startsPiece_83 : decode cX5_startsPiece 83 = .ok (.getfield 9, 3) := by decide +kernel
theorem dX5_startsPiece_86 : decode cX5_startsPiece 86 = .ok (.iload_n 2, 1) := by decide +kernel
theorem dX5_startsPiece_87 : decode cX5_startsPiece 87 = .ok (.iconst 1, 1) := by decide +kernel
theorem dX5_startsPiece_88 : decode cX5_startsPiece 88 = .ok (.isub, 1) := by decide +kernel
theorem dX5_startsPiece_89 : decode cX5_startsPiece 89 = .ok (.caload, 1) := by decide +kernel
theorem dX5_startsPiece_90 : decode cX5_startsPiece 90 = .ok (.bipush 32, 2) := by decide +kernel
theorem dX5_startsPiece_92 : decode cX5_startsPiece 92 = .ok (.if_icmp .ne 7, 3) := by decide +kernel
theorem dX5_startsPiece_95 : decode cX5_startsPiece 95 = .ok (.iconst 1, 1) := by decide +kernel
theorem dX5_startsPiece_96 : decode cX5_startsPiece 96 = .ok (.goto 4, 3) := by decide +kernel
theorem dX5_startsPiece_99 : decode cX5_startsPiece 99 = .ok (.iconst 0, 1) := by decide +kernel
theorem dX5_startsPiece_100 : decode cX5_startsPiece 100 = .ok (.ireturn, 1) := by decide +kernel
theorem dX5_startsPiece_101 : decode cX5_startsPiece 101 = .ok (.aload_n 0, 1) := by decide +kernel
theorem dX5_startsPiece_102 : decode cX5_startsPiece 102 = .ok (.getfield 9, 3) := by decide +kernel
theorem dX5_startsPiece_105 : decode cX5_startsPiece 105 = .ok (.iload_n 2, 1) := by decide +kernel
theorem dX5_startsPiece_106 : decode cX5_startsPiece 106 = .ok (.caload, 1) := by decide +kernel
theorem dX5_startsPiece_107 : decode cX5_startsPiece 107 = .ok (.bipush 32, 2) := by decide +kernel
theorem dX5_startsPiece_109 : decode cX5_startsPiece 109 = .ok (.if_icmp .eq 7, 3) := by decide +kernel
theorem dX5_startsPiece_112 : decode cX5_startsPiece 112 = .ok (.iconst 1, 1) := by decide +kernel
theorem dX5_startsPiece_113 : decode cX5_startsPiece 113 = .ok (.goto 4, 3) := by decide +kernel
theorem dX5_startsPiece_116 : decode cX5_startsPiece 116 = .ok (.iconst 0, 1) := by decide +kernel
theorem dX5_startsPiece_117 : decode cX5_startsPiece 117 = .ok (.ireturn, 1) := by decide +kernel
theorem dX5_placeOf_0 : decode cX5_placeOf 0 = .ok (.aload_n 0, 1) := by decide +kernel
theorem dX5_placeOf_1 : decode cX5_placeOf 1 = .ok (.iload_n 3, 1) := by decide +kernel
theorem dX5_placeOf_2 : decode cX5_placeOf 2 = .ok (.invokevirtual 33, 3) := by decide +kernel
theorem dX5_placeOf_5 : decode cX5_placeOf 5 = .ok (.astore 4, 2) := by decide +kernel
theorem dX5_placeOf_7 : decode cX5_placeOf 7 = .ok (.iconst 0, 1) := by decide +kernel
theorem dX5_placeOf_8 : decode cX5_placeOf 8 = .ok (.istore 5, 2) := by decide +kernel
theorem dX5_placeOf_10 : decode cX5_placeOf 10 = .ok (.iload 5, 2) := by decide +kernel
theorem dX5_placeOf_12 : decode cX5_placeOf 12 = .ok (.iload_n 2, 1) := by decide +kernel
theorem dX5_placeOf_13 : decode cX5_placeOf 13 = .ok (.iadd, 1) := by decide +kernel
theorem dX5_placeOf_14 : decode cX5_placeOf 14 = .ok (.aload 4, 2) := by decide +kernel
theorem dX5_placeOf_16 : decode cX5_placeOf 16 = .ok (.arraylength, 1) := by decide +kernel
theorem dX5_placeOf_17 : decode cX5_placeOf 17 = .ok (.if_icmp .gt 36, 3) := by decide +kernel
theorem dX5_placeOf_20 : decode cX5_placeOf 20 = .ok (.aload_n 0, 1) := by decide +kernel
theorem dX5_placeOf_21 : decode cX5_placeOf 21 = .ok (.iload_n 3, 1) := by decide +kernel
theorem dX5_placeOf_22 : decode cX5_placeOf 22 = .ok (.iload 5, 2) := by decide +kernel
theorem dX5_placeOf_24 : decode cX5_placeOf 24 = .ok (.invokevirtual 37, 3) := by decide +kernel
theorem dX5_placeOf_27 : decode cX5_placeOf 27 = .ok (.ifCond .eq 20, 3) := by decide +kernel
theorem dX5_placeOf_30 : decode cX5_placeOf 30 = .ok (.aload_n 1, 1) := by decide +kernel
theorem dX5_placeOf_31 : decode cX5_placeOf 31 = .ok (.iconst 0, 1) := by decide +kernel
theorem dX5_placeOf_32 : decode cX5_placeOf 32 = .ok (.aload 4, 2) := by decide +kernel
theorem dX5_placeOf_34 : decode cX5_placeOf 34 = .ok (.iload 5, 2) := by decide +kernel
theorem dX5_placeOf_36 : decode cX5_placeOf 36 = .ok (.iload_n 2, 1) := by decide +kernel
theorem dX5_placeOf_37 : decode cX5_placeOf 37 = .ok (.invokestatic 41, 3) := by decide +kernel
theorem dX5_placeOf_40 : decode cX5_placeOf 40 = .ok (.iload_n 2, 1) := by decide +kernel
theorem dX5_placeOf_41 : decode cX5_placeOf 41 = .ok (.if_icmp .ne 6, 3) := by decide +kernel
theorem dX5_placeOf_44 : decode cX5_placeOf 44 = .ok (.iload 5, 2) := by decide +kernel
theorem dX5_placeOf_46 : decode cX5_placeOf 46 = .ok (.ireturn, 1) := by decide +kernel
theorem dX5_placeOf_47 : decode cX5_placeOf 47 = .ok (.iinc 5 1, 3) := by decide +kernel
theorem dX5_placeOf_50 : decode cX5_placeOf 50 = .ok (.goto (-40), 3) := by decide +kernel
theorem dX5_placeOf_53 : decode cX5_placeOf 53 = .ok (.bipush (-6), 2) := by decide +kernel
theorem dX5_placeOf_55 : decode cX5_placeOf 55 = .ok (.ireturn, 1) := by decide +kernel
theorem dX5_commonRun_0 : decode cX5_commonRun 0 = .ok (.iconst 0, 1) := by decide +kernel
theorem dX5_commonRun_1 : decode cX5_commonRun 1 = .ok (.istore_n 2, 1) := by decide +kernel
theorem dX5_commonRun_2 : decode cX5_commonRun 2 = .ok (.iconst 0, 1) := by decide +kernel
theorem dX5_commonRun_3 : decode cX5_commonRun 3 = .ok (.istore_n 3, 1) := by decide +kernel
theorem dX5_commonRun_4 : decode cX5_commonRun 4 = .ok (.iload_n 3, 1) := by decide +kernel
theorem dX5_commonRun_5 : decode cX5_commonRun 5 = .ok (.aload_n 0, 1) := by decide +kernel
theorem dX5_commonRun_6 : decode cX5_commonRun 6 = .ok (.getfield 9, 3) := by decide +kernel
theorem dX5_commonRun_9 : decode cX5_commonRun 9 = .ok (.arraylength, 1) := by decide +kernel
theorem dX5_commonRun_10 : decode cX5_commonRun 10 = .ok (.if_icmp .ge 49, 3) := by decide +kernel
theorem dX5_commonRun_13 : decode cX5_commonRun 13 = .ok (.iconst 0, 1) := by decide +kernel
theorem dX5_commonRun_14 : decode cX5_commonRun 14 = .ok (.istore 4, 2) := by decide +kernel
theorem dX5_commonRun_16 : decode cX5_commonRun 16 = .ok (.iload 4, 2) := by decide +kernel
theorem dX5_commonRun_18 : decode cX5_commonRun 18 = .ok (.aload_n 1, 1) := by decide +kernel
theorem dX5_commonRun_19 : decode cX5_commonRun 19 = .ok (.getfield 9, 3) := by decide +kernel
theorem dX5_commonRun_22 : decode cX5_commonRun 22 = .ok (.arraylength, 1) := by decide +kernel
theorem dX5_commonRun_23 : decode cX5_commonRun 23 = .ok (.if_icmp .ge 30, 3) := by decide +kernel
theorem dX5_commonRun_26 : decode cX5_commonRun 26 = .ok (.iload_n 2, 1) := by decide +kernel
theorem dX5_commonRun_27 : decode cX5_commonRun 27 = .ok (.aload_n 0, 1) := by decide +kernel
theorem dX5_commonRun_28 : decode cX5_commonRun 28 = .ok (.getfield 9, 3) := by decide +kernel
theorem dX5_commonRun_31 : decode cX5_commonRun 31 = .ok (.iload_n 3, 1) := by decide +kernel
theorem dX5_commonRun_32 : decode cX5_commonRun 32 = .ok (.aload_n 1, 1) := by decide +kernel
theorem dX5_commonRun_33 : decode cX5_commonRun 33 = .ok (.getfield 9, 3) := by decide +kernel
theorem dX5_commonRun_36 : decode cX5_commonRun 36 = .ok (.iload 4, 2) := by decide +kernel
theorem dX5_commonRun_38 : decode cX5_commonRun 38 = .ok (.bipush 24, 2) := by decide +kernel
theorem dX5_commonRun_40 : decode cX5_commonRun 40 = .ok (.invokestatic 41, 3) := by decide +kernel
theorem dX5_commonRun_43 : decode cX5_commonRun 43 = .ok (.invokestatic 45, 3) := by decide +kernel
theorem dX5_commonRun_46 : decode cX5_commonRun 46 = .ok (.istore_n 2, 1) := by decide +kernel
theorem dX5_commonRun_47 : decode cX5_commonRun 47 = .ok (.iinc 4 1, 3) := by decide +kernel
theorem dX5_commonRun_50 : decode cX5_commonRun 50 = .ok (.goto (-34), 3) := by decide +kernel
theorem dX5_commonRun_53 : decode cX5_commonRun 53 = .ok (.iinc 3 1, 3) := by decide +kernel
theorem dX5_commonRun_56 : decode cX5_commonRun 56 = .ok (.goto (-52), 3) := by decide +kernel
theorem dX5_commonRun_59 : decode cX5_commonRun 59 = .ok (.iload_n 2, 1) := by decide +kernel
theorem dX5_commonRun_60 : decode cX5_commonRun 60 = .ok (.ireturn, 1) := by decide +kernel
theorem dX5_hasLettersOf_0 : decode cX5_hasLettersOf 0 = .ok (.aload_n 0, 1) := by decide +kernel
theorem dX5_hasLettersOf_1 : decode cX5_hasLettersOf 1 = .ok (.getfield 9, 3) := by decide +kernel
theorem dX5_hasLettersOf_4 : decode cX5_hasLettersOf 4 = .ok (.arraylength, 1) := by decide +kernel
theorem dX5_hasLettersOf_5 : decode cX5_hasLettersOf 5 = .ok (.aload_n 1, 1) := by decide +kernel
theorem dX5_hasLettersOf_6 : decode cX5_hasLettersOf 6 = .ok (.getfield 9, 3) := by decide +kernel
theorem dX5_hasLettersOf_9 : decode cX5_hasLettersOf 9 = .ok (.arraylength, 1) := by decide +kernel
theorem dX5_hasLettersOf_10 : decode cX5_hasLettersOf 10 = .ok (.if_icmp .ne 33, 3) := by decide +kernel
theorem dX5_hasLettersOf_13 : decode cX5_hasLettersOf 13 = .ok (.aload_n 0, 1) := by decide +kernel
theorem dX5_hasLettersOf_14 : decode cX5_hasLettersOf 14 = .ok (.getfield 9, 3) := by decide +kernel
theorem dX5_hasLettersOf_17 : decode cX5_hasLettersOf 17 = .ok (.iconst 0, 1) := by decide +kernel
theorem dX5_hasLettersOf_18 : decode cX5_hasLettersOf 18 = .ok (.aload_n 1, 1) := by decide +kernel
theorem dX5_hasLettersOf_19 : decode cX5_hasLettersOf 19 = .ok (.getfield 9, 3) := by decide +kernel
theorem dX5_hasLettersOf_22 : decode cX5_hasLettersOf 22 = .ok (.iconst 0, 1) := by decide +kernel
theorem dX5_hasLettersOf_23 : decode cX5_hasLettersOf 23 = .ok (.aload_n 0, 1) := by decide +kernel
theorem dX5_hasLettersOf_24 : decode cX5_hasLettersOf 24 = .ok (.getfield 9, 3) := by decide +kernel
theorem dX5_hasLettersOf_27 : decode cX5_hasLettersOf 27 = .ok (.arraylength, 1) := by decide +kernel
theorem dX5_hasLettersOf_28 : decode cX5_hasLettersOf 28 = .ok (.invokestatic 41, 3) := by decide +kernel
theorem dX5_hasLettersOf_31 : decode cX5_hasLettersOf 31 = .ok (.aload_n 0, 1) := by decide +kernel
theorem dX5_hasLettersOf_32 : decode cX5_hasLettersOf 32 = .ok (.getfield 9, 3) := by decide +kernel
theorem dX5_hasLettersOf_35 : decode cX5_hasLettersOf 35 = .ok (.arraylength, 1) := by decide +kernel
theorem dX5_hasLettersOf_36 : decode cX5_hasLettersOf 36 = .ok (.if_icmp .ne 7, 3) := by decide +kernel
theorem dX5_hasLettersOf_39 : decode cX5_hasLettersOf 39 = .ok (.iconst 1, 1) := by decide +kernel
theorem dX5_hasLettersOf_40 : decode cX5_hasLettersOf 40 = .ok (.goto 4, 3) := by decide +kernel
theorem dX5_hasLettersOf_43 : decode cX5_hasLettersOf 43 = .ok (.iconst 0, 1) := by decide +kernel
theorem dX5_hasLettersOf_44 : decode cX5_hasLettersOf 44 = .ok (.ireturn, 1) := by decide +kernel
theorem dX5_comesByNameBefore_0 : decode cX5_comesByNameBefore 0 = .ok (.iconst 0, 1) := by decide +kernel
theorem dX5_comesByNameBefore_1 : decode cX5_comesByNameBefore 1 = .ok (.istore_n 2, 1) := by decide +kernel
theorem dX5_comesByNameBefore_2 : decode cX5_comesByNameBefore 2 = .ok (.iload_n 2, 1) := by decide +kernel
theorem dX5_comesByNameBefore_3 : decode cX5_comesByNameBefore 3 = .ok (.aload_n 0, 1) := by decide +kernel
theorem dX5_comesByNameBefore_4 : decode cX5_comesByNameBefore 4 = .ok (.getfield 9, 3) := by decide +kernel
theorem dX5_comesByNameBefore_7 : decode cX5_comesByNameBefore 7 = .ok (.arraylength, 1) := by decide +kernel
theorem dX5_comesByNameBefore_8 : decode cX5_comesByNameBefore 8 = .ok (.if_icmp .ge 54, 3) := by decide +kernel
theorem dX5_comesByNameBefore_11 : decode cX5_comesByNameBefore 11 = .ok (.iload_n 2, 1) := by decide +kernel
theorem dX5_comesByNameBefore_12 : decode cX5_comesByNameBefore 12 = .ok (.aload_n 1, 1) := by decide +kernel
theorem dX5_comesByNameBefore_13 : decode cX5_comesByNameBefore 13 = .ok (.getfield 9, 3) := by decide +kernel
theorem dX5_comesByNameBefore_16 : decode cX5_comesByNameBefore 16 = .ok (.arraylength, 1) := by decide +kernel
theorem dX5_comesByNameBefore_17 : decode cX5_comesByNameBefore 17 = .ok (.if_icmp .ge 45, 3) := by decide +kernel
theorem dX5_comesByNameBefore_20 : decode cX5_comesByNameBefore 20 = .ok (.aload_n 0, 1) := by decide +kernel
theorem dX5_comesByNameBefore_21 : decode cX5_comesByNameBefore 21 = .ok (.getfield 9, 3) := by decide +kernel
theorem dX5_comesByNameBefore_24 : decode cX5_comesByNameBefore 24 = .ok (.iload_n 2, 1) := by decide +kernel
theorem dX5_comesByNameBefore_25 : decode cX5_comesByNameBefore 25 = .ok (.caload, 1) := by decide +kernel
theorem dX5_comesByNameBefore_26 : decode cX5_comesByNameBefore 26 = .ok (.aload_n 1, 1) := by decide +kernel
theorem dX5_comesByNameBefore_27 : decode cX5_comesByNameBefore 27 = .ok (.getfield 9, 3) := by decide +kernel
theorem dX5_comesByNameBefore_30 : decode cX5_comesByNameBefore 30 = .ok (.iload_n 2, 1) := by decide +kernel
theorem dX5_comesByNameBefore_31 : decode cX5_comesByNameBefore 31 = .ok (.caload, 1) := by decide +kernel
theorem dX5_comesByNameBefore_32 : decode cX5_comesByNameBefore 32 = .ok (.if_icmp .eq 24, 3) := by decide +kernel
theorem dX5_comesByNameBefore_35 : decode cX5_comesByNameBefore 35 = .ok (.aload_n 0, 1) := by decide +kernel
theorem dX5_comesByNameBefore_36 : decode cX5_comesByNameBefore 36 = .ok (.getfield 9, 3) := by decide +kernel
theorem dX5_comesByNameBefore_39 : decode cX5_comesByNameBefore 39 = .ok (.iload_n 2, 1) := by decide +kernel
theorem dX5_comesByNameBefore_40 : decode cX5_comesByNameBefore 40 = .ok (.caload, 1) := by decide +kernel
theorem dX5_comesByNameBefore_41 : decode cX5_comesByNameBefore 41 = .ok (.aload_n 1, 1) := by decide +kernel
theorem dX5_comesByNameBefore_42 : decode cX5_comesByNameBefore 42 = .ok (.getfield 9, 3) := by decide +kernel
theorem dX5_comesByNameBefore_45 : decode cX5_comesByNameBefore 45 = .ok (.iload_n 2, 1) := by decide +kernel
theorem dX5_comesByNameBefore_46 : decode cX5_comesByNameBefore 46 = .ok (.caload, 1) := by decide +kernel
theorem dX5_comesByNameBefore_47 : decode cX5_comesByNameBefore 47 = .ok (.if_icmp .ge 7, 3) := by decide +kernel
theorem dX5_comesByNameBefore_50 : decode cX5_comesByNameBefore 50 = .ok (.iconst 1, 1) := by decide +kernel
theorem dX5_comesByNameBefore_51 : decode cX5_comesByNameBefore 51 = .ok (.goto 4, 3) := by decide +kernel
theorem dX5_comesByNameBefore_54 : decode cX5_comesByNameBefore 54 = .ok (.iconst 0, 1) := by decide +kernel
theorem dX5_comesByNameBefore_55 : decode cX5_comesByNameBefore 55 = .ok (.ireturn, 1) := by decide +kernel
theorem dX5_comesByNameBefore_56 : decode cX5_comesByNameBefore 56 = .ok (.iinc 2 1, 3) := by decide +kernel
theorem dX5_comesByNameBefore_59 : decode cX5_comesByNameBefore 59 = .ok (.goto (-57), 3) := by decide +kernel
theorem dX5_comesByNameBefore_62 : decode cX5_comesByNameBefore 62 = .ok (.aload_n 0, 1) := by decide +kernel
theorem dX5_comesByNameBefore_63 : decode cX5_comesByNameBefore 63 = .ok (.getfield 9, 3) := by decide +kernel
theorem dX5_comesByNameBefore_66 : decode cX5_comesByNameBefore 66 = .ok (.arraylength, 1) := by decide +kernel
theorem dX5_comesByNameBefore_67 : decode cX5_comesByNameBefore 67 = .ok (.aload_n 1, 1) := by decide +kernel
theorem dX5_comesByNameBefore_68 : decode cX5_comesByNameBefore 68 = .ok (.getfield 9, 3) := by decide +kernel
theorem dX5_comesByNameBefore_71 : decode cX5_comesByNameBefore 71 = .ok (.arraylength, 1) := by decide +kernel
theorem dX5_comesByNameBefore_72 : decode cX5_comesByNameBefore 72 = .ok (.if_icmp .ge 7, 3) := by decide +kernel
theorem dX5_comesByNameBefore_75 : decode cX5_comesByNameBefore 75 = .ok (.iconst 1, 1) := by decide +kernel
theorem dX5_comesByNameBefore_76 : decode cX5_comesByNameBefore 76 = .ok (.goto 4, 3) := by decide +kernel
theorem dX5_comesByNameBefore_79 : decode cX5_comesByNameBefore 79 = .ok (.iconst 0, 1) := by decide +kernel
theorem dX5_comesByNameBefore_80 : decode cX5_comesByNameBefore 80 = .ok (.ireturn, 1) := by decide +kernel
theorem dX5_sameLength_0 : decode cX5_sameLength 0 = .ok (.iconst 0, 1) := by decide +kernel
theorem dX5_sameLength_1 : decode cX5_sameLength 1 = .ok (.istore 5, 2) := by decide +kernel
theorem dX5_sameLength_3 : decode cX5_sameLength 3 = .ok (.iload 5, 2) := by decide +kernel
theorem dX5_sameLength_5 : decode cX5_sameLength 5 = .ok (.iload 4, 2) := by decide +kernel
theorem dX5_sameLength_7 : decode cX5_sameLength 7 = .ok (.if_icmp .ge 42, 3) := by decide +kernel
theorem dX5_sameLength_10 : decode cX5_sameLength 10 = .ok (.iload_n 1, 1) := by decide +kernel
theorem dX5_sameLength_11 : decode cX5_sameLength 11 = .ok (.iload 5, 2) := by decide +kernel
theorem dX5_sameLength_13 : decode cX5_sameLength 13 = .ok (.iadd, 1) := by decide +kernel
theorem dX5_sameLength_14 : decode cX5_sameLength 14 = .ok (.aload_n 0, 1) := by decide +kernel
theorem dX5_sameLength_15 : decode cX5_sameLength 15 = .ok (.arraylength, 1) := by decide +kernel
theorem dX5_sameLength_16 : decode cX5_sameLength 16 = .ok (.if_icmp .ge 33, 3) := by decide +kernel
theorem dX5_sameLength_19 : decode cX5_sameLength 19 = .ok (.iload_n 3, 1) := by decide +kernel
theorem dX5_sameLength_20 : decode cX5_sameLength 20 = .ok (.iload 5, 2) := by decide +kernel
theorem dX5_sameLength_22 : decode cX5_sameLength 22 = .ok (.iadd, 1) := by decide +kernel
theorem dX5_sameLength_23 : decode cX5_sameLength 23 = .ok (.aload_n 2, 1) := by decide +kernel
theorem dX5_sameLength_24 : decode cX5_sameLength 24 = .ok (.arraylength, 1) := by decide +kernel
theorem dX5_sameLength_25 : decode cX5_sameLength 25 = .ok (.if_icmp .ge 24, 3) := by decide +kernel
theorem dX5_sameLength_28 : decode cX5_sameLength 28 = .ok (.aload_n 0, 1) := by decide +kernel
theorem dX5_sameLength_29 : decode cX5_sameLength 29 = .ok (.iload_n 1, 1) := by decide +kernel
theorem dX5_sameLength_30 : decode cX5_sameLength 30 = .ok (.iload 5, 2) := by decide +kernel
theorem dX5_sameLength_32 : decode cX5_sameLength 32 = .ok (.iadd, 1) := by decide +kernel
theorem dX5_sameLength_33 : decode cX5_sameLength 33 = .ok (.caload, 1) := by decide +kernel
theorem dX5_sameLength_34 : decode cX5_sameLength 34 = .ok (.aload_n 2, 1) := by decide +kernel
theorem dX5_sameLength_35 : decode cX5_sameLength 35 = .ok (.iload_n 3, 1) := by decide +kernel
theorem dX5_sameLength_36 : decode cX5_sameLength 36 = .ok (.iload 5, 2) := by decide +kernel
theorem dX5_sameLength_38 : decode cX5_sameLength 38 = .ok (.iadd, 1) := by decide +kernel
theorem dX5_sameLength_39 : decode cX5_sameLength 39 = .ok (.caload, 1) := by decide +kernel
theorem dX5_sameLength_40 : decode cX5_sameLength 40 = .ok (.if_icmp .ne 9, 3) := by decide +kernel
theorem dX5_sameLength_43 : decode cX5_sameLength 43 = .ok (.iinc 5 1, 3) := by decide +kernel
theorem dX5_sameLength_46 : decode cX5_sameLength 46 = .ok (.goto (-43), 3) := by decide +kernel
theorem dX5_sameLength_49 : decode cX5_sameLength 49 = .ok (.iload 5, 2) := by decide +kernel
theorem dX5_sameLength_51 : decode cX5_sameLength 51 = .ok (.ireturn, 1) := by decide +kernel
theorem dX6_init_0 : decode cX6_init 0 = .ok (.aload_n 0, 1) := by decide +kernel
theorem dX6_init_1 : decode cX6_init 1 = .ok (.invokespecial 1, 3) := by decide +kernel
theorem dX6_init_4 : decode cX6_init 4 = .ok (.aload_n 0, 1) := by decide +kernel
theorem dX6_init_5 : decode cX6_init 5 = .ok (.new 7, 3) := by decide +kernel
theorem dX6_init_8 : decode cX6_init 8 = .ok (.dup, 1) := by decide +kernel
theorem dX6_init_9 : decode cX6_init 9 = .ok (.invokespecial 9, 3) := by decide +kernel
theorem dX6_init_12 : decode cX6_init 12 = .ok (.putfield 10, 3) := by decide +kernel
theorem dX6_init_15 : decode cX6_init 15 = .ok (.aload_n 0, 1) := by decide +kernel
theorem dX6_init_16 : decode cX6_init 16 = .ok (.new 7, 3) := by decide +kernel
theorem dX6_init_19 : decode cX6_init 19 = .ok (.dup, 1) := by decide +kernel
theorem dX6_init_20 : decode cX6_init 20 = .ok (.invokespecial 9, 3) := by decide +kernel
theorem dX6_init_23 : decode cX6_init 23 = .ok (.putfield 16, 3) := by decide +kernel
theorem dX6_init_26 : decode cX6_init 26 = .ok (.aload_n 0, 1) := by decide +kernel
theorem dX6_init_27 : decode cX6_init 27 = .ok (.new 19, 3) := by decide +kernel
theorem dX6_init_30 : decode cX6_init 30 = .ok (.dup, 1) := by decide +kernel
theorem dX6_init_31 : decode cX6_init 31 = .ok (.invokespecial 21, 3) := by decide +kernel
theorem dX6_init_34 : decode cX6_init 34 = .ok (.putfield 22, 3) := by decide +kernel
theorem dX6_init_37 : decode cX6_init 37 = .ok (.aload_n 0, 1) := by decide +kernel
theorem dX6_init_38 : decode cX6_init 38 = .ok (.new 26, 3) := by decide +kernel
theorem dX6_init_41 : decode cX6_init 41 = .ok (.dup, 1) := by decide +kernel
theorem dX6_init_42 : decode cX6_init 42 = .ok (.invokespecial 28, 3) := by decide +kernel
theorem dX6_init_45 : decode cX6_init 45 = .ok (.putfield 29, 3) := by decide +kernel
theorem dX6_init_48 : decode cX6_init 48 = .ok (.aload_n 0, 1) := by decide +kernel
theorem dX6_init_49 : decode cX6_init 49 = .ok (.new 33, 3) := by decide +kernel
theorem dX6_init_52 : decode cX6_init 52 = .ok (.dup, 1) := by decide +kernel
theorem dX6_init_53 : decode cX6_init 53 = .ok (.invokespecial 35, 3) := by decide +kernel
theorem dX6_init_56 : decode cX6_init 56 = .ok (.putfield 36, 3) := by decide +kernel
theorem dX6_init_59 : decode cX6_init 59 = .ok (.aload_n 0, 1) := by decide +kernel
theorem dX6_init_60 : decode cX6_init 60 = .ok (.new 40, 3) := by decide +kernel
theorem dX6_init_63 : decode cX6_init 63 = .ok (.dup, 1) := by decide +kernel
theorem dX6_init_64 : decode cX6_init 64 = .ok (.invokespecial 42, 3) := by decide +kernel
theorem dX6_init_67 : decode cX6_init 67 = .ok (.putfield 43, 3) := by decide +kernel
theorem dX6_init_70 : decode cX6_init 70 = .ok (.return_, 1) := by decide +kernel
theorem dX6_type_0 : decode cX6_type 0 = .ok (.iload_n 1, 1) := by decide +kernel
theorem dX6_type_1 : decode cX6_type 1 = .ok (.bipush 32, 2) := by decide +kernel
theorem dX6_type_3 : decode cX6_type 3 = .ok (.if_icmp .lt 9, 3) := by decide +kernel
theorem dX6_type_6 : decode cX6_type 6 = .ok (.iload_n 1, 1) := by decide +kernel
theorem dX6_type_7 : decode cX6_type 7 = .ok (.bipush 126, 2) := by decide +kernel
theorem dX6_type_9 : decode cX6_type 9 = .ok (.if_icmp .le 6, 3) := by decide +kernel
theorem dX6_type_12 : decode cX6_type 12 = .ok (.bipush (-2), 2) := by decide +kernel
theorem dX6_type_14 : decode cX6_type 14 = .ok (.ireturn, 1) := by decide +kernel
theorem dX6_type_15 : decode cX6_type 15 = .ok (.aload_n 0, 1) := by decide +kernel
theorem dX6_type_16 : decode cX6_type 16 = .ok (.getfield 29, 3) := by decide +kernel
theorem dX6_type_19 : decode cX6_type 19 = .ok (.iload_n 1, 1) := by decide +kernel
theorem dX6_type_20 : decode cX6_type 20 = .ok (.i2c, 1) := by decide +kernel
theorem dX6_type_21 : decode cX6_type 21 = .ok (.invokevirtual 47, 3) := by decide +kernel
theorem dX6_type_24 : decode cX6_type 24 = .ok (.ifCond .ne 6, 3) := by decide +kernel
theorem dX6_type_27 : decode cX6_type 27 = .ok (.bipush (-4), 2) := by decide +kernel
theorem dX6_type_29 : decode cX6_type 29 = .ok (.ireturn, 1) := by decide +kernel
theorem dX6_type_30 : decode cX6_type 30 = .ok (.aload_n 0, 1) := by decide +kernel
theorem dX6_type_31 : decode cX6_type 31 = .ok (.getfield 29, 3) := by decide +kernel
theorem dX6_type_34 : decode cX6_type 34 = .ok (.getfield 51, 3) := by decide +kernel
theorem dX6_type_37 : decode cX6_type 37 = .ok (.ireturn, 1) := by decide +kernel
theorem dX6_clearText_0 : decode cX6_clearText 0 = .ok (.aload_n 0, 1) := by decide +kernel
theorem dX6_clearText_1 : decode cX6_clearText 1 = .ok (.getfield 29, 3) := by decide +kernel
theorem dX6_clearText_4 : decode cX6_clearText 4 = .ok (.getfield 51, 3) := by decide +kernel
theorem dX6_clearText_7 : decode cX6_clearText 7 = .ok (.istore_n 1, 1) := by decide +kernel
theorem dX6_clearText_8 : decode cX6_clearText 8 = .ok (.aload_n 0, 1) := by decide +kernel
theorem dX6_clearText_9 : decode cX6_clearText 9 = .ok (.getfield 29, 3) := by decide +kernel
theorem dX6_clearText_12 : decode cX6_clearText 12 = .ok (.invokevirtual 55, 3) := by decide +kernel
theorem dX6_clearText_15 : decode cX6_clearText 15 = .ok (.iload_n 1, 1) := by decide +kernel
theorem dX6_clearText_16 : decode cX6_clearText 16 = .ok (.ireturn, 1) := by decide +kernel
theorem dX6_add_0 : decode cX6_add 0 = .ok (.aload_n 0, 1) := by decide +kernel
theorem dX6_add_1 : decode cX6_add 1 = .ok (.getfield 29, 3) := by decide +kernel
theorem dX6_add_4 : decode cX6_add 4 = .ok (.invokevirtual 113, 3) := by decide +kernel
theorem dX6_add_7 : decode cX6_add 7 = .ok (.ifCond .ne 6, 3) := by decide +kernel
theorem dX6_add_10 : decode cX6_add 10 = .ok (.bipush (-5), 2) := by decide +kernel
theorem dX6_add_12 : decode cX6_add 12 = .ok (.ireturn, 1) := by decide +kernel
theorem dX6_add_13 : decode cX6_add 13 = .ok (.aload_n 0, 1) := by decide +kernel
theorem dX6_add_14 : decode cX6_add 14 = .ok (.getfield 29, 3) := by decide +kernel
theorem dX6_add_17 : decode cX6_add 17 = .ok (.invokevirtual 82, 3) := by decide +kernel
theorem dX6_add_20 : decode cX6_add 20 = .ok (.astore_n 1, 1) := by decide +kernel
theorem dX6_add_21 : decode cX6_add 21 = .ok (.aload_n 0, 1) := by decide +kernel
theorem dX6_add_22 : decode cX6_add 22 = .ok (.getfield 10, 3) := by decide +kernel
theorem dX6_add_25 : decode cX6_add 25 = .ok (.aload_n 1, 1) := by decide +kernel
theorem dX6_add_26 : decode cX6_add 26 = .ok (.invokevirtual 116, 3) := by decide +kernel
theorem dX6_add_29 : decode cX6_add 29 = .ok (.istore_n 2, 1) := by decide +kernel
theorem dX6_add_30 : decode cX6_add 30 = .ok (.iload_n 2, 1) := by decide +kernel
theorem dX6_add_31 : decode cX6_add 31 = .ok (.ifCond .ge 5, 3) := by decide +kernel
theorem dX6_add_34 : decode cX6_add 34 = .ok (.iload_n 2, 1) := by decide +kernel
theorem dX6_add_35 : decode cX6_add 35 = .ok (.ireturn, 1) := by decide +kernel
theorem dX6_add_36 : decode cX6_add 36 = .ok (.aload_n 0, 1) := by decide +kernel
theorem dX6_add_37 : decode cX6_add 37 = .ok (.getfield 22, 3) := by decide +kernel
theorem dX6_add_40 : decode cX6_add 40 = .ok (.aload_n 0, 1) := by decide +kernel
theorem dX6_add_41 : decode cX6_add 41 = .ok (.getfield 10, 3) := by decide +kernel
theorem dX6_add_44 : decode cX6_add 44 = .ok (.invokevirtual 62, 3) := by decide +kernel
theorem dX6_add_47 : decode cX6_add 47 = .ok (.aload_n 0, 1) := by decide +kernel
theorem dX6_add_48 : decode cX6_add 48 = .ok (.getfield 29, 3) := by decide +kernel
theorem dX6_add_51 : decode cX6_add 51 = .ok (.invokevirtual 55, 3) := by decide +kernel
theorem dX6_add_54 : decode cX6_add 54 = .ok (.aload_n 0, 1) := by decide +kernel
theorem dX6_add_55 : decode cX6_add 55 = .ok (.aload_n 1, 1) := by decide +kernel
theorem dX6_add_56 : decode cX6_add 56 = .ok (.invokevirtual 86, 3) := by decide +kernel
theorem dX6_add_59 : decode cX6_add 59 = .ok (.ireturn, 1) := by decide +kernel
theorem dX6_addIfPossible_0 : decode cX6_addIfPossible 0 = .ok (.aload_n 0, 1) := by decide +kernel
theorem dX6_addIfPossible_1 : decode cX6_addIfPossible 1 = .ok (.getfield 10, 3) := by decide +kernel
theorem dX6_addIfPossible_4 : decode cX6_addIfPossible 4 = .ok (.aload_n 1, 1) := by decide +kernel
theorem dX6_addIfPossible_5 : decode cX6_addIfPossible 5 = .ok (.invokevirtual 116, 3) := by decide +kernel
theorem dX6_addIfPossible_8 : decode cX6_addIfPossible 8 = .ok (.istore_n 2, 1) := by decide +kernel
theorem dX6_addIfPossible_9 : decode cX6_addIfPossible 9 = .ok (.iload_n 2, 1) := by decide +kernel
theorem dX6_addIfPossible_10 : decode cX6_addIfPossible 10 = .ok (.ifCond .ge 5, 3) := by decide +kernel
theorem dX6_addIfPossible_13 : decode cX6_addIfPossible 13 = .ok (.iload_n 2, 1) := by decide +kernel
theorem dX6_addIfPossible_14 : decode cX6_addIfPossible 14 = .ok (.ireturn, 1) := by decide +kernel
theorem dX6_addIfPossible_15 : decode cX6_addIfPossible 15 = .ok (.aload_n 0, 1) := by decide +kernel
theorem dX6_addIfPossible_16 : decode cX6_addIfPossible 16 = .ok (.getfield 10, 3) := by decide +kernel
theorem dX6_addIfPossible_19 : decode cX6_addIfPossible 19 = .ok (.getfield 119, 3) := by decide +kernel
theorem dX6_addIfPossible_22 : decode cX6_addIfPossible 22 = .ok (.aload_n 1, 1) := by decide +kernel
theorem dX6_addIfPossible_23 : decode cX6_addIfPossible 23 = .ok (.invokevirtual 123, 3) := by decide +kernel
theorem dX6_addIfPossible_26 : decode cX6_addIfPossible 26 = .ok (.pop, 1) := by decide +kernel
theorem dX6_addIfPossible_27 : decode cX6_addIfPossible 27 = .ok (.aload_n 0, 1) := by decide +kernel
theorem dX6_addIfPossible_28 : decode cX6_addIfPossible 28 = .ok (.getfield 10, 3) := by decide +kernel
theorem dX6_addIfPossible_31 : decode cX6_addIfPossible 31 = .ok (.getfield 119, 3) := by decide +kernel
theorem dX6_addIfPossible_34 : decode cX6_addIfPossible 34 = .ok (.invokevirtual 129, 3) := by decide +kernel
theorem dX6_addIfPossible_37 : decode cX6_addIfPossible 37 = .ok (.iconst 1, 1) := by decide +kernel
theorem dX6_addIfPossible_38 : decode cX6_addIfPossible 38 = .ok (.isub, 1) := by decide +kernel
theorem dX6_addIfPossible_39 : decode cX6_addIfPossible 39 = .ok (.ireturn, 1) := by decide +kernel
theorem dX6_drop_0 : decode cX6_drop 0 = .ok (.aload_n 0, 1) := by decide +kernel
theorem dX6_drop_1 : decode cX6_drop 1 = .ok (.getfield 10, 3) := by decide +kernel
theorem dX6_drop_4 : decode cX6_drop 4 = .ok (.iload_n 1, 1) := by decide +kernel
theorem dX6_drop_5 : decode cX6_drop 5 = .ok (.invokevirtual 132, 3) := by decide +kernel
theorem dX6_drop_8 : decode cX6_drop 8 = .ok (.ifCond .ne 5, 3) := by decide +kernel
theorem dX6_drop_11 : decode cX6_drop 11 = .ok (.iconst (-1), 1) := by decide +kernel
theorem dX6_drop_12 : decode cX6_drop 12 = .ok (.ireturn, 1) := by decide +kernel
theorem dX6_drop_13 : decode cX6_drop 13 = .ok (.aload_n 0, 1) := by decide +kernel
theorem dX6_drop_14 : decode cX6_drop 14 = .ok (.getfield 22, 3) := by decide +kernel
theorem dX6_drop_17 : decode cX6_drop 17 = .ok (.aload_n 0, 1) := by decide +kernel
theorem dX6_drop_18 : decode cX6_drop 18 = .ok (.getfield 10, 3) := by decide +kernel
theorem dX6_drop_21 : decode cX6_drop 21 = .ok (.invokevirtual 62, 3) := by decide +kernel
theorem dX6_drop_24 : decode cX6_drop 24 = .ok (.aload_n 0, 1) := by decide +kernel
theorem dX6_drop_25 : decode cX6_drop 25 = .ok (.iload_n 1, 1) := by decide +kernel
theorem dX6_drop_26 : decode cX6_drop 26 = .ok (.invokevirtual 93, 3) := by decide +kernel
theorem dX6_drop_29 : decode cX6_drop 29 = .ok (.pop, 1) := by decide +kernel
theorem dX6_drop_30 : decode cX6_drop 30 = .ok (.aload_n 0, 1) := by decide +kernel
theorem dX6_drop_31 : decode cX6_drop 31 = .ok (.getfield 10, 3) := by decide +kernel
theorem dX6_drop_34 : decode cX6_drop 34 = .ok (.getfield 119, 3) := by decide +kernel
theorem dX6_drop_37 : decode cX6_drop 37 = .ok (.invokevirtual 129, 3) := by decide +kernel
theorem dX6_drop_40 : decode cX6_drop 40 = .ok (.ireturn, 1) := by decide +kernel
theorem dX6_dropIfThere_0 : decode cX6_dropIfThere 0 = .ok (.aload_n 0, 1) := by decide +kernel
theorem dX6_dropIfThere_1 : decode cX6_dropIfThere 1 = .ok (.getfield 10, 3) := by decide +kernel
theorem dX6_dropIfThere_4 : decode cX6_dropIfThere 4 = .ok (.iload_n 1, 1) := by decide +kernel
theorem dX6_dropIfThere_5 : decode cX6_dropIfThere 5 = .ok (.invokevirtual 132, 3) := by decide +kernel
theorem dX6_dropIfThere_8 : decode cX6_dropIfThere 8 = .ok (.ifCond .ne 5, 3) := by decide +kernel
theorem dX6_dropIfThere_11 : decode cX6_dropIfThere 11 = .ok (.iconst 0, 1) := by decide +kernel
theorem dX6_dropIfThere_12 : decode cX6_dropIfThere 12 = .ok (.ireturn, 1) := by decide +kernel
theorem dX6_dropIfThere_13 : decode cX6_dropIfThere 13 = .ok (.aload_n 0, 1) := by decide +kernel
theorem dX6_dropIfThere_14 : decode cX6_dropIfThere 14 = .ok (.getfield 10, 3) := by decide +kernel
theorem dX6_dropIfThere_17 : decode cX6_dropIfThere 17 = .ok (.getfield 119, 3) := by decide +kernel
theorem dX6_dropIfThere_20 : decode cX6_dropIfThere 20 = .ok (.iload_n 1, 1) := by decide +kernel
theorem dX6_dropIfThere_21 : decode cX6_dropIfThere 21 = .ok (.invokevirtual 135, 3) := by decide +kernel
theorem dX6_dropIfThere_24 : decode cX6_dropIfThere 24 = .ok (.pop, 1) := by decide +kernel
theorem dX6_dropIfThere_25 : decode cX6_dropIfThere 25 = .ok (.iconst 1, 1) := by decide +kernel
theorem dX6_dropIfThere_26 : decode cX6_dropIfThere 26 = .ok (.ireturn, 1) := by decide +kernel
theorem dX6_titles_0 : decode cX6_titles 0 = .ok (.aload_n 0, 1) := by decide +kernel
theorem dX6_titles_1 : decode cX6_titles 1 = .ok (.getfield 10, 3) := by decide +kernel
theorem dX6_titles_4 : decode cX6_titles 4 = .ok (.getfield 119, 3) := by decide +kernel
theorem dX6_titles_7 : decode cX6_titles 7 = .ok (.invokevirtual 129, 3) := by decide +kernel
theorem dX6_titles_10 : decode cX6_titles 10 = .ok (.ireturn, 1) := by decide +kernel
theorem dX6_character_0 : decode cX6_character 0 = .ok (.aload_n 0, 1) := by decide +kernel
theorem dX6_character_1 : decode cX6_character 1 = .ok (.getfield 10, 3) := by decide +kernel
theorem dX6_character_4 : decode cX6_character 4 = .ok (.iload_n 1, 1) := by decide +kernel
theorem dX6_character_5 : decode cX6_character 5 = .ok (.invokevirtual 132, 3) := by decide +kernel
theorem dX6_character_8 : decode cX6_character 8 = .ok (.ifCond .ne 5, 3) := by decide +kernel
theorem dX6_character_11 : decode cX6_character 11 = .ok (.iconst (-1), 1) := by decide +kernel
theorem dX6_character_12 : decode cX6_character 12 = .ok (.ireturn, 1) := by decide +kernel
theorem dX6_character_13 : decode cX6_character 13 = .ok (.aload_n 0, 1) := by decide +kernel
theorem dX6_character_14 : decode cX6_character 14 = .ok (.getfield 10, 3) := by decide +kernel
theorem dX6_character_17 : decode cX6_character 17 = .ok (.getfield 119, 3) := by decide +kernel
theorem dX6_character_20 : decode cX6_character 20 = .ok (.iload_n 1, 1) := by decide +kernel
theorem dX6_character_21 : decode cX6_character 21 = .ok (.invokevirtual 139, 3) := by decide +kernel
theorem dX6_character_24 : decode cX6_character 24 = .ok (.checkcast 142, 3) := by decide +kernel
theorem dX6_character_27 : decode cX6_character 27 = .ok (.getfield 144, 3) := by decide +kernel
theorem dX6_character_30 : decode cX6_character 30 = .ok (.astore_n 3, 1) := by decide +kernel
theorem dX6_character_31 : decode cX6_character 31 = .ok (.iload_n 2, 1) := by decide +kernel
theorem dX6_character_32 : decode cX6_character 32 = .ok (.ifCond .lt 9, 3) := by decide +kernel
theorem dX6_character_35 : decode cX6_character 35 = .ok (.iload_n 2, 1) := by decide +kernel
theorem dX6_character_36 : decode cX6_character 36 = .ok (.aload_n 3, 1) := by decide +kernel
theorem dX6_character_37 : decode cX6_character 37 = .ok (.arraylength, 1) := by decide +kernel
theorem dX6_character_38 : decode cX6_character 38 = .ok (.if_icmp .lt 5, 3) := by decide +kernel
theorem dX6_character_41 : decode cX6_character 41 = .ok (.iconst (-1), 1) := by decide +kernel
theorem dX6_character_42 : decode cX6_character 42 = .ok (.ireturn, 1) := by decide +kernel
theorem dX6_character_43 : decode cX6_character 43 = .ok (.aload_n 3, 1) := by decide +kernel
theorem dX6_character_44 : decode cX6_character 44 = .ok (.iload_n 2, 1) := by decide +kernel
theorem dX6_character_45 : decode cX6_character 45 = .ok (.caload, 1) := by decide +kernel
theorem dX6_character_46 : decode cX6_character 46 = .ok (.ireturn, 1) := by decide +kernel
theorem dX6_of_0 : decode cX6_of 0 = .ok (.aload_n 0, 1) := by decide +kernel
theorem dX6_of_1 : decode cX6_of 1 = .ok (.getfield 10, 3) := by decide +kernel
theorem dX6_of_4 : decode cX6_of 4 = .ok (.iload_n 1, 1) := by decide +kernel
theorem dX6_of_5 : decode cX6_of 5 = .ok (.invokevirtual 132, 3) := by decide +kernel
theorem dX6_of_8 : decode cX6_of 8 = .ok (.ifCond .ne 5, 3) := by decide +kernel
theorem dX6_of_11 : decode cX6_of 11 = .ok (.iconst (-1), 1) := by decide +kernel
theorem dX6_of_12 : decode cX6_of 12 = .ok (.ireturn, 1) := by decide +kernel
theorem dX6_of_13 : decode cX6_of 13 = .ok (.iload_n 2, 1) := by decide +kernel
theorem dX6_of_14 : decode cX6_of 14 = .ok (.ifCond .lt 9, 3) := by decide +kernel
theorem dX6_of_17 : decode cX6_of 17 = .ok (.iload_n 2, 1) := by decide +kernel
theorem dX6_of_18 : decode cX6_of 18 = .ok (.bipush 6, 2) := by decide +kernel
theorem dX6_of_20 : decode cX6_of 20 = .ok (.if_icmp .le 6, 3) := by decide +kernel
theorem dX6_of_23 : decode cX6_of 23 = .ok (.bipush (-2), 2) := by decide +kernel
theorem dX6_of_25 : decode cX6_of 25 = .ok (.ireturn, 1) := by decide +kernel
theorem dX6_of_26 : decode cX6_of 26 = .ok (.aload_n 0, 1) := by decide +kernel
theorem dX6_of_27 : decode cX6_of 27 = .ok (.getfield 43, 3) := by decide +kernel
theorem dX6_of_30 : decode cX6_of 30 = .ok (.aload_n 0, 1) := by decide +kernel
theorem dX6_of_31 : decode cX6_of 31 = .ok (.getfield 10, 3) := by decide +kernel
theorem dX6_of_34 : decode cX6_of 34 = .ok (.iload_n 1, 1) := by decide +kernel
theorem dX6_of_35 : decode cX6_of 35 = .ok (.invokevirtual 148, 3) := by decide +kernel
theorem dX6_of_38 : decode cX6_of 38 = .ok (.aload_n 0, 1) := by decide +kernel
theorem dX6_of_39 : decode cX6_of 39 = .ok (.aload_n 0, 1) := by decide +kernel
theorem dX6_of_40 : decode cX6_of 40 = .ok (.getfield 10, 3) := by decide +kernel
theorem dX6_of_43 : decode cX6_of 43 = .ok (.getfield 119, 3) := by decide +kernel
theorem dX6_of_46 : decode cX6_of 46 = .ok (.iload_n 1, 1) := by decide +kernel
theorem dX6_of_47 : decode cX6_of 47 = .ok (.invokevirtual 139, 3) := by decide +kernel
theorem dX6_of_50 : decode cX6_of 50 = .ok (.checkcast 142, 3) := by decide +kernel
theorem dX6_of_53 : decode cX6_of 53 = .ok (.iload_n 2, 1) := by decide +kernel
theorem dX6_of_54 : decode cX6_of 54 = .ok (.invokevirtual 152, 3) := by decide +kernel
theorem dX6_of_57 : decode cX6_of 57 = .ok (.ireturn, 1) := by decide +kernel
theorem dX6_studiedNumber_0 : decode cX6_studiedNumber 0 = .ok (.iload_n 2, 1) := by decide +kernel
theorem dX6_studiedNumber_1 : decode cX6_studiedNumber 1 = .ok (.tableswitch 152 0 6 #[43, 49, 55, 60, 83, 106, 129], 43) := by decide +kernel
theorem dX6_studiedNumber_44 : decode cX6_studiedNumber 44 = .ok (.aload_n 1, 1) := by decide +kernel
theorem dX6_studiedNumber_45 : decode cX6_studiedNumber 45 = .ok (.getfield 144, 3) := by decide +kernel
theorem dX6_studiedNumber_48 : decode cX6_studiedNumber 48 = .ok (.arraylength, 1) := by decide +kernel
theorem dX6_studiedNumber_49 : decode cX6_studiedNumber 49 = .ok (.ireturn, 1) := by decide +kernel
theorem dX6_studiedNumber_50 : decode cX6_studiedNumber 50 = .ok (.aload_n 1, 1) := by decide +kernel
theorem dX6_studiedNumber_51 : decode cX6_studiedNumber 51 = .ok (.getfield 156, 3) := by decide +kernel
theorem dX6_studiedNumber_54 : decode cX6_studiedNumber 54 = .ok (.arraylength, 1) := by decide +kernel
theorem dX6_studiedNumber_55 : decode cX6_studiedNumber 55 = .ok (.ireturn, 1) := by decide +kernel
theorem dX6_studiedNumber_56 : decode cX6_studiedNumber 56 = .ok (.aload_n 1, 1) := by decide +kernel
theorem dX6_studiedNumber_57 : decode cX6_studiedNumber 57 = .ok (.getfield 159, 3) := by decide +kernel
theorem dX6_studiedNumber_60 : decode cX6_studiedNumber 60 = .ok (.ireturn, 1) := by decide +kernel
theorem dX6_studiedNumber_61 : decode cX6_studiedNumber 61 = .ok (.aload_n 0, 1) := by decide +kernel
theorem dX6_studiedNumber_62 : decode cX6_studiedNumber 62 = .ok (.getfield 43, 3) := by decide +kernel
theorem dX6_studiedNumber_65 : decode cX6_studiedNumber 65 = .ok (.invokevirtual 162, 3) := by decide +kernel
theorem dX6_studiedNumber_68 : decode cX6_studiedNumber 68 = .ok (.ifCond .eq 13, 3) := by decide +kernel
theorem dX6_studiedNumber_71 : decode cX6_studiedNumber 71 = .ok (.aload_n 0, 1) := by decide +kernel
theorem dX6_studiedNumber_72 : decode cX6_studiedNumber 72 = .ok (.getfield 43, 3) := by decide +kernel
theorem dX6_studiedNumber_75 : decode cX6_studiedNumber 75 = .ok (.getfield 165, 3) := by decide +kernel
theorem dX6_studiedNumber_78 : decode cX6_studiedNumber 78 = .ok (.goto 5, 3) := by decide +kernel
theorem dX6_studiedNumber_81 : decode cX6_studiedNumber 81 = .ok (.bipush (-6), 2) := by decide +kernel
theorem dX6_studiedNumber_83 : decode cX6_studiedNumber 83 = .ok (.ireturn, 1) := by decide +kernel
theorem dX6_studiedNumber_84 : decode cX6_studiedNumber 84 = .ok (.aload_n 0, 1) := by decide +kernel
theorem dX6_studiedNumber_85 : decode cX6_studiedNumber 85 = .ok (.getfield 43, 3) := by decide +kernel
theorem dX6_studiedNumber_88 : decode cX6_studiedNumber 88 = .ok (.invokevirtual 162, 3) := by decide +kernel
theorem dX6_studiedNumber_91 : decode cX6_studiedNumber 91 = .ok (.ifCond .eq 13, 3) := by decide +kernel
theorem dX6_studiedNumber_94 : decode cX6_studiedNumber 94 = .ok (.aload_n 0, 1) := by decide +kernel
theorem dX6_studiedNumber_95 : decode cX6_studiedNumber 95 = .ok (.getfield 43, 3) := by decide +kernel
theorem dX6_studiedNumber_98 : decode cX6_studiedNumber 98 = .ok (.getfield 168, 3) := by decide +kernel
theorem dX6_studiedNumber_101 : decode cX6_studiedNumber 101 = .ok (.goto 5, 3) := by decide +kernel
theorem dX6_studiedNumber_104 : decode cX6_studiedNumber 104 = .ok (.bipush (-6), 2) := by decide +kernel
theorem dX6_studiedNumber_106 : decode cX6_studiedNumber 106 = .ok (.ireturn, 1) := by decide +kernel
theorem dX6_studiedNumber_107 : decode cX6_studiedNumber 107 = .ok (.aload_n 0, 1) := by decide +kernel
theorem dX6_studiedNumber_108 : decode cX6_studiedNumber 108 = .ok (.getfield 43, 3) := by decide +kernel
theorem dX6_studiedNumber_111 : decode cX6_studiedNumber 111 = .ok (.invokevirtual 171, 3) := by decide +kernel
theorem dX6_studiedNumber_114 : decode cX6_studiedNumber 114 = .ok (.ifCond .eq 13, 3) := by decide +kernel
theorem dX6_studiedNumber_117 : decode cX6_studiedNumber 117 = .ok (.aload_n 0, 1) := by decide +kernel
theorem dX6_studiedNumber_118 : decode cX6_studiedNumber 118 = .ok (.getfield 43, 3) := by decide +kernel
theorem dX6_studiedNumber_121 : decode cX6_studiedNumber 121 = .ok (.getfield 174, 3) := by decide +kernel
theorem dX6_studiedNumber_124 : decode cX6_studiedNumber 124 = .ok (.goto 5, 3) := by decide +kernel
theorem dX6_studiedNumber_127 : decode cX6_studiedNumber 127 = .ok (.bipush (-6), 2) := by decide +kernel
theorem dX6_studiedNumber_129 : decode cX6_studiedNumber 129 = .ok (.ireturn, 1) := by decide +kernel
theorem dX6_studiedNumber_130 : decode cX6_studiedNumber 130 = .ok (.aload_n 0, 1) := by decide +kernel
theorem dX6_studiedNumber_131 : decode cX6_studiedNumber 131 = .ok (.getfield 43, 3) := by decide +kernel
theorem dX6_studiedNumber_134 : decode cX6_studiedNumber 134 = .ok (.invokevirtual 171, 3) := by decide +kernel
theorem dX6_studiedNumber_137 : decode cX6_studiedNumber 137 = .ok (.ifCond .eq 13, 3) := by decide +kernel
theorem dX6_studiedNumber_140 : decode cX6_studiedNumber 140 = .ok (.aload_n 0, 1) := by decide +kernel
theorem dX6_studiedNumber_141 : decode cX6_studiedNumber 141 = .ok (.getfield 43, 3) := by decide +kernel
theorem dX6_studiedNumber_144 : decode cX6_studiedNumber 144 = .ok (.getfield 177, 3) := by decide +kernel
theorem dX6_studiedNumber_147 : decode cX6_studiedNumber 147 = .ok (.goto 5, 3) := by decide +kernel
theorem dX6_studiedNumber_150 : decode cX6_studiedNumber 150 = .ok (.bipush (-6), 2) := by decide +kernel
theorem dX6_studiedNumber_152 : decode cX6_studiedNumber 152 = .ok (.ireturn, 1) := by decide +kernel
theorem dX6_studiedNumber_153 : decode cX6_studiedNumber 153 = .ok (.bipush (-2), 2) := by decide +kernel
theorem dX6_studiedNumber_155 : decode cX6_studiedNumber 155 = .ok (.ireturn, 1) := by decide +kernel
theorem dX6_common_0 : decode cX6_common 0 = .ok (.aload_n 0, 1) := by decide +kernel
theorem dX6_common_1 : decode cX6_common 1 = .ok (.getfield 10, 3) := by decide +kernel
theorem dX6_common_4 : decode cX6_common 4 = .ok (.iload_n 1, 1) := by decide +kernel
theorem dX6_common_5 : decode cX6_common 5 = .ok (.invokevirtual 132, 3) := by decide +kernel
theorem dX6_common_8 : decode cX6_common 8 = .ok (.ifCond .eq 14, 3) := by decide +kernel
theorem dX6_common_11 : decode cX6_common 11 = .ok (.aload_n 0, 1) := by decide +kernel
theorem dX6_common_12 : decode cX6_common 12 = .ok (.getfield 10, 3) := by decide +kernel
theorem dX6_common_15 : decode cX6_common 15 = .ok (.iload_n 2, 1) := by decide +kernel
theorem dX6_common_16 : decode cX6_common 16 = .ok (.invokevirtual 132, 3) := by decide +kernel
theorem dX6_common_19 : decode cX6_common 19 = .ok (.ifCond .ne 5, 3) := by decide +kernel
theorem dX6_common_22 : decode cX6_common 22 = .ok (.iconst (-1), 1) := by decide +kernel
theorem dX6_common_23 : decode cX6_common 23 = .ok (.ireturn, 1) := by decide +kernel
theorem dX6_common_24 : decode cX6_common 24 = .ok (.aload_n 0, 1) := by decide +kernel
theorem dX6_common_25 : decode cX6_common 25 = .ok (.getfield 10, 3) := by decide +kernel
theorem dX6_common_28 : decode cX6_common 28 = .ok (.getfield 119, 3) := by decide +kernel
theorem dX6_common_31 : decode cX6_common 31 = .ok (.iload_n 1, 1) := by decide +kernel
theorem dX6_common_32 : decode cX6_common 32 = .ok (.invokevirtual 139, 3) := by decide +kernel
theorem dX6_common_35 : decode cX6_common 35 = .ok (.checkcast 142, 3) := by decide +kernel
theorem dX6_common_38 : decode cX6_common 38 = .ok (.aload_n 0, 1) := by decide +kernel
theorem dX6_common_39 : decode cX6_common 39 = .ok (.getfield 10, 3) := by decide +kernel
theorem dX6_common_42 : decode cX6_common 42 = .ok (.getfield 119, 3) := by decide +kernel
theorem dX6_common_45 : decode cX6_common 45 = .ok (.iload_n 2, 1) := by decide +kernel
theorem dX6_common_46 : decode cX6_common 46 = .ok (.invokevirtual 139, 3) := by decide +kernel
theorem dX6_common_49 : decode cX6_common 49 = .ok (.checkcast 142, 3) := by decide +kernel
theorem dX6_common_52 : decode cX6_common 52 = .ok (.invokevirtual 180, 3) := by decide +kernel
theorem dX6_common_55 : decode cX6_common 55 = .ok (.ireturn, 1) := by decide +kernel
theorem dX6_closest_0 : decode cX6_closest 0 = .ok (.aload_n 0, 1) := by decide +kernel
theorem dX6_closest_1 : decode cX6_closest 1 = .ok (.getfield 10, 3) := by decide +kernel
theorem dX6_closest_4 : decode cX6_closest 4 = .ok (.iload_n 1, 1) := by decide +kernel
theorem dX6_closest_5 : decode cX6_closest 5 = .ok (.invokevirtual 132, 3) := by decide +kernel
theorem dX6_closest_8 : decode cX6_closest 8 = .ok (.ifCond .ne 5, 3) := by decide +kernel
theorem dX6_closest_11 : decode cX6_closest 11 = .ok (.iconst (-1), 1) := by decide +kernel
theorem dX6_closest_12 : decode cX6_closest 12 = .ok (.ireturn, 1) := by decide +kernel
theorem dX6_closest_13 : decode cX6_closest 13 = .ok (.aload_n 0, 1) := by decide +kernel
theorem dX6_closest_14 : decode cX6_closest 14 = .ok (.getfield 10, 3) := by decide +kernel
theorem dX6_closest_17 : decode cX6_closest 17 = .ok (.getfield 119, 3) := by decide +kernel
theorem dX6_closest_20 : decode cX6_closest 20 = .ok (.iload_n 1, 1) := by decide +kernel
theorem dX6_closest_21 : decode cX6_closest 21 = .ok (.invokevirtual 139, 3) := by decide +kernel
theorem dX6_closest_24 : decode cX6_closest 24 = .ok (.checkcast 142, 3) := by decide +kernel
theorem dX6_closest_27 : decode cX6_closest 27 = .ok (.astore_n 2, 1) := by decide +kernel
theorem dX6_closest_28 : decode cX6_closest 28 = .ok (.bipush (-6), 2) := by decide +kernel
theorem dX6_closest_30 : decode cX6_closest 30 = .ok (.istore_n 3, 1) := by decide +kernel
theorem dX6_closest_31 : decode cX6_closest 31 = .ok (.iconst (-1), 1) := by decide +kernel
theorem dX6_closest_32 : decode cX6_closest 32 = .ok (.istore 4, 2) := by decide +kernel
theorem dX6_closest_34 : decode cX6_closest 34 = .ok (.iconst 0, 1) := by decide +kernel
theorem dX6_closest_35 : decode cX6_closest 35 = .ok (.istore 5, 2) := by decide +kernel
theorem dX6_closest_37 : decode cX6_closest 37 = .ok (.iload 5, 2) := by decide +kernel
theorem dX6_closest_39 : decode cX6_closest 39 = .ok (.aload_n 0, 1) := by decide +kernel
theorem dX6_closest_40 : decode cX6_closest 40 = .ok (.getfield 10, 3) := by decide +kernel
theorem dX6_closest_43 : decode cX6_closest 43 = .ok (.getfield 119, 3) := by decide +kernel
theorem dX6_closest_46 : decode cX6_closest 46 = .ok (.invokevirtual 129, 3) := by decide +kernel
theorem dX6_closest_49 : decode cX6_closest 49 = .ok (.if_icmp .ge 54, 3) := by decide +kernel
theorem dX6_closest_52 : decode cX6_closest 52 = .ok (.iload 5, 2) := by decide +kernel
theorem dX6_closest_54 : decode cX6_closest 54 = .ok (.iload_n 1, 1) := by decide +kernel
theorem dX6_closest_55 : decode cX6_closest 55 = .ok (.if_icmp .ne 7, 3) := by decide +kernel
theorem dX6_closest_58 : decode cX6_closest 58 = .ok (.iconst (-1), 1) := by decide +kernel
theorem dX6_closest_59 : decode cX6_closest 59 = .ok (.goto 22, 3) := by decide +kernel
theorem dX6_closest_62 : decode cX6_closest 62 = .ok (.aload_n 2, 1) := by decide +kernel
theorem dX6_closest_63 : decode cX6_closest 63 = .ok (.aload_n 0, 1) := by decide +kernel
theorem dX6_closest_64 : decode cX6_closest 64 = .ok (.getfield 10, 3) := by decide +kernel
theorem dX6_closest_67 : decode cX6_closest 67 = .ok (.getfield 119, 3) := by decide +kernel
theorem dX6_closest_70 : decode cX6_closest 70 = .ok (.iload 5, 2) := by decide +kernel
theorem dX6_closest_72 : decode cX6_closest 72 = .ok (.invokevirtual 139, 3) := by decide +kernel
theorem dX6_closest_75 : decode cX6_closest 75 = .ok (.checkcast 142, 3) := by decide +kernel
theorem dX6_closest_78 : decode cX6_closest 78 = .ok (.invokevirtual 180, 3) := by decide +kernel
theorem dX6_closest_81 : decode cX6_closest 81 = .ok (.istore 6, 2) := by decide +kernel
theorem dX6_closest_83 : decode cX6_closest 83 = .ok (.iload 6, 2) := by decide +kernel
theorem dX6_closest_85 : decode cX6_closest 85 = .ok (.iload 4, 2) := by decide +kernel
theorem dX6_closest_87 : decode cX6_closest 87 = .ok (.if_icmp .le 10, 3) := by decide +kernel
theorem dX6_closest_90 : decode cX6_closest 90 = .ok (.iload 6, 2) := by decide +kernel
theorem dX6_closest_92 : decode cX6_closest 92 = .ok (.istore 4, 2) := by decide +kernel
theorem dX6_closest_94 : decode cX6_closest 94 = .ok (.iload 5, 2) := by decide +kernel
theorem dX6_closest_96 : decode cX6_closest 96 = .ok (.istore_n 3, 1) := by decide +kernel
theorem dX6_closest_97 : decode cX6_closest 97 = .ok (.iinc 5 1, 3) := by decide +kernel
theorem dX6_closest_100 : decode cX6_closest 100 = .ok (.goto (-63), 3) := by decide +kernel
theorem dX6_closest_103 : decode cX6_closest 103 = .ok (.iload_n 3, 1) := by decide +kernel
theorem dX6_closest_104 : decode cX6_closest 104 = .ok (.ireturn, 1) := by decide +kernel
theorem dX6_unknown_0 : decode cX6_unknown 0 = .ok (.iconst 0, 1) := by decide +kernel
theorem dX6_unknown_1 : decode cX6_unknown 1 = .ok (.istore_n 1, 1) := by decide +kernel
theorem dX6_unknown_2 : decode cX6_unknown 2 = .ok (.iconst 0, 1) := by decide +kernel
theorem dX6_unknown_3 : decode cX6_unknown 3 = .ok (.istore_n 2, 1) := by decide +kernel
theorem dX6_unknown_4 : decode cX6_unknown 4 = .ok (.iload_n 2, 1) := by decide +kernel
theorem dX6_unknown_5 : decode cX6_unknown 5 = .ok (.aload_n 0, 1) := by decide +kernel
theorem dX6_unknown_6 : decode cX6_unknown 6 = .ok (.getfield 10, 3) := by decide +kernel
theorem dX6_unknown_9 : decode cX6_unknown 9 = .ok (.getfield 119, 3) := by decide +kernel
theorem dX6_unknown_12 : decode cX6_unknown 12 = .ok (.invokevirtual 129, 3) := by decide +kernel
theorem dX6_unknown_15 : decode cX6_unknown 15 = .ok (.if_icmp .ge 34, 3) := by decide +kernel
theorem dX6_unknown_18 : decode cX6_unknown 18 = .ok (.aload_n 0, 1) := by decide +kernel
theorem dX6_unknown_19 : decode cX6_unknown 19 = .ok (.getfield 43, 3) := by decide +kernel
theorem dX6_unknown_22 : decode cX6_unknown 22 = .ok (.aload_n 0, 1) := by decide +kernel
theorem dX6_unknown_23 : decode cX6_unknown 23 = .ok (.getfield 10, 3) := by decide +kernel
theorem dX6_unknown_26 : decode cX6_unknown 26 = .ok (.iload_n 2, 1) := by decide +kernel
theorem dX6_unknown_27 : decode cX6_unknown 27 = .ok (.invokevirtual 148, 3) := by decide +kernel
theorem dX6_unknown_30 : decode cX6_unknown 30 = .ok (.aload_n 0, 1) := by decide +kernel
theorem dX6_unknown_31 : decode cX6_unknown 31 = .ok (.getfield 43, 3) := by decide +kernel
theorem dX6_unknown_34 : decode cX6_unknown 34 = .ok (.invokevirtual 162, 3) := by decide +kernel
theorem dX6_unknown_37 : decode cX6_unknown 37 = .ok (.ifCond .ne 6, 3) := by decide +kernel
theorem dX6_unknown_40 : decode cX6_unknown 40 = .ok (.iinc 1 1, 3) := by decide +kernel
theorem dX6_unknown_43 : decode cX6_unknown 43 = .ok (.iinc 2 1, 3) := by decide +kernel
theorem dX6_unknown_46 : decode cX6_unknown 46 = .ok (.goto (-42), 3) := by decide +kernel
theorem dX6_unknown_49 : decode cX6_unknown 49 = .ok (.iload_n 1, 1) := by decide +kernel
theorem dX6_unknown_50 : decode cX6_unknown 50 = .ok (.ireturn, 1) := by decide +kernel
theorem dX6_hardest_0 : decode cX6_hardest 0 = .ok (.bipush (-6), 2) := by decide +kernel
theorem dX6_hardest_2 : decode cX6_hardest 2 = .ok (.istore_n 1, 1) := by decide +kernel
theorem dX6_hardest_3 : decode cX6_hardest 3 = .ok (.iconst 0, 1) := by decide +kernel
theorem dX6_hardest_4 : decode cX6_hardest 4 = .ok (.istore_n 2, 1) := by decide +kernel
theorem dX6_hardest_5 : decode cX6_hardest 5 = .ok (.iconst 0, 1) := by decide +kernel
theorem dX6_hardest_6 : decode cX6_hardest 6 = .ok (.istore_n 3, 1) := by decide +kernel
theorem dX6_hardest_7 : decode cX6_hardest 7 = .ok (.iload_n 3, 1) := by decide +kernel
theorem dX6_hardest_8 : decode cX6_hardest 8 = .ok (.aload_n 0, 1) := by decide +kernel
theorem dX6_hardest_9 : decode cX6_hardest 9 = .ok (.getfield 10, 3) := by decide +kernel
theorem dX6_hardest_12 : decode cX6_hardest 12 = .ok (.getfield 119, 3) := by decide +kernel
theorem dX6_hardest_15 : decode cX6_hardest 15 = .ok (.invokevirtual 129, 3) := by decide +kernel
theorem dX6_hardest_18 : decode cX6_hardest 18 = .ok (.if_icmp .ge 52, 3) := by decide +kernel
theorem dX6_hardest_21 : decode cX6_hardest 21 = .ok (.aload_n 0, 1) := by decide +kernel
theorem dX6_hardest_22 : decode cX6_hardest 22 = .ok (.getfield 43, 3) := by decide +kernel
theorem dX6_hardest_25 : decode cX6_hardest 25 = .ok (.aload_n 0, 1) := by decide +kernel
theorem dX6_hardest_26 : decode cX6_hardest 26 = .ok (.getfield 10, 3) := by decide +kernel
theorem dX6_hardest_29 : decode cX6_hardest 29 = .ok (.iload_n 3, 1) := by decide +kernel
theorem dX6_hardest_30 : decode cX6_hardest 30 = .ok (.invokevirtual 148, 3) := by decide +kernel
theorem dX6_hardest_33 : decode cX6_hardest 33 = .ok (.aload_n 0, 1) := by decide +kernel
theorem dX6_hardest_34 : decode cX6_hardest 34 = .ok (.getfield 43, 3) := by decide +kernel
theorem dX6_hardest_37 : decode cX6_hardest 37 = .ok (.invokevirtual 162, 3) := by decide +kernel
theorem dX6_hardest_40 : decode cX6_hardest 40 = .ok (.ifCond .eq 24, 3) := by decide +kernel
theorem dX6_hardest_43 : decode cX6_hardest 43 = .ok (.aload_n 0, 1) := by decide +kernel
theorem dX6_hardest_44 : decode cX6_hardest 44 = .ok (.getfield 43, 3) := by decide +kernel
theorem dX6_hardest_47 : decode cX6_hardest 47 = .ok (.getfield 168, 3) := by decide +kernel
theorem dX6_hardest_50 : decode cX6_hardest 50 = .ok (.iload_n 2, 1) := by decide +kernel
theorem dX6_hardest_51 : decode cX6_hardest 51 = .ok (.if_icmp .le 13, 3) := by decide +kernel
theorem dX6_hardest_54 : decode cX6_hardest 54 = .ok (.aload_n 0, 1) := by decide +kernel
theorem dX6_hardest_55 : decode cX6_hardest 55 = .ok (.getfield 43, 3) := by decide +kernel
theorem dX6_hardest_58 : decode cX6_hardest 58 = .ok (.getfield 168, 3) := by decide +kernel
theorem dX6_hardest_61 : decode cX6_hardest 61 = .ok (.istore_n 2, 1) := by decide +kernel
theorem dX6_hardest_62 : decode cX6_hardest 62 = .ok (.iload_n 3, 1) := by decide +kernel
theorem dX6_hardest_63 : decode cX6_hardest 63 = .ok (.istore_n 1, 1) := by decide +kernel
theorem dX6_hardest_64 : decode cX6_hardest 64 = .ok (.iinc 3 1, 3) := by decide +kernel
theorem dX6_hardest_67 : decode cX6_hardest 67 = .ok (.goto (-60), 3) := by decide +kernel
theorem dX6_hardest_70 : decode cX6_hardest 70 = .ok (.iload_n 1, 1) := by decide +kernel
theorem dX6_hardest_71 : decode cX6_hardest 71 = .ok (.ireturn, 1) := by decide +kernel
theorem dX6_ifAdded_0 : decode cX6_ifAdded 0 = .ok (.aload_n 0, 1) := by decide +kernel
theorem dX6_ifAdded_1 : decode cX6_ifAdded 1 = .ok (.getfield 29, 3) := by decide +kernel
theorem dX6_ifAdded_4 : decode cX6_ifAdded 4 = .ok (.invokevirtual 113, 3) := by decide +kernel
theorem dX6_ifAdded_7 : decode cX6_ifAdded 7 = .ok (.ifCond .ne 6, 3) := by decide +kernel
theorem dX6_ifAdded_10 : decode cX6_ifAdded 10 = .ok (.bipush (-5), 2) := by decide +kernel
theorem dX6_ifAdded_12 : decode cX6_ifAdded 12 = .ok (.ireturn, 1) := by decide +kernel
theorem dX6_ifAdded_13 : decode cX6_ifAdded 13 = .ok (.aload_n 0, 1) := by decide +kernel
theorem dX6_ifAdded_14 : decode cX6_ifAdded 14 = .ok (.getfield 29, 3) := by decide +kernel
theorem dX6_ifAdded_17 : decode cX6_ifAdded 17 = .ok (.invokevirtual 82, 3) := by decide +kernel
theorem dX6_ifAdded_20 : decode cX6_ifAdded 20 = .ok (.astore_n 1, 1) := by decide +kernel
theorem dX6_ifAdded_21 : decode cX6_ifAdded 21 = .ok (.aload_n 0, 1) := by decide +kernel
theorem dX6_ifAdded_22 : decode cX6_ifAdded 22 = .ok (.getfield 10, 3) := by decide +kernel
theorem dX6_ifAdded_25 : decode cX6_ifAdded 25 = .ok (.aload_n 1, 1) := by decide +kernel
theorem dX6_ifAdded_26 : decode cX6_ifAdded 26 = .ok (.invokevirtual 116, 3) := by decide +kernel
theorem dX6_ifAdded_29 : decode cX6_ifAdded 29 = .ok (.istore_n 2, 1) := by decide +kernel
theorem dX6_ifAdded_30 : decode cX6_ifAdded 30 = .ok (.iload_n 2, 1) := by decide +kernel
theorem dX6_ifAdded_31 : decode cX6_ifAdded 31 = .ok (.ifCond .ge 5, 3) := by decide +kernel
theorem dX6_ifAdded_34 : decode cX6_ifAdded 34 = .ok (.iload_n 2, 1) := by decide +kernel
theorem dX6_ifAdded_35 : decode cX6_ifAdded 35 = .ok (.ireturn, 1) := by decide +kernel
theorem dX6_ifAdded_36 : decode cX6_ifAdded 36 = .ok (.aload_n 0, 1) := by decide +kernel
theorem dX6_ifAdded_37 : decode cX6_ifAdded 37 = .ok (.getfield 16, 3) := by decide +kernel
theorem dX6_ifAdded_40 : decode cX6_ifAdded 40 = .ok (.aload_n 0, 1) := by decide +kernel
theorem dX6_ifAdded_41 : decode cX6_ifAdded 41 = .ok (.getfield 10, 3) := by decide +kernel
theorem dX6_ifAdded_44 : decode cX6_ifAdded 44 = .ok (.invokevirtual 183, 3) := by decide +kernel
theorem dX6_ifAdded_47 : decode cX6_ifAdded 47 = .ok (.aload_n 0, 1) := by decide +kernel
theorem dX6_ifAdded_48 : decode cX6_ifAdded 48 = .ok (.getfield 16, 3) := by decide +kernel
theorem dX6_ifAdded_51 : decode cX6_ifAdded 51 = .ok (.getfield 119, 3) := by decide +kernel
theorem dX6_ifAdded_54 : decode cX6_ifAdded 54 = .ok (.aload_n 1, 1) := by decide +kernel
theorem dX6_ifAdded_55 : decode cX6_ifAdded 55 = .ok (.invokevirtual 123, 3) := by decide +kernel
theorem dX6_ifAdded_58 : decode cX6_ifAdded 58 = .ok (.pop, 1) := by decide +kernel
theorem dX6_ifAdded_59 : decode cX6_ifAdded 59 = .ok (.iconst 0, 1) := by decide +kernel
theorem dX6_ifAdded_60 : decode cX6_ifAdded 60 = .ok (.istore_n 3, 1) := by decide +kernel
theorem dX6_ifAdded_61 : decode cX6_ifAdded 61 = .ok (.iconst 0, 1) := by decide +kernel
theorem dX6_ifAdded_62 : decode cX6_ifAdded 62 = .ok (.istore 4, 2) := by decide +kernel
theorem dX6_ifAdded_64 : decode cX6_ifAdded 64 = .ok (.iload 4, 2) := by decide +kernel
theorem dX6_ifAdded_66 : decode cX6_ifAdded 66 = .ok (.aload_n 0, 1) := by decide +kernel
theorem dX6_ifAdded_67 : decode cX6_ifAdded 67 = .ok (.getfield 10, 3) := by decide +kernel
theorem dX6_ifAdded_70 : decode cX6_ifAdded 70 = .ok (.getfield 119, 3) := by decide +kernel
theorem dX6_ifAdded_73 : decode cX6_ifAdded 73 = .ok (.invokevirtual 129, 3) := by decide +kernel
theorem dX6_ifAdded_76 : decode cX6_ifAdded 76 = .ok (.if_icmp .ge 21, 3) := by decide +kernel
theorem dX6_ifAdded_79 : decode cX6_ifAdded 79 = .ok (.aload_n 0, 1) := by decide +kernel
theorem dX6_ifAdded_80 : decode cX6_ifAdded 80 = .ok (.iload 4, 2) := by decide +kernel
theorem dX6_ifAdded_82 : decode cX6_ifAdded 82 = .ok (.invokevirtual 186, 3) := by decide +kernel
theorem dX6_ifAdded_85 : decode cX6_ifAdded 85 = .ok (.ifCond .eq 6, 3) := by decide +kernel
theorem dX6_ifAdded_88 : decode cX6_ifAdded 88 = .ok (.iinc 3 1, 3) := by decide +kernel
theorem dX6_ifAdded_91 : decode cX6_ifAdded 91 = .ok (.iinc 4 1, 3) := by decide +kernel
theorem dX6_ifAdded_94 : decode cX6_ifAdded 94 = .ok (.goto (-30), 3) := by decide +kernel
theorem dX6_ifAdded_97 : decode cX6_ifAdded 97 = .ok (.iload_n 3, 1) := by decide +kernel
theorem dX6_ifAdded_98 : decode cX6_ifAdded 98 = .ok (.ireturn, 1) := by decide +kernel
theorem dX6_keyWouldChange_0 : decode cX6_keyWouldChange 0 = .ok (.aload_n 0, 1) := by decide +kernel
theorem dX6_keyWouldChange_1 : decode cX6_keyWouldChange 1 = .ok (.getfield 43, 3) := by decide +kernel
theorem dX6_keyWouldChange_4 : decode cX6_keyWouldChange 4 = .ok (.aload_n 0, 1) := by decide +kernel
theorem dX6_keyWouldChange_5 : decode cX6_keyWouldChange 5 = .ok (.getfield 10, 3) := by decide +kernel
theorem dX6_keyWouldChange_8 : decode cX6_keyWouldChange 8 = .ok (.iload_n 1, 1) := by decide +kernel
theorem dX6_keyWouldChange_9 : decode cX6_keyWouldChange 9 = .ok (.invokevirtual 148, 3) := by decide +kernel
theorem dX6_keyWouldChange_12 : decode cX6_keyWouldChange 12 = .ok (.aload_n 0, 1) := by decide +kernel
theorem dX6_keyWouldChange_13 : decode cX6_keyWouldChange 13 = .ok (.getfield 43, 3) := by decide +kernel
theorem dX6_keyWouldChange_16 : decode cX6_keyWouldChange 16 = .ok (.getfield 165, 3) := by decide +kernel
theorem dX6_keyWouldChange_19 : decode cX6_keyWouldChange 19 = .ok (.istore_n 2, 1) := by decide +kernel
theorem dX6_keyWouldChange_20 : decode cX6_keyWouldChange 20 = .ok (.aload_n 0, 1) := by decide +kernel
theorem dX6_keyWouldChange_21 : decode cX6_keyWouldChange 21 = .ok (.getfield 43, 3) := by decide +kernel
theorem dX6_keyWouldChange_24 : decode cX6_keyWouldChange 24 = .ok (.getfield 168, 3) := by decide +kernel
theorem dX6_keyWouldChange_27 : decode cX6_keyWouldChange 27 = .ok (.istore_n 3, 1) := by decide +kernel
theorem dX6_keyWouldChange_28 : decode cX6_keyWouldChange 28 = .ok (.aload_n 0, 1) := by decide +kernel
theorem dX6_keyWouldChange_29 : decode cX6_keyWouldChange 29 = .ok (.getfield 43, 3) := by decide +kernel
theorem dX6_keyWouldChange_32 : decode cX6_keyWouldChange 32 = .ok (.aload_n 0, 1) := by decide +kernel
theorem dX6_keyWouldChange_33 : decode cX6_keyWouldChange 33 = .ok (.getfield 16, 3) := by decide +kernel
theorem dX6_keyWouldChange_36 : decode cX6_keyWouldChange 36 = .ok (.iload_n 1, 1) := by decide +kernel
theorem dX6_keyWouldChange_37 : decode cX6_keyWouldChange 37 = .ok (.invokevirtual 148, 3) := by decide +kernel
theorem dX6_keyWouldChange_40 : decode cX6_keyWouldChange 40 = .ok (.aload_n 0, 1) := by decide +kernel
theorem dX6_keyWouldChange_41 : decode cX6_keyWouldChange 41 = .ok (.getfield 43, 3) := by decide +kernel
theorem dX6_keyWouldChange_44 : decode cX6_keyWouldChange 44 = .ok (.getfield 165, 3) := by decide +kernel
theorem dX6_keyWouldChange_47 : decode cX6_keyWouldChange 47 = .ok (.iload_n 2, 1) := by decide +kernel
theorem dX6_keyWouldChange_48 : decode cX6_keyWouldChange 48 = .ok (.if_icmp .ne 14, 3) := by decide +kernel
theorem dX6_keyWouldChange_51 : decode cX6_keyWouldChange 51 = .ok (.aload_n 0, 1) := by decide +kernel
theorem dX6_keyWouldChange_52 : decode cX6_keyWouldChange 52 = .ok (.getfield 43, 3) := by decide +kernel
theorem dX6_keyWouldChange_55 : decode cX6_keyWouldChange 55 = .ok (.getfield 168, 3) := by decide +kernel
theorem dX6_keyWouldChange_58 : decode cX6_keyWouldChange 58 = .ok (.iload_n 3, 1) := by decide +kernel
theorem dX6_keyWouldChange_59 : decode cX6_keyWouldChange 59 = .ok (.if_icmp .eq 7, 3) := by decide +kernel
theorem dX6_keyWouldChange_62 : decode cX6_keyWouldChange 62 = .ok (.iconst 1, 1) := by decide +kernel
theorem dX6_keyWouldChange_63 : decode cX6_keyWouldChange 63 = .ok (.goto 4, 3) := by decide +kernel
theorem dX6_keyWouldChange_66 : decode cX6_keyWouldChange 66 = .ok (.iconst 0, 1) := by decide +kernel
theorem dX6_keyWouldChange_67 : decode cX6_keyWouldChange 67 = .ok (.ireturn, 1) := by decide +kernel
theorem dX6_setMode_0 : decode cX6_setMode 0 = .ok (.iload_n 1, 1) := by decide +kernel
theorem dX6_setMode_1 : decode cX6_setMode 1 = .ok (.ifCond .lt 8, 3) := by decide +kernel
theorem dX6_setMode_4 : decode cX6_setMode 4 = .ok (.iload_n 1, 1) := by decide +kernel
theorem dX6_setMode_5 : decode cX6_setMode 5 = .ok (.iconst 3, 1) := by decide +kernel
theorem dX6_setMode_6 : decode cX6_setMode 6 = .ok (.if_icmp .le 6, 3) := by decide +kernel
theorem dX6_setMode_9 : decode cX6_setMode 9 = .ok (.bipush (-2), 2) := by decide +kernel
theorem dX6_setMode_11 : decode cX6_setMode 11 = .ok (.ireturn, 1) := by decide +kernel
theorem dX6_setMode_12 : decode cX6_setMode 12 = .ok (.aload_n 0, 1) := by decide +kernel
theorem dX6_setMode_13 : decode cX6_setMode 13 = .ok (.getfield 10, 3) := by decide +kernel
theorem dX6_setMode_16 : decode cX6_setMode 16 = .ok (.getfield 97, 3) := by decide +kernel
theorem dX6_setMode_19 : decode cX6_setMode 19 = .ok (.istore_n 2, 1) := by decide +kernel
theorem dX6_setMode_20 : decode cX6_setMode 20 = .ok (.aload_n 0, 1) := by decide +kernel
theorem dX6_setMode_21 : decode cX6_setMode 21 = .ok (.getfield 22, 3) := by decide +kernel
theorem dX6_setMode_24 : decode cX6_setMode 24 = .ok (.aload_n 0, 1) := by decide +kernel
theorem dX6_setMode_25 : decode cX6_setMode 25 = .ok (.getfield 10, 3) := by decide +kernel
theorem dX6_setMode_28 : decode cX6_setMode 28 = .ok (.invokevirtual 62, 3) := by decide +kernel
theorem dX6_setMode_31 : decode cX6_setMode 31 = .ok (.aload_n 0, 1) := by decide +kernel
theorem dX6_setMode_32 : decode cX6_setMode 32 = .ok (.getfield 10, 3) := by decide +kernel
theorem dX6_setMode_35 : decode cX6_setMode 35 = .ok (.iload_n 1, 1) := by decide +kernel
theorem dX6_setMode_36 : decode cX6_setMode 36 = .ok (.putfield 97, 3) := by decide +kernel
theorem dX6_setMode_39 : decode cX6_setMode 39 = .ok (.iload_n 2, 1) := by decide +kernel
theorem dX6_setMode_40 : decode cX6_setMode 40 = .ok (.ireturn, 1) := by decide +kernel
theorem dX6_setOrder_0 : decode cX6_setOrder 0 = .ok (.iload_n 1, 1) := by decide +kernel
theorem dX6_setOrder_1 : decode cX6_setOrder 1 = .ok (.ifCond .lt 8, 3) := by decide +kernel
theorem dX6_setOrder_4 : decode cX6_setOrder 4 = .ok (.iload_n 1, 1) := by decide +kernel
theorem dX6_setOrder_5 : decode cX6_setOrder 5 = .ok (.iconst 2, 1) := by decide +kernel
theorem dX6_setOrder_6 : decode cX6_setOrder 6 = .ok (.if_icmp .le 6, 3) := by decide +kernel
theorem dX6_setOrder_9 : decode cX6_setOrder 9 = .ok (.bipush (-2), 2) := by decide +kernel
theorem dX6_setOrder_11 : decode cX6_setOrder 11 = .ok (.ireturn, 1) := by decide +kernel
theorem dX6_setOrder_12 : decode cX6_setOrder 12 = .ok (.aload_n 0, 1) := by decide +kernel
theorem dX6_setOrder_13 : decode cX6_setOrder 13 = .ok (.getfield 10, 3) := by decide +kernel
theorem dX6_setOrder_16 : decode cX6_setOrder 16 = .ok (.getfield 100, 3) := by decide +kernel
theorem dX6_setOrder_19 : decode cX6_setOrder 19 = .ok (.istore_n 2, 1) := by decide +kernel
theorem dX6_setOrder_20 : decode cX6_setOrder 20 = .ok (.aload_n 0, 1) := by decide +kernel
theorem dX6_setOrder_21 : decode cX6_setOrder 21 = .ok (.getfield 22, 3) := by decide +kernel
theorem dX6_setOrder_24 : decode cX6_setOrder 24 = .ok (.aload_n 0, 1) := by decide +kernel
theorem dX6_setOrder_25 : decode cX6_setOrder 25 = .ok (.getfield 10, 3) := by decide +kernel
theorem dX6_setOrder_28 : decode cX6_setOrder 28 = .ok (.invokevirtual 62, 3) := by decide +kernel
theorem dX6_setOrder_31 : decode cX6_setOrder 31 = .ok (.aload_n 0, 1) := by decide +kernel
theorem dX6_setOrder_32 : decode cX6_setOrder 32 = .ok (.getfield 10, 3) := by decide +kernel
theorem dX6_setOrder_35 : decode cX6_setOrder 35 = .ok (.iload_n 1, 1) := by decide +kernel
theorem dX6_setOrder_36 : decode cX6_setOrder 36 = .ok (.putfield 100, 3) := by decide +kernel
theorem dX6_setOrder_39 : decode cX6_setOrder 39 = .ok (.iload_n 2, 1) := by decide +kernel
theorem dX6_setOrder_40 : decode cX6_setOrder 40 = .ok (.ireturn, 1) := by decide +kernel
theorem dX6_mode_0 : decode cX6_mode 0 = .ok (.aload_n 0, 1) := by decide +kernel
theorem dX6_mode_1 : decode cX6_mode 1 = .ok (.getfield 10, 3) := by decide +kernel
theorem dX6_mode_4 : decode cX6_mode 4 = .ok (.getfield 97, 3) := by decide +kernel
theorem dX6_mode_7 : decode cX6_mode 7 = .ok (.ireturn, 1) := by decide +kernel
theorem dX6_order_0 : decode cX6_order 0 = .ok (.aload_n 0, 1) := by decide +kernel
theorem dX6_order_1 : decode cX6_order 1 = .ok (.getfield 10, 3) := by decide +kernel
theorem dX6_order_4 : decode cX6_order 4 = .ok (.getfield 100, 3) := by decide +kernel
theorem dX6_order_7 : decode cX6_order 7 = .ok (.ireturn, 1) := by decide +kernel
theorem dX6_ask_0 : decode cX6_ask 0 = .ok (.iload_n 1, 1) := by decide +kernel
theorem dX6_ask_1 : decode cX6_ask 1 = .ok (.bipush 32, 2) := by decide +kernel
theorem dX6_ask_3 : decode cX6_ask 3 = .ok (.if_icmp .eq 13, 3) := by decide +kernel
theorem dX6_ask_6 : decode cX6_ask 6 = .ok (.iload_n 1, 1) := by decide +kernel
theorem dX6_ask_7 : decode cX6_ask 7 = .ok (.invokestatic 189, 3) := by decide +kernel
theorem dX6_ask_10 : decode cX6_ask 10 = .ok (.ifCond .ne 6, 3) := by decide +kernel
theorem dX6_ask_13 : decode cX6_ask 13 = .ok (.bipush (-2), 2) := by decide +kernel
theorem dX6_ask_15 : decode cX6_ask 15 = .ok (.ireturn, 1) := by decide +kernel
theorem dX6_ask_16 : decode cX6_ask 16 = .ok (.iload_n 1, 1) := by decide +kernel
theorem dX6_ask_17 : decode cX6_ask 17 = .ok (.bipush 32, 2) := by decide +kernel
theorem dX6_ask_19 : decode cX6_ask 19 = .ok (.if_icmp .ne 16, 3) := by decide +kernel
theorem dX6_ask_22 : decode cX6_ask 22 = .ok (.aload_n 0, 1) := by decide +kernel
theorem dX6_ask_23 : decode cX6_ask 23 = .ok (.getfield 10, 3) := by decide +kernel
theorem dX6_ask_26 : decode cX6_ask 26 = .ok (.invokevirtual 192, 3) := by decide +kernel
theorem dX6_ask_29 : decode cX6_ask 29 = .ok (.ifCond .ne 6, 3) := by decide +kernel
theorem dX6_ask_32 : decode cX6_ask 32 = .ok (.bipush (-3), 2) := by decide +kernel
theorem dX6_ask_34 : decode cX6_ask 34 = .ok (.ireturn, 1) := by decide +kernel
theorem dX6_ask_35 : decode cX6_ask 35 = .ok (.aload_n 0, 1) := by decide +kernel
theorem dX6_ask_36 : decode cX6_ask 36 = .ok (.getfield 10, 3) := by decide +kernel
theorem dX6_ask_39 : decode cX6_ask 39 = .ok (.getfield 110, 3) := by decide +kernel
theorem dX6_ask_42 : decode cX6_ask 42 = .ok (.bipush 24, 2) := by decide +kernel
theorem dX6_ask_44 : decode cX6_ask 44 = .ok (.if_icmp .lt 6, 3) := by decide +kernel
theorem dX6_ask_47 : decode cX6_ask 47 = .ok (.bipush (-4), 2) := by decide +kernel
theorem dX6_ask_49 : decode cX6_ask 49 = .ok (.ireturn, 1) := by decide +kernel
theorem dX6_ask_50 : decode cX6_ask 50 = .ok (.aload_n 0, 1) := by decide +kernel
theorem dX6_ask_51 : decode cX6_ask 51 = .ok (.getfield 22, 3) := by decide +kernel
theorem dX6_ask_54 : decode cX6_ask 54 = .ok (.aload_n 0, 1) := by decide +kernel
theorem dX6_ask_55 : decode cX6_ask 55 = .ok (.getfield 10, 3) := by decide +kernel
theorem dX6_ask_58 : decode cX6_ask 58 = .ok (.invokevirtual 62, 3) := by decide +kernel
theorem dX6_ask_61 : decode cX6_ask 61 = .ok (.aload_n 0, 1) := by decide +kernel
theorem dX6_ask_62 : decode cX6_ask 62 = .ok (.getfield 10, 3) := by decide +kernel
theorem dX6_ask_65 : decode cX6_ask 65 = .ok (.iload_n 1, 1) := by decide +kernel
theorem dX6_ask_66 : decode cX6_ask 66 = .ok (.i2c, 1) := by decide +kernel
theorem dX6_ask_67 : decode cX6_ask 67 = .ok (.invokevirtual 195, 3) := by decide +kernel
theorem dX6_ask_70 : decode cX6_ask 70 = .ok (.aload_n 0, 1) := by decide +kernel
theorem dX6_ask_71 : decode cX6_ask 71 = .ok (.invokevirtual 199, 3) := by decide +kernel
theorem dX6_ask_74 : decode cX6_ask 74 = .ok (.ireturn, 1) := by decide +kernel
theorem dX6_erase_0 : decode cX6_erase 0 = .ok (.aload_n 0, 1) := by decide +kernel
theorem dX6_erase_1 : decode cX6_erase 1 = .ok (.getfield 10, 3) := by decide +kernel
theorem dX6_erase_4 : decode cX6_erase 4 = .ok (.getfield 110, 3) := by decide +kernel
theorem dX6_erase_7 : decode cX6_erase 7 = .ok (.ifCond .gt 6, 3) := by decide +kernel
theorem dX6_erase_10 : decode cX6_erase 10 = .ok (.bipush (-3), 2) := by decide +kernel
theorem dX6_erase_12 : decode cX6_erase 12 = .ok (.ireturn, 1) := by decide +kernel
theorem dX6_erase_13 : decode cX6_erase 13 = .ok (.aload_n 0, 1) := by decide +kernel
theorem dX6_erase_14 : decode cX6_erase 14 = .ok (.getfield 22, 3) := by decide +kernel
theorem dX6_erase_17 : decode cX6_erase 17 = .ok (.aload_n 0, 1) := by decide +kernel
theorem dX6_erase_18 : decode cX6_erase 18 = .ok (.getfield 10, 3) := by decide +kernel
theorem dX6_erase_21 : decode cX6_erase 21 = .ok (.invokevirtual 62, 3) := by decide +kernel
theorem dX6_erase_24 : decode cX6_erase 24 = .ok (.aload_n 0, 1) := by decide +kernel
theorem dX6_erase_25 : decode cX6_erase 25 = .ok (.getfield 10, 3) := by decide +kernel
theorem dX6_erase_28 : decode cX6_erase 28 = .ok (.dup, 1) := by decide +kernel
theorem dX6_erase_29 : decode cX6_erase 29 = .ok (.getfield 110, 3) := by decide +kernel
theorem dX6_erase_32 : decode cX6_erase 32 = .ok (.iconst 1, 1) := by decide +kernel
theorem dX6_erase_33 : decode cX6_erase 33 = .ok (.isub, 1) := by decide +kernel
theorem dX6_erase_34 : decode cX6_erase 34 = .ok (.putfield 110, 3) := by decide +kernel
theorem dX6_erase_37 : decode cX6_erase 37 = .ok (.aload_n 0, 1) := by decide +kernel
theorem dX6_erase_38 : decode cX6_erase 38 = .ok (.invokevirtual 199, 3) := by decide +kernel
theorem dX6_erase_41 : decode cX6_erase 41 = .ok (.ireturn, 1) := by decide +kernel
theorem dX6_queryLength_0 : decode cX6_queryLength 0 = .ok (.aload_n 0, 1) := by decide +kernel
theorem dX6_queryLength_1 : decode cX6_queryLength 1 = .ok (.getfield 10, 3) := by decide +kernel
theorem dX6_queryLength_4 : decode cX6_queryLength 4 = .ok (.getfield 110, 3) := by decide +kernel
theorem dX6_queryLength_7 : decode cX6_queryLength 7 = .ok (.ireturn, 1) := by decide +kernel
theorem dX6_queryCharacter_0 : decode cX6_queryCharacter 0 = .ok (.iload_n 1, 1) := by decide +kernel
theorem dX6_queryCharacter_1 : decode cX6_queryCharacter 1 = .ok (.ifCond .lt 26, 3) := by decide +kernel
theorem dX6_queryCharacter_4 : decode cX6_queryCharacter 4 = .ok (.iload_n 1, 1) := by decide +kernel
theorem dX6_queryCharacter_5 : decode cX6_queryCharacter 5 = .ok (.aload_n 0, 1) := by decide +kernel
theorem dX6_queryCharacter_6 : decode cX6_queryCharacter 6 = .ok (.getfield 10, 3) := by decide +kernel
theorem dX6_queryCharacter_9 : decode cX6_queryCharacter 9 = .ok (.getfield 110, 3) := by decide +kernel
theorem dX6_queryCharacter_12 : decode cX6_queryCharacter 12 = .ok (.if_icmp .ge 15, 3) := by decide +kernel
theorem dX6_queryCharacter_15 : decode cX6_queryCharacter 15 = .ok (.iload_n 1, 1) := by decide +kernel
theorem dX6_queryCharacter_16 : decode cX6_queryCharacter 16 = .ok (.aload_n 0, 1) := by decide +kernel
theorem dX6_queryCharacter_17 : decode cX6_queryCharacter 17 = .ok (.getfield 10, 3) := by decide +kernel
theorem dX6_queryCharacter_20 : decode cX6_queryCharacter 20 = .ok (.getfield 202, 3) := by decide +kernel
theorem dX6_queryCharacter_23 : decode cX6_queryCharacter 23 = .ok (.arraylength, 1) := by decide +kernel
theorem dX6_queryCharacter_24 : decode cX6_queryCharacter 24 = .ok (.if_icmp .lt 5, 3) := by decide +kernel
theorem dX6_queryCharacter_27 : decode cX6_queryCharacter 27 = .ok (.iconst (-1), 1) := by decide +kernel
theorem dX6_queryCharacter_28 : decode cX6_queryCharacter 28 = .ok (.ireturn, 1) := by decide +kernel
theorem dX6_queryCharacter_29 : decode cX6_queryCharacter 29 = .ok (.aload_n 0, 1) := by decide +kernel
theorem dX6_queryCharacter_30 : decode cX6_queryCharacter 30 = .ok (.getfield 10, 3) := by decide +kernel
theorem dX6_queryCharacter_33 : decode cX6_queryCharacter 33 = .ok (.getfield 202, 3) := by decide +kernel
theorem dX6_queryCharacter_36 : decode cX6_queryCharacter 36 = .ok (.iload_n 1, 1) := by decide +kernel
theorem dX6_queryCharacter_37 : decode cX6_queryCharacter 37 = .ok (.caload, 1) := by decide +kernel
theorem dX6_queryCharacter_38 : decode cX6_queryCharacter 38 = .ok (.ireturn, 1) := by decide +kernel
theorem dX6_results_0 : decode cX6_results 0 = .ok (.aload_n 0, 1) := by decide +kernel
theorem dX6_results_1 : decode cX6_results 1 = .ok (.getfield 36, 3) := by decide +kernel
theorem dX6_results_4 : decode cX6_results 4 = .ok (.aload_n 0, 1) := by decide +kernel
theorem dX6_results_5 : decode cX6_results 5 = .ok (.getfield 10, 3) := by decide +kernel
theorem dX6_results_8 : decode cX6_results 8 = .ok (.invokevirtual 205, 3) := by decide +kernel
theorem dX6_results_11 : decode cX6_results 11 = .ok (.aload_n 0, 1) := by decide +kernel
theorem dX6_results_12 : decode cX6_results 12 = .ok (.getfield 36, 3) := by decide +kernel
theorem dX6_results_15 : decode cX6_results 15 = .ok (.getfield 208, 3) := by decide +kernel
theorem dX6_results_18 : decode cX6_results 18 = .ok (.ireturn, 1) := by decide +kernel
theorem dX6_result_0 : decode cX6_result 0 = .ok (.aload_n 0, 1) := by decide +kernel
theorem dX6_result_1 : decode cX6_result 1 = .ok (.getfield 36, 3) := by decide +kernel
theorem dX6_result_4 : decode cX6_result 4 = .ok (.aload_n 0, 1) := by decide +kernel
theorem dX6_result_5 : decode cX6_result 5 = .ok (.getfield 10, 3) := by decide +kernel
theorem dX6_result_8 : decode cX6_result 8 = .ok (.invokevirtual 205, 3) := by decide +kernel
theorem dX6_result_11 : decode cX6_result 11 = .ok (.aload_n 0, 1) := by decide +kernel
theorem dX6_result_12 : decode cX6_result 12 = .ok (.getfield 36, 3) := by decide +kernel
theorem dX6_result_15 : decode cX6_result 15 = .ok (.iload_n 1, 1) := by decide +kernel
theorem dX6_result_16 : decode cX6_result 16 = .ok (.invokevirtual 211, 3) := by decide +kernel
theorem dX6_result_19 : decode cX6_result 19 = .ok (.ifCond .eq 14, 3) := by decide +kernel
theorem dX6_result_22 : decode cX6_result 22 = .ok (.aload_n 0, 1) := by decide +kernel
theorem dX6_result_23 : decode cX6_result 23 = .ok (.getfield 36, 3) := by decide +kernel
theorem dX6_result_26 : decode cX6_result 26 = .ok (.iload_n 1, 1) := by decide +kernel
theorem dX6_result_27 : decode cX6_result 27 = .ok (.invokevirtual 212, 3) := by decide +kernel
theorem dX6_result_30 : decode cX6_result 30 = .ok (.goto 4, 3) := by decide +kernel
theorem dX6_result_33 : decode cX6_result 33 = .ok (.iconst (-1), 1) := by decide +kernel
theorem dX6_result_34 : decode cX6_result 34 = .ok (.ireturn, 1) := by decide +kernel
theorem dX6_matchPlace_0 : decode cX6_matchPlace 0 = .ok (.aload_n 0, 1) := by decide +kernel
theorem dX6_matchPlace_1 : decode cX6_matchPlace 1 = .ok (.getfield 36, 3) := by decide +kernel
theorem dX6_matchPlace_4 : decode cX6_matchPlace 4 = .ok (.aload_n 0, 1) := by decide +kernel
theorem dX6_matchPlace_5 : decode cX6_matchPlace 5 = .ok (.getfield 10, 3) := by decide +kernel
theorem dX6_matchPlace_8 : decode cX6_matchPlace 8 = .ok (.invokevirtual 205, 3) := by decide +kernel
theorem dX6_matchPlace_11 : decode cX6_matchPlace 11 = .ok (.aload_n 0, 1) := by decide +kernel
theorem dX6_matchPlace_12 : decode cX6_matchPlace 12 = .ok (.getfield 36, 3) := by decide +kernel
theorem dX6_matchPlace_15 : decode cX6_matchPlace 15 = .ok (.iload_n 1, 1) := by decide +kernel
theorem dX6_matchPlace_16 : decode cX6_matchPlace 16 = .ok (.invokevirtual 211, 3) := by decide +kernel
theorem dX6_matchPlace_19 : decode cX6_matchPlace 19 = .ok (.ifCond .eq 14, 3) := by decide +kernel
theorem dX6_matchPlace_22 : decode cX6_matchPlace 22 = .ok (.aload_n 0, 1) := by decide +kernel
theorem dX6_matchPlace_23 : decode cX6_matchPlace 23 = .ok (.getfield 36, 3) := by decide +kernel
theorem dX6_matchPlace_26 : decode cX6_matchPlace 26 = .ok (.iload_n 1, 1) := by decide +kernel
theorem dX6_matchPlace_27 : decode cX6_matchPlace 27 = .ok (.invokevirtual 215, 3) := by decide +kernel
theorem dX6_matchPlace_30 : decode cX6_matchPlace 30 = .ok (.goto 4, 3) := by decide +kernel
theorem dX6_matchPlace_33 : decode cX6_matchPlace 33 = .ok (.iconst (-1), 1) := by decide +kernel
theorem dX6_matchPlace_34 : decode cX6_matchPlace 34 = .ok (.ireturn, 1) := by decide +kernel
theorem dX6_pick_0 : decode cX6_pick 0 = .ok (.aload_n 0, 1) := by decide +kernel
theorem dX6_pick_1 : decode cX6_pick 1 = .ok (.getfield 36, 3) := by decide +kernel
theorem dX6_pick_4 : decode cX6_pick 4 = .ok (.aload_n 0, 1) := by decide +kernel
theorem dX6_pick_5 : decode cX6_pick 5 = .ok (.getfield 10, 3) := by decide +kernel
theorem dX6_pick_8 : decode cX6_pick 8 = .ok (.invokevirtual 205, 3) := by decide +kernel
theorem dX6_pick_11 : decode cX6_pick 11 = .ok (.aload_n 0, 1) := by decide +kernel
theorem dX6_pick_12 : decode cX6_pick 12 = .ok (.getfield 36, 3) := by decide +kernel
theorem dX6_pick_15 : decode cX6_pick 15 = .ok (.iload_n 1, 1) := by decide +kernel
theorem dX6_pick_16 : decode cX6_pick 16 = .ok (.invokevirtual 211, 3) := by decide +kernel
theorem dX6_pick_19 : decode cX6_pick 19 = .ok (.ifCond .ne 5, 3) := by decide +kernel
theorem dX6_pick_22 : decode cX6_pick 22 = .ok (.iconst (-1), 1) := by decide +kernel
theorem dX6_pick_23 : decode cX6_pick 23 = .ok (.ireturn, 1) := by decide +kernel
theorem dX6_pick_24 : decode cX6_pick 24 = .ok (.aload_n 0, 1) := by decide +kernel
theorem dX6_pick_25 : decode cX6_pick 25 = .ok (.getfield 22, 3) := by decide +kernel
theorem dX6_pick_28 : decode cX6_pick 28 = .ok (.aload_n 0, 1) := by decide +kernel
theorem dX6_pick_29 : decode cX6_pick 29 = .ok (.getfield 10, 3) := by decide +kernel
theorem dX6_pick_32 : decode cX6_pick 32 = .ok (.invokevirtual 62, 3) := by decide +kernel
theorem dX6_pick_35 : decode cX6_pick 35 = .ok (.aload_n 0, 1) := by decide +kernel
theorem dX6_pick_36 : decode cX6_pick 36 = .ok (.iload_n 1, 1) := by decide +kernel
theorem dX6_pick_37 : decode cX6_pick 37 = .ok (.invokevirtual 106, 3) := by decide +kernel
theorem dX6_pick_40 : decode cX6_pick 40 = .ok (.ireturn, 1) := by decide +kernel
theorem dX6_pickIfThere_0 : decode cX6_pickIfThere 0 = .ok (.aload_n 0, 1) := by decide +kernel
theorem dX6_pickIfThere_1 : decode cX6_pickIfThere 1 = .ok (.getfield 36, 3) := by decide +kernel
theorem dX6_pickIfThere_4 : decode cX6_pickIfThere 4 = .ok (.aload_n 0, 1) := by decide +kernel
theorem dX6_pickIfThere_5 : decode cX6_pickIfThere 5 = .ok (.getfield 10, 3) := by decide +kernel
theorem dX6_pickIfThere_8 : decode cX6_pickIfThere 8 = .ok (.invokevirtual 205, 3) := by decide +kernel
theorem dX6_pickIfThere_11 : decode cX6_pickIfThere 11 = .ok (.aload_n 0, 1) := by decide +kernel
theorem dX6_pickIfThere_12 : decode cX6_pickIfThere 12 = .ok (.getfield 36, 3) := by decide +kernel
theorem dX6_pickIfThere_15 : decode cX6_pickIfThere 15 = .ok (.iload_n 1, 1) := by decide +kernel
theorem dX6_pickIfThere_16 : decode cX6_pickIfThere 16 = .ok (.invokevirtual 211, 3) := by decide +kernel
theorem dX6_pickIfThere_19 : decode cX6_pickIfThere 19 = .ok (.ifCond .ne 5, 3) := by decide +kernel
theorem dX6_pickIfThere_22 : decode cX6_pickIfThere 22 = .ok (.iconst (-1), 1) := by decide +kernel
theorem dX6_pickIfThere_23 : decode cX6_pickIfThere 23 = .ok (.ireturn, 1) := by decide +kernel
theorem dX6_pickIfThere_24 : decode cX6_pickIfThere 24 = .ok (.aload_n 0, 1) := by decide +kernel
theorem dX6_pickIfThere_25 : decode cX6_pickIfThere 25 = .ok (.getfield 36, 3) := by decide +kernel
theorem dX6_pickIfThere_28 : decode cX6_pickIfThere 28 = .ok (.iload_n 1, 1) := by decide +kernel
theorem dX6_pickIfThere_29 : decode cX6_pickIfThere 29 = .ok (.invokevirtual 212, 3) := by decide +kernel
theorem dX6_pickIfThere_32 : decode cX6_pickIfThere 32 = .ok (.istore_n 2, 1) := by decide +kernel
theorem dX6_pickIfThere_33 : decode cX6_pickIfThere 33 = .ok (.aload_n 0, 1) := by decide +kernel
theorem dX6_pickIfThere_34 : decode cX6_pickIfThere 34 = .ok (.getfield 10, 3) := by decide +kernel
theorem dX6_pickIfThere_37 : decode cX6_pickIfThere 37 = .ok (.iload_n 2, 1) := by decide +kernel
theorem dX6_pickIfThere_38 : decode cX6_pickIfThere 38 = .ok (.invokevirtual 132, 3) := by decide +kernel
theorem dX6_pickIfThere_41 : decode cX6_pickIfThere 41 = .ok (.ifCond .ne 5, 3) := by decide +kernel
theorem dX6_pickIfThere_44 : decode cX6_pickIfThere 44 = .ok (.iconst (-1), 1) := by decide +kernel
theorem dX6_pickIfThere_45 : decode cX6_pickIfThere 45 = .ok (.ireturn, 1) := by decide +kernel
theorem dX6_pickIfThere_46 : decode cX6_pickIfThere 46 = .ok (.aload_n 0, 1) := by decide +kernel
theorem dX6_pickIfThere_47 : decode cX6_pickIfThere 47 = .ok (.getfield 10, 3) := by decide +kernel
theorem dX6_pickIfThere_50 : decode cX6_pickIfThere 50 = .ok (.getfield 119, 3) := by decide +kernel
theorem dX6_pickIfThere_53 : decode cX6_pickIfThere 53 = .ok (.iload_n 2, 1) := by decide +kernel
theorem dX6_pickIfThere_54 : decode cX6_pickIfThere 54 = .ok (.aload_n 0, 1) := by decide +kernel
theorem dX6_pickIfThere_55 : decode cX6_pickIfThere 55 = .ok (.getfield 10, 3) := by decide +kernel
theorem dX6_pickIfThere_58 : decode cX6_pickIfThere 58 = .ok (.getfield 119, 3) := by decide +kernel
theorem dX6_pickIfThere_61 : decode cX6_pickIfThere 61 = .ok (.iload_n 2, 1) := by decide +kernel
theorem dX6_pickIfThere_62 : decode cX6_pickIfThere 62 = .ok (.invokevirtual 139, 3) := by decide +kernel
theorem dX6_pickIfThere_65 : decode cX6_pickIfThere 65 = .ok (.checkcast 142, 3) := by decide +kernel
theorem dX6_pickIfThere_68 : decode cX6_pickIfThere 68 = .ok (.invokevirtual 218, 3) := by decide +kernel
theorem dX6_pickIfThere_71 : decode cX6_pickIfThere 71 = .ok (.invokevirtual 221, 3) := by decide +kernel
theorem dX6_pickIfThere_74 : decode cX6_pickIfThere 74 = .ok (.pop, 1) := by decide +kernel
theorem dX6_pickIfThere_75 : decode cX6_pickIfThere 75 = .ok (.aload_n 0, 1) := by decide +kernel
theorem dX6_pickIfThere_76 : decode cX6_pickIfThere 76 = .ok (.getfield 10, 3) := by decide +kernel
theorem dX6_pickIfThere_79 : decode cX6_pickIfThere 79 = .ok (.iconst 0, 1) := by decide +kernel
theorem dX6_pickIfThere_80 : decode cX6_pickIfThere 80 = .ok (.putfield 110, 3) := by decide +kernel
theorem dX6_pickIfThere_83 : decode cX6_pickIfThere 83 = .ok (.iload_n 2, 1) := by decide +kernel
theorem dX6_pickIfThere_84 : decode cX6_pickIfThere 84 = .ok (.ireturn, 1) := by decide +kernel
end
section
theorem dJ9_max_7cf53_0 : decode cJ9_max_7cf53 0 = .ok (.iload_n 0, 1) := by decide +kernel
theorem dJ9_max_7cf53_1 : decode cJ9_max_7cf53 1 = .ok (.iload_n 1, 1) := by decide +kernel
theorem dJ9_max_7cf53_2 : decode cJ9_max_7cf53 2 = .ok (.if_icmp .lt 7, 3) := by decide +kernel
theorem dJ9_max_7cf53_5 : decode cJ9_max_7cf53 5 = .ok (.iload_n 0, 1) := by decide +kernel
theorem dJ9_max_7cf53_6 : decode cJ9_max_7cf53 6 = .ok (.goto 4, 3) := by decide +kernel
theorem dJ9_max_7cf53_9 : decode cJ9_max_7cf53 9 = .ok (.iload_n 1, 1) := by decide +kernel
theorem dJ9_max_7cf53_10 : decode cJ9_max_7cf53 10 = .ok (.ireturn, 1) := by decide +kernel
theorem dJ9_min_7cf53_0 : decode cJ9_min_7cf53 0 = .ok (.iload_n 0, 1) := by decide +kernel
theorem dJ9_min_7cf53_1 : decode cJ9_min_7cf53 1 = .ok (.iload_n 1, 1) := by decide +kernel
theorem dJ9_min_7cf53_2 : decode cJ9_min_7cf53 2 = .ok (.if_icmp .gt 7, 3) := by decide +kernel
theorem dJ9_min_7cf53_5 : decode cJ9_min_7cf53 5 = .ok (.iload_n 0, 1) := by decide +kernel
theorem dJ9_min_7cf53_6 : decode cJ9_min_7cf53 6 = .ok (.goto 4, 3) := by decide +kernel
theorem dJ9_min_7cf53_9 : decode cJ9_min_7cf53 9 = .ok (.iload_n 1, 1) := by decide +kernel
theorem dJ9_min_7cf53_10 : decode cJ9_min_7cf53 10 = .ok (.ireturn, 1) := by decide +kernel
theorem dJxa1e45_init_da8c8_0 : decode cJxa1e45_init_da8c8 0 = .ok (.aload_n 0, 1) := by decide +kernel
theorem dJxa1e45_init_da8c8_1 : decode cJxa1e45_init_da8c8 1 = .ok (.invokespecial 1, 3) := by decide +kernel
theorem dJxa1e45_init_da8c8_4 : decode cJxa1e45_init_da8c8 4 = .ok (.return_, 1) := by decide +kernel
theorem dJxc12de_init_da8c8_0 : decode cJxc12de_init_da8c8 0 = .ok (.aload_n 0, 1) := by decide +kernel
theorem dJxc12de_init_da8c8_1 : decode cJxc12de_init_da8c8 1 = .ok (.invokespecial 1, 3) := by decide +kernel
theorem dJxc12de_init_da8c8_4 : decode cJxc12de_init_da8c8 4 = .ok (.aload_n 0, 1) := by decide +kernel
theorem dJxc12de_init_da8c8_5 : decode cJxc12de_init_da8c8 5 = .ok (.iconst 0, 1) := by decide +kernel
theorem dJxc12de_init_da8c8_6 : decode cJxc12de_init_da8c8 6 = .ok (.putfield 7, 3) := by decide +kernel
theorem dJxc12de_init_da8c8_9 : decode cJxc12de_init_da8c8 9 = .ok (.return_, 1) := by decide +kernel
theorem dJx4a65c_init_da8c8_0 : decode cJx4a65c_init_da8c8 0 = .ok (.aload_n 0, 1) := by decide +kernel
theorem dJx4a65c_init_da8c8_1 : decode cJx4a65c_init_da8c8 1 = .ok (.invokespecial 1, 3) := by decide +kernel
theorem dJx4a65c_init_da8c8_4 : decode cJx4a65c_init_da8c8 4 = .ok (.aload_n 0, 1) := by decide +kernel
theorem dJx4a65c_init_da8c8_5 : decode cJx4a65c_init_da8c8 5 = .ok (.getstatic 39, 3) := by decide +kernel
theorem dJx4a65c_init_da8c8_8 : decode cJx4a65c_init_da8c8 8 = .ok (.putfield 9, 3) := by decide +kernel
theorem dJx4a65c_init_da8c8_11 : decode cJx4a65c_init_da8c8 11 = .ok (.return_, 1) := by decide +kernel
theorem dJx4a65c_grow_92f84_0 : decode cJx4a65c_grow_92f84 0 = .ok (.aload_n 0, 1) := by decide +kernel
theorem dJx4a65c_grow_92f84_1 : decode cJx4a65c_grow_92f84 1 = .ok (.getfield 9, 3) := by decide +kernel
theorem dJx4a65c_grow_92f84_4 : decode cJx4a65c_grow_92f84 4 = .ok (.arraylength, 1) := by decide +kernel
theorem dJx4a65c_grow_92f84_5 : decode cJx4a65c_grow_92f84 5 = .ok (.istore_n 2, 1) := by decide +kernel
theorem dJx4a65c_grow_92f84_6 : decode cJx4a65c_grow_92f84 6 = .ok (.iload_n 2, 1) := by decide +kernel
theorem dJx4a65c_grow_92f84_7 : decode cJx4a65c_grow_92f84 7 = .ok (.ifCond .gt 13, 3) := by decide +kernel
theorem dJx4a65c_grow_92f84_10 : decode cJx4a65c_grow_92f84 10 = .ok (.aload_n 0, 1) := by decide +kernel
theorem dJx4a65c_grow_92f84_11 : decode cJx4a65c_grow_92f84 11 = .ok (.getfield 9, 3) := by decide +kernel
theorem dJx4a65c_grow_92f84_14 : decode cJx4a65c_grow_92f84 14 = .ok (.getstatic 39, 3) := by decide +kernel
theorem dJx4a65c_grow_92f84_17 : decode cJx4a65c_grow_92f84 17 = .ok (.if_acmp .eq 28, 3) := by decide +kernel
theorem dJx4a65c_grow_92f84_20 : decode cJx4a65c_grow_92f84 20 = .ok (.iload_n 2, 1) := by decide +kernel
theorem dJx4a65c_grow_92f84_21 : decode cJx4a65c_grow_92f84 21 = .ok (.iload_n 1, 1) := by decide +kernel
theorem dJx4a65c_grow_92f84_22 : decode cJx4a65c_grow_92f84 22 = .ok (.iload_n 2, 1) := by decide +kernel
theorem dJx4a65c_grow_92f84_23 : decode cJx4a65c_grow_92f84 23 = .ok (.isub, 1) := by decide +kernel
theorem dJx4a65c_grow_92f84_24 : decode cJx4a65c_grow_92f84 24 = .ok (.iload_n 2, 1) := by decide +kernel
theorem dJx4a65c_grow_92f84_25 : decode cJx4a65c_grow_92f84 25 = .ok (.iconst 1, 1) := by decide +kernel
theorem dJx4a65c_grow_92f84_26 : decode cJx4a65c_grow_92f84 26 = .ok (.ishr, 1) := by decide +kernel
theorem dJx4a65c_grow_92f84_27 : decode cJx4a65c_grow_92f84 27 = .ok (.invokestatic 73, 3) := by decide +kernel
theorem dJx4a65c_grow_92f84_30 : decode cJx4a65c_grow_92f84 30 = .ok (.istore_n 3, 1) := by decide +kernel
theorem dJx4a65c_grow_92f84_31 : decode cJx4a65c_grow_92f84 31 = .ok (.aload_n 0, 1) := by decide +kernel
theorem dJx4a65c_grow_92f84_32 : decode cJx4a65c_grow_92f84 32 = .ok (.aload_n 0, 1) := by decide +kernel
theorem dJx4a65c_grow_92f84_33 : decode cJx4a65c_grow_92f84 33 = .ok (.getfield 9, 3) := by decide +kernel
theorem dJx4a65c_grow_92f84_36 : decode cJx4a65c_grow_92f84 36 = .ok (.iload_n 3, 1) := by decide +kernel
theorem dJx4a65c_grow_92f84_37 : decode cJx4a65c_grow_92f84 37 = .ok (.invokestatic 66, 3) := by decide +kernel
theorem dJx4a65c_grow_92f84_40 : decode cJx4a65c_grow_92f84 40 = .ok (.dup_x1, 1) := by decide +kernel
theorem dJx4a65c_grow_92f84_41 : decode cJx4a65c_grow_92f84 41 = .ok (.putfield 9, 3) := by decide +kernel
theorem dJx4a65c_grow_92f84_44 : decode cJx4a65c_grow_92f84 44 = .ok (.areturn, 1) := by decide +kernel
theorem dJx4a65c_grow_92f84_45 : decode cJx4a65c_grow_92f84 45 = .ok (.aload_n 0, 1) := by decide +kernel
theorem dJx4a65c_grow_92f84_46 : decode cJx4a65c_grow_92f84 46 = .ok (.bipush 10, 2) := by decide +kernel
theorem dJx4a65c_grow_92f84_48 : decode cJx4a65c_grow_92f84 48 = .ok (.iload_n 1, 1) := by decide +kernel
theorem dJx4a65c_grow_92f84_49 : decode cJx4a65c_grow_92f84 49 = .ok (.invokestatic 79, 3) := by decide +kernel
theorem dJx4a65c_grow_92f84_52 : decode cJx4a65c_grow_92f84 52 = .ok (.anewarray 7, 3) := by decide +kernel
theorem dJx4a65c_grow_92f84_55 : decode cJx4a65c_grow_92f84 55 = .ok (.dup_x1, 1) := by decide +kernel
theorem dJx4a65c_grow_92f84_56 : decode cJx4a65c_grow_92f84 56 = .ok (.putfield 9, 3) := by decide +kernel
theorem dJx4a65c_grow_92f84_59 : decode cJx4a65c_grow_92f84 59 = .ok (.areturn, 1) := by decide +kernel
theorem dJx4a65c_grow_d5877_0 : decode cJx4a65c_grow_d5877 0 = .ok (.aload_n 0, 1) := by decide +kernel
theorem dJx4a65c_grow_d5877_1 : decode cJx4a65c_grow_d5877 1 = .ok (.aload_n 0, 1) := by decide +kernel
theorem dJx4a65c_grow_d5877_2 : decode cJx4a65c_grow_d5877 2 = .ok (.getfield 48, 3) := by decide +kernel
theorem dJx4a65c_grow_d5877_5 : decode cJx4a65c_grow_d5877 5 = .ok (.iconst 1, 1) := by decide +kernel
theorem dJx4a65c_grow_d5877_6 : decode cJx4a65c_grow_d5877 6 = .ok (.iadd, 1) := by decide +kernel
theorem dJx4a65c_grow_d5877_7 : decode cJx4a65c_grow_d5877 7 = .ok (.invokevirtual 69, 3) := by decide +kernel
theorem dJx4a65c_grow_d5877_10 : decode cJx4a65c_grow_d5877 10 = .ok (.areturn, 1) := by decide +kernel
theorem dJx4a65c_size_8abf5_0 : decode cJx4a65c_size_8abf5 0 = .ok (.aload_n 0, 1) := by decide +kernel
theorem dJx4a65c_size_8abf5_1 : decode cJx4a65c_size_8abf5 1 = .ok (.getfield 48, 3) := by decide +kernel
theorem dJx4a65c_size_8abf5_4 : decode cJx4a65c_size_8abf5 4 = .ok (.ireturn, 1) := by decide +kernel
theorem dJx4a65c_elementData_915e3_0 : decode cJx4a65c_elementData_915e3 0 = .ok (.aload_n 0, 1) := by decide +kernel
theorem dJx4a65c_elementData_915e3_1 : decode cJx4a65c_elementData_915e3 1 = .ok (.getfield 9, 3) := by decide +kernel
theorem dJx4a65c_elementData_915e3_4 : decode cJx4a65c_elementData_915e3 4 = .ok (.iload_n 1, 1) := by decide +kernel
theorem dJx4a65c_elementData_915e3_5 : decode cJx4a65c_elementData_915e3 5 = .ok (.aaload, 1) := by decide +kernel
theorem dJx4a65c_elementData_915e3_6 : decode cJx4a65c_elementData_915e3 6 = .ok (.areturn, 1) := by decide +kernel
theorem dJx4a65c_get_915e3_0 : decode cJx4a65c_get_915e3 0 = .ok (.iload_n 1, 1) := by decide +kernel
theorem dJx4a65c_get_915e3_1 : decode cJx4a65c_get_915e3 1 = .ok (.aload_n 0, 1) := by decide +kernel
theorem dJx4a65c_get_915e3_2 : decode cJx4a65c_get_915e3 2 = .ok (.getfield 48, 3) := by decide +kernel
theorem dJx4a65c_get_915e3_5 : decode cJx4a65c_get_915e3 5 = .ok (.invokestatic 118, 3) := by decide +kernel
theorem dJx4a65c_get_915e3_8 : decode cJx4a65c_get_915e3 8 = .ok (.pop, 1) := by decide +kernel
theorem dJx4a65c_get_915e3_9 : decode cJx4a65c_get_915e3 9 = .ok (.aload_n 0, 1) := by decide +kernel
theorem dJx4a65c_get_915e3_10 : decode cJx4a65c_get_915e3 10 = .ok (.iload_n 1, 1) := by decide +kernel
theorem dJx4a65c_get_915e3_11 : decode cJx4a65c_get_915e3 11 = .ok (.invokevirtual 123, 3) := by decide +kernel
theorem dJx4a65c_get_915e3_14 : decode cJx4a65c_get_915e3 14 = .ok (.areturn, 1) := by decide +kernel
theorem dJx4a65c_set_bcc79_0 : decode cJx4a65c_set_bcc79 0 = .ok (.iload_n 1, 1) := by decide +kernel
theorem dJx4a65c_set_bcc79_1 : decode cJx4a65c_set_bcc79 1 = .ok (.aload_n 0, 1) := by decide +kernel
theorem dJx4a65c_set_bcc79_2 : decode cJx4a65c_set_bcc79 2 = .ok (.getfield 48, 3) := by decide +kernel
theorem dJx4a65c_set_bcc79_5 : decode cJx4a65c_set_bcc79 5 = .ok (.invokestatic 118, 3) := by decide +kernel
theorem dJx4a65c_set_bcc79_8 : decode cJx4a65c_set_bcc79 8 = .ok (.pop, 1) := by decide +kernel
theorem dJx4a65c_set_bcc79_9 : decode cJx4a65c_set_bcc79 9 = .ok (.aload_n 0, 1) := by decide +kernel
theorem dJx4a65c_set_bcc79_10 : decode cJx4a65c_set_bcc79 10 = .ok (.iload_n 1, 1) := by decide +kernel
theorem dJx4a65c_set_bcc79_11 : decode cJx4a65c_set_bcc79 11 = .ok (.invokevirtual 123, 3) := by decide +kernel
theorem dJx4a65c_set_bcc79_14 : decode cJx4a65c_set_bcc79 14 = .ok (.astore_n 3, 1) := by decide +kernel
theorem dJx4a65c_set_bcc79_15 : decode cJx4a65c_set_bcc79 15 = .ok (.aload_n 0, 1) := by decide +kernel
theorem dJx4a65c_set_bcc79_16 : decode cJx4a65c_set_bcc79 16 = .ok (.getfield 9, 3) := by decide +kernel
theorem dJx4a65c_set_bcc79_19 : decode cJx4a65c_set_bcc79 19 = .ok (.iload_n 1, 1) := by decide +kernel
theorem dJx4a65c_set_bcc79_20 : decode cJx4a65c_set_bcc79 20 = .ok (.aload_n 2, 1) := by decide +kernel
theorem dJx4a65c_set_bcc79_21 : decode cJx4a65c_set_bcc79 21 = .ok (.aastore, 1) := by decide +kernel
theorem dJx4a65c_set_bcc79_22 : decode cJx4a65c_set_bcc79 22 = .ok (.aload_n 3, 1) := by decide +kernel
theorem dJx4a65c_set_bcc79_23 : decode cJx4a65c_set_bcc79 23 = .ok (.areturn, 1) := by decide +kernel
theorem dJx4a65c_add_72be8_0 : decode cJx4a65c_add_72be8 0 = .ok (.iload_n 3, 1) := by decide +kernel
theorem dJx4a65c_add_72be8_1 : decode cJx4a65c_add_72be8 1 = .ok (.aload_n 2, 1) := by decide +kernel
theorem dJx4a65c_add_72be8_2 : decode cJx4a65c_add_72be8 2 = .ok (.arraylength, 1) := by decide +kernel
theorem dJx4a65c_add_72be8_3 : decode cJx4a65c_add_72be8 3 = .ok (.if_icmp .ne 8, 3) := by decide +kernel
theorem dJx4a65c_add_72be8_6 : decode cJx4a65c_add_72be8 6 = .ok (.aload_n 0, 1) := by decide +kernel
theorem dJx4a65c_add_72be8_7 : decode cJx4a65c_add_72be8 7 = .ok (.invokevirtual 129, 3) := by decide +kernel
theorem dJx4a65c_add_72be8_10 : decode cJx4a65c_add_72be8 10 = .ok (.astore_n 2, 1) := by decide +kernel
theorem dJx4a65c_add_72be8_11 : decode cJx4a65c_add_72be8 11 = .ok (.aload_n 2, 1) := by decide +kernel
theorem dJx4a65c_add_72be8_12 : decode cJx4a65c_add_72be8 12 = .ok (.iload_n 3, 1) := by decide +kernel
theorem dJx4a65c_add_72be8_13 : decode cJx4a65c_add_72be8 13 = .ok (.aload_n 1, 1) := by decide +kernel
theorem dJx4a65c_add_72be8_14 : decode cJx4a65c_add_72be8 14 = .ok (.aastore, 1) := by decide +kernel
theorem dJx4a65c_add_72be8_15 : decode cJx4a65c_add_72be8 15 = .ok (.aload_n 0, 1) := by decide +kernel
theorem dJx4a65c_add_72be8_16 : decode cJx4a65c_add_72be8 16 = .ok (.iload_n 3, 1) := by decide +kernel
theorem dJx4a65c_add_72be8_17 : decode cJx4a65c_add_72be8 17 = .ok (.iconst 1, 1) := by decide +kernel
theorem dJx4a65c_add_72be8_18 : decode cJx4a65c_add_72be8 18 = .ok (.iadd, 1) := by decide +kernel
theorem dJx4a65c_add_72be8_19 : decode cJx4a65c_add_72be8 19 = .ok (.putfield 48, 3) := by decide +kernel
theorem dJx4a65c_add_72be8_22 : decode cJx4a65c_add_72be8 22 = .ok (.return_, 1) := by decide +kernel
theorem dJx4a65c_add_9ea2d_0 : decode cJx4a65c_add_9ea2d 0 = .ok (.aload_n 0, 1) := by decide +kernel
theorem dJx4a65c_add_9ea2d_1 : decode cJx4a65c_add_9ea2d 1 = .ok (.dup, 1) := by decide +kernel
theorem dJx4a65c_add_9ea2d_2 : decode cJx4a65c_add_9ea2d 2 = .ok (.getfield 63, 3) := by decide +kernel
theorem dJx4a65c_add_9ea2d_5 : decode cJx4a65c_add_9ea2d 5 = .ok (.iconst 1, 1) := by decide +kernel
theorem dJx4a65c_add_9ea2d_6 : decode cJx4a65c_add_9ea2d 6 = .ok (.iadd, 1) := by decide +kernel
theorem dJx4a65c_add_9ea2d_7 : decode cJx4a65c_add_9ea2d 7 = .ok (.putfield 63, 3) := by decide +kernel
theorem dJx4a65c_add_9ea2d_10 : decode cJx4a65c_add_9ea2d 10 = .ok (.aload_n 0, 1) := by decide +kernel
theorem dJx4a65c_add_9ea2d_11 : decode cJx4a65c_add_9ea2d 11 = .ok (.aload_n 1, 1) := by decide +kernel
theorem dJx4a65c_add_9ea2d_12 : decode cJx4a65c_add_9ea2d 12 = .ok (.aload_n 0, 1) := by decide +kernel
theorem dJx4a65c_add_9ea2d_13 : decode cJx4a65c_add_9ea2d 13 = .ok (.getfield 9, 3) := by decide +kernel
theorem dJx4a65c_add_9ea2d_16 : decode cJx4a65c_add_9ea2d 16 = .ok (.aload_n 0, 1) := by decide +kernel
theorem dJx4a65c_add_9ea2d_17 : decode cJx4a65c_add_9ea2d 17 = .ok (.getfield 48, 3) := by decide +kernel
theorem dJx4a65c_add_9ea2d_20 : decode cJx4a65c_add_9ea2d 20 = .ok (.invokevirtual 131, 3) := by decide +kernel
theorem dJx4a65c_add_9ea2d_23 : decode cJx4a65c_add_9ea2d 23 = .ok (.iconst 1, 1) := by decide +kernel
theorem dJx4a65c_add_9ea2d_24 : decode cJx4a65c_add_9ea2d 24 = .ok (.ireturn, 1) := by decide +kernel
theorem dJx4a65c_remove_915e3_0 : decode cJx4a65c_remove_915e3 0 = .ok (.iload_n 1, 1) := by decide +kernel
theorem dJx4a65c_remove_915e3_1 : decode cJx4a65c_remove_915e3 1 = .ok (.aload_n 0, 1) := by decide +kernel
theorem dJx4a65c_remove_915e3_2 : decode cJx4a65c_remove_915e3 2 = .ok (.getfield 48, 3) := by decide +kernel
theorem dJx4a65c_remove_915e3_5 : decode cJx4a65c_remove_915e3 5 = .ok (.invokestatic 118, 3) := by decide +kernel
theorem dJx4a65c_remove_915e3_8 : decode cJx4a65c_remove_915e3 8 = .ok (.pop, 1) := by decide +kernel
theorem dJx4a65c_remove_915e3_9 : decode cJx4a65c_remove_915e3 9 = .ok (.aload_n 0, 1) := by decide +kernel
theorem dJx4a65c_remove_915e3_10 : decode cJx4a65c_remove_915e3 10 = .ok (.getfield 9, 3) := by decide +kernel
theorem dJx4a65c_remove_915e3_13 : decode cJx4a65c_remove_915e3 13 = .ok (.astore_n 2, 1) := by decide +kernel
theorem dJx4a65c_remove_915e3_14 : decode cJx4a65c_remove_915e3 14 = .ok (.aload_n 2, 1) := by decide +kernel
theorem dJx4a65c_remove_915e3_15 : decode cJx4a65c_remove_915e3 15 = .ok (.iload_n 1, 1) := by decide +kernel
theorem dJx4a65c_remove_915e3_16 : decode cJx4a65c_remove_915e3 16 = .ok (.aaload, 1) := by decide +kernel
theorem dJx4a65c_remove_915e3_17 : decode cJx4a65c_remove_915e3 17 = .ok (.astore_n 3, 1) := by decide +kernel
theorem dJx4a65c_remove_915e3_18 : decode cJx4a65c_remove_915e3 18 = .ok (.aload_n 0, 1) := by decide +kernel
theorem dJx4a65c_remove_915e3_19 : decode cJx4a65c_remove_915e3 19 = .ok (.aload_n 2, 1) := by decide +kernel
theorem dJx4a65c_remove_915e3_20 : decode cJx4a65c_remove_915e3 20 = .ok (.iload_n 1, 1) := by decide +kernel
theorem dJx4a65c_remove_915e3_21 : decode cJx4a65c_remove_915e3 21 = .ok (.invokevirtual 144, 3) := by decide +kernel
theorem dJx4a65c_remove_915e3_24 : decode cJx4a65c_remove_915e3 24 = .ok (.aload_n 3, 1) := by decide +kernel
theorem dJx4a65c_remove_915e3_25 : decode cJx4a65c_remove_915e3 25 = .ok (.areturn, 1) := by decide +kernel
theorem dJx4a65c_fastRemove_b59b0_0 : decode cJx4a65c_fastRemove_b59b0 0 = .ok (.aload_n 0, 1) := by decide +kernel
theorem dJx4a65c_fastRemove_b59b0_1 : decode cJx4a65c_fastRemove_b59b0 1 = .ok (.dup, 1) := by decide +kernel
theorem dJx4a65c_fastRemove_b59b0_2 : decode cJx4a65c_fastRemove_b59b0 2 = .ok (.getfield 63, 3) := by decide +kernel
theorem dJx4a65c_fastRemove_b59b0_5 : decode cJx4a65c_fastRemove_b59b0 5 = .ok (.iconst 1, 1) := by decide +kernel
theorem dJx4a65c_fastRemove_b59b0_6 : decode cJx4a65c_fastRemove_b59b0 6 = .ok (.iadd, 1) := by decide +kernel
theorem dJx4a65c_fastRemove_b59b0_7 : decode cJx4a65c_fastRemove_b59b0 7 = .ok (.putfield 63, 3) := by decide +kernel
theorem dJx4a65c_fastRemove_b59b0_10 : decode cJx4a65c_fastRemove_b59b0 10 = .ok (.aload_n 0, 1) := by decide +kernel
theorem dJx4a65c_fastRemove_b59b0_11 : decode cJx4a65c_fastRemove_b59b0 11 = .ok (.getfield 48, 3) := by decide +kernel
theorem dJx4a65c_fastRemove_b59b0_14 : decode cJx4a65c_fastRemove_b59b0 14 = .ok (.iconst 1, 1) := by decide +kernel
theorem dJx4a65c_fastRemove_b59b0_15 : decode cJx4a65c_fastRemove_b59b0 15 = .ok (.isub, 1) := by decide +kernel
theorem dJx4a65c_fastRemove_b59b0_16 : decode cJx4a65c_fastRemove_b59b0 16 = .ok (.dup, 1) := by decide +kernel
theorem dJx4a65c_fastRemove_b59b0_17 : decode cJx4a65c_fastRemove_b59b0 17 = .ok (.istore_n 3, 1) := by decide +kernel
theorem dJx4a65c_fastRemove_b59b0_18 : decode cJx4a65c_fastRemove_b59b0 18 = .ok (.iload_n 2, 1) := by decide +kernel
theorem dJx4a65c_fastRemove_b59b0_19 : decode cJx4a65c_fastRemove_b59b0 19 = .ok (.if_icmp .le 15, 3) := by decide +kernel
theorem dJx4a65c_fastRemove_b59b0_22 : decode cJx4a65c_fastRemove_b59b0 22 = .ok (.aload_n 1, 1) := by decide +kernel
theorem dJx4a65c_fastRemove_b59b0_23 : decode cJx4a65c_fastRemove_b59b0 23 = .ok (.iload_n 2, 1) := by decide +kernel
theorem dJx4a65c_fastRemove_b59b0_24 : decode cJx4a65c_fastRemove_b59b0 24 = .ok (.iconst 1, 1) := by decide +kernel
theorem dJx4a65c_fastRemove_b59b0_25 : decode cJx4a65c_fastRemove_b59b0 25 = .ok (.iadd, 1) := by decide +kernel
theorem dJx4a65c_fastRemove_b59b0_26 : decode cJx4a65c_fastRemove_b59b0 26 = .ok (.aload_n 1, 1) := by decide +kernel
theorem dJx4a65c_fastRemove_b59b0_27 : decode cJx4a65c_fastRemove_b59b0 27 = .ok (.iload_n 2, 1) := by decide +kernel
theorem dJx4a65c_fastRemove_b59b0_28 : decode cJx4a65c_fastRemove_b59b0 28 = .ok (.iload_n 3, 1) := by decide +kernel
theorem dJx4a65c_fastRemove_b59b0_29 : decode cJx4a65c_fastRemove_b59b0 29 = .ok (.iload_n 2, 1) := by decide +kernel
theorem dJx4a65c_fastRemove_b59b0_30 : decode cJx4a65c_fastRemove_b59b0 30 = .ok (.isub, 1) := by decide +kernel
theorem dJx4a65c_fastRemove_b59b0_31 : decode cJx4a65c_fastRemove_b59b0 31 = .ok (.invokestatic 112, 3) := by decide +kernel
theorem dJx4a65c_fastRemove_b59b0_34 : decode cJx4a65c_fastRemove_b59b0 34 = .ok (.aload_n 1, 1) := by decide +kernel
theorem dJx4a65c_fastRemove_b59b0_35 : decode cJx4a65c_fastRemove_b59b0 35 = .ok (.aload_n 0, 1) := by decide +kernel
theorem dJx4a65c_fastRemove_b59b0_36 : decode cJx4a65c_fastRemove_b59b0 36 = .ok (.iload_n 3, 1) := by decide +kernel
theorem dJx4a65c_fastRemove_b59b0_37 : decode cJx4a65c_fastRemove_b59b0 37 = .ok (.dup_x1, 1) := by decide +kernel
theorem dJx4a65c_fastRemove_b59b0_38 : decode cJx4a65c_fastRemove_b59b0 38 = .ok (.putfield 48, 3) := by decide +kernel
theorem dJx4a65c_fastRemove_b59b0_41 : decode cJx4a65c_fastRemove_b59b0 41 = .ok (.aconst_null, 1) := by decide +kernel
theorem dJx4a65c_fastRemove_b59b0_42 : decode cJx4a65c_fastRemove_b59b0 42 = .ok (.aastore, 1) := by decide +kernel
theorem dJx4a65c_fastRemove_b59b0_43 : decode cJx4a65c_fastRemove_b59b0 43 = .ok (.return_, 1) := by decide +kernel
theorem dJx4a65c_clear_da8c8_0 : decode cJx4a65c_clear_da8c8 0 = .ok (.aload_n 0, 1) := by decide +kernel
theorem dJx4a65c_clear_da8c8_1 : decode cJx4a65c_clear_da8c8 1 = .ok (.dup, 1) := by decide +kernel
theorem dJx4a65c_clear_da8c8_2 : decode cJx4a65c_clear_da8c8 2 = .ok (.getfield 63, 3) := by decide +kernel
theorem dJx4a65c_clear_da8c8_5 : decode cJx4a65c_clear_da8c8 5 = .ok (.iconst 1, 1) := by decide +kernel
theorem dJx4a65c_clear_da8c8_6 : decode cJx4a65c_clear_da8c8 6 = .ok (.iadd, 1) := by decide +kernel
theorem dJx4a65c_clear_da8c8_7 : decode cJx4a65c_clear_da8c8 7 = .ok (.putfield 63, 3) := by decide +kernel
theorem dJx4a65c_clear_da8c8_10 : decode cJx4a65c_clear_da8c8 10 = .ok (.aload_n 0, 1) := by decide +kernel
theorem dJx4a65c_clear_da8c8_11 : decode cJx4a65c_clear_da8c8 11 = .ok (.getfield 9, 3) := by decide +kernel
theorem dJx4a65c_clear_da8c8_14 : decode cJx4a65c_clear_da8c8 14 = .ok (.astore_n 1, 1) := by decide +kernel
theorem dJx4a65c_clear_da8c8_15 : decode cJx4a65c_clear_da8c8 15 = .ok (.aload_n 0, 1) := by decide +kernel
theorem dJx4a65c_clear_da8c8_16 : decode cJx4a65c_clear_da8c8 16 = .ok (.getfield 48, 3) := by decide +kernel
theorem dJx4a65c_clear_da8c8_19 : decode cJx4a65c_clear_da8c8 19 = .ok (.istore_n 2, 1) := by decide +kernel
theorem dJx4a65c_clear_da8c8_20 : decode cJx4a65c_clear_da8c8 20 = .ok (.aload_n 0, 1) := by decide +kernel
theorem dJx4a65c_clear_da8c8_21 : decode cJx4a65c_clear_da8c8 21 = .ok (.iconst 0, 1) := by decide +kernel
theorem dJx4a65c_clear_da8c8_22 : decode cJx4a65c_clear_da8c8 22 = .ok (.dup_x1, 1) := by decide +kernel
theorem dJx4a65c_clear_da8c8_23 : decode cJx4a65c_clear_da8c8 23 = .ok (.putfield 48, 3) := by decide +kernel
theorem dJx4a65c_clear_da8c8_26 : decode cJx4a65c_clear_da8c8 26 = .ok (.istore_n 3, 1) := by decide +kernel
theorem dJx4a65c_clear_da8c8_27 : decode cJx4a65c_clear_da8c8 27 = .ok (.iload_n 3, 1) := by decide +kernel
theorem dJx4a65c_clear_da8c8_28 : decode cJx4a65c_clear_da8c8 28 = .ok (.iload_n 2, 1) := by decide +kernel
theorem dJx4a65c_clear_da8c8_29 : decode cJx4a65c_clear_da8c8 29 = .ok (.if_icmp .ge 13, 3) := by decide +kernel
theorem dJx4a65c_clear_da8c8_32 : decode cJx4a65c_clear_da8c8 32 = .ok (.aload_n 1, 1) := by decide +kernel
theorem dJx4a65c_clear_da8c8_33 : decode cJx4a65c_clear_da8c8 33 = .ok (.iload_n 3, 1) := by decide +kernel
theorem dJx4a65c_clear_da8c8_34 : decode cJx4a65c_clear_da8c8 34 = .ok (.aconst_null, 1) := by decide +kernel
theorem dJx4a65c_clear_da8c8_35 : decode cJx4a65c_clear_da8c8 35 = .ok (.aastore, 1) := by decide +kernel
theorem dJx4a65c_clear_da8c8_36 : decode cJx4a65c_clear_da8c8 36 = .ok (.iinc 3 1, 3) := by decide +kernel
theorem dJx4a65c_clear_da8c8_39 : decode cJx4a65c_clear_da8c8 39 = .ok (.goto (-12), 3) := by decide +kernel
theorem dJx4a65c_clear_da8c8_42 : decode cJx4a65c_clear_da8c8 42 = .ok (.return_, 1) := by decide +kernel
theorem dJ7_copyOf_1904c_0 : decode cJ7_copyOf_1904c 0 = .ok (.aload_n 0, 1) := by decide +kernel
theorem dJ7_copyOf_1904c_1 : decode cJ7_copyOf_1904c 1 = .ok (.iload_n 1, 1) := by decide +kernel
theorem dJ7_copyOf_1904c_2 : decode cJ7_copyOf_1904c 2 = .ok (.aload_n 0, 1) := by decide +kernel
theorem dJ7_copyOf_1904c_3 : decode cJ7_copyOf_1904c 3 = .ok (.invokevirtual 86, 3) := by decide +kernel
theorem dJ7_copyOf_1904c_6 : decode cJ7_copyOf_1904c 6 = .ok (.invokestatic 300, 3) := by decide +kernel
theorem dJ7_copyOf_1904c_9 : decode cJ7_copyOf_1904c 9 = .ok (.areturn, 1) := by decide +kernel
theorem dJ7_copyOf_6403c_0 : decode cJ7_copyOf_6403c 0 = .ok (.aload_n 2, 1) := by decide +kernel
theorem dJ7_copyOf_6403c_1 : decode cJ7_copyOf_6403c 1 = .ok (.ldc 110, 2) := by decide +kernel
theorem dJ7_copyOf_6403c_3 : decode cJ7_copyOf_6403c 3 = .ok (.if_acmp .ne 10, 3) := by decide +kernel
theorem dJ7_copyOf_6403c_6 : decode cJ7_copyOf_6403c 6 = .ok (.iload_n 1, 1) := by decide +kernel
theorem dJ7_copyOf_6403c_7 : decode cJ7_copyOf_6403c 7 = .ok (.anewarray 2, 3) := by decide +kernel
theorem dJ7_copyOf_6403c_10 : decode cJ7_copyOf_6403c 10 = .ok (.goto 14, 3) := by decide +kernel
theorem dJ7_copyOf_6403c_13 : decode cJ7_copyOf_6403c 13 = .ok (.aload_n 2, 1) := by decide +kernel
theorem dJ7_copyOf_6403c_14 : decode cJ7_copyOf_6403c 14 = .ok (.invokevirtual 90, 3) := by decide +kernel
theorem dJ7_copyOf_6403c_17 : decode cJ7_copyOf_6403c 17 = .ok (.iload_n 1, 1) := by decide +kernel
theorem dJ7_copyOf_6403c_18 : decode cJ7_copyOf_6403c 18 = .ok (.invokestatic 95, 3) := by decide +kernel
theorem dJ7_copyOf_6403c_21 : decode cJ7_copyOf_6403c 21 = .ok (.checkcast 110, 3) := by decide +kernel
theorem dJ7_copyOf_6403c_24 : decode cJ7_copyOf_6403c 24 = .ok (.astore_n 3, 1) := by decide +kernel
theorem dJ7_copyOf_6403c_25 : decode cJ7_copyOf_6403c 25 = .ok (.aload_n 0, 1) := by decide +kernel
theorem dJ7_copyOf_6403c_26 : decode cJ7_copyOf_6403c 26 = .ok (.iconst 0, 1) := by decide +kernel
theorem dJ7_copyOf_6403c_27 : decode cJ7_copyOf_6403c 27 = .ok (.aload_n 3, 1) := by decide +kernel
theorem dJ7_copyOf_6403c_28 : decode cJ7_copyOf_6403c 28 = .ok (.iconst 0, 1) := by decide +kernel
theorem dJ7_copyOf_6403c_29 : decode cJ7_copyOf_6403c 29 = .ok (.aload_n 0, 1) := by decide +kernel
theorem dJ7_copyOf_6403c_30 : decode cJ7_copyOf_6403c 30 = .ok (.arraylength, 1) := by decide +kernel
theorem dJ7_copyOf_6403c_31 : decode cJ7_copyOf_6403c 31 = .ok (.iload_n 1, 1) := by decide +kernel
theorem dJ7_copyOf_6403c_32 : decode cJ7_copyOf_6403c 32 = .ok (.invokestatic 304, 3) := by decide +kernel
theorem dJ7_copyOf_6403c_35 : decode cJ7_copyOf_6403c 35 = .ok (.invokestatic 150, 3) := by decide +kernel
theorem dJ7_copyOf_6403c_38 : decode cJ7_copyOf_6403c 38 = .ok (.aload_n 3, 1) := by decide +kernel
theorem dJ7_copyOf_6403c_39 : decode cJ7_copyOf_6403c 39 = .ok (.areturn, 1) := by decide +kernel
theorem dJ15_checkIndex_7cf53_0 : decode cJ15_checkIndex_7cf53 0 = .ok (.iload_n 0, 1) := by decide +kernel
theorem dJ15_checkIndex_7cf53_1 : decode cJ15_checkIndex_7cf53 1 = .ok (.iload_n 1, 1) := by decide +kernel
theorem dJ15_checkIndex_7cf53_2 : decode cJ15_checkIndex_7cf53 2 = .ok (.aconst_null, 1) := by decide +kernel
theorem dJ15_checkIndex_7cf53_3 : decode cJ15_checkIndex_7cf53 3 = .ok (.invokestatic 105, 3) := by decide +kernel
theorem dJ15_checkIndex_7cf53_6 : decode cJ15_checkIndex_7cf53 6 = .ok (.ireturn, 1) := by decide +kernel
theorem dJ8_newLength_cabcc_0 : decode cJ8_newLength_cabcc 0 = .ok (.iload_n 0, 1) := by decide +kernel
theorem dJ8_newLength_cabcc_1 : decode cJ8_newLength_cabcc 1 = .ok (.iload_n 1, 1) := by decide +kernel
theorem dJ8_newLength_cabcc_2 : decode cJ8_newLength_cabcc 2 = .ok (.iload_n 2, 1) := by decide +kernel
theorem dJ8_newLength_cabcc_3 : decode cJ8_newLength_cabcc 3 = .ok (.invokestatic 194, 3) := by decide +kernel
theorem dJ8_newLength_cabcc_6 : decode cJ8_newLength_cabcc 6 = .ok (.iadd, 1) := by decide +kernel
theorem dJ8_newLength_cabcc_7 : decode cJ8_newLength_cabcc 7 = .ok (.istore_n 3, 1) := by decide +kernel
theorem dJ8_newLength_cabcc_8 : decode cJ8_newLength_cabcc 8 = .ok (.iconst 0, 1) := by decide +kernel
theorem dJ8_newLength_cabcc_9 : decode cJ8_newLength_cabcc 9 = .ok (.iload_n 3, 1) := by decide +kernel
theorem dJ8_newLength_cabcc_10 : decode cJ8_newLength_cabcc 10 = .ok (.if_icmp .ge 11, 3) := by decide +kernel
theorem dJ8_newLength_cabcc_13 : decode cJ8_newLength_cabcc 13 = .ok (.iload_n 3, 1) := by decide +kernel
theorem dJ8_newLength_cabcc_14 : decode cJ8_newLength_cabcc 14 = .ok (.ldc 200, 2) := by decide +kernel
theorem dJ8_newLength_cabcc_16 : decode cJ8_newLength_cabcc 16 = .ok (.if_icmp .gt 5, 3) := by decide +kernel
theorem dJ8_newLength_cabcc_19 : decode cJ8_newLength_cabcc 19 = .ok (.iload_n 3, 1) := by decide +kernel
theorem dJ8_newLength_cabcc_20 : decode cJ8_newLength_cabcc 20 = .ok (.ireturn, 1) := by decide +kernel
theorem dJ8_newLength_cabcc_21 : decode cJ8_newLength_cabcc 21 = .ok (.iload_n 0, 1) := by decide +kernel
theorem dJ8_newLength_cabcc_22 : decode cJ8_newLength_cabcc 22 = .ok (.iload_n 1, 1) := by decide +kernel
theorem dJ8_newLength_cabcc_23 : decode cJ8_newLength_cabcc 23 = .ok (.invokestatic 201, 3) := by decide +kernel
theorem dJ8_newLength_cabcc_26 : decode cJ8_newLength_cabcc 26 = .ok (.ireturn, 1) := by decide +kernel
theorem dJ8_hugeLength_7cf53_0 : decode cJ8_hugeLength_7cf53 0 = .ok (.iload_n 0, 1) := by decide +kernel
theorem dJ8_hugeLength_7cf53_1 : decode cJ8_hugeLength_7cf53 1 = .ok (.iload_n 1, 1) := by decide +kernel
theorem dJ8_hugeLength_7cf53_2 : decode cJ8_hugeLength_7cf53 2 = .ok (.iadd, 1) := by decide +kernel
theorem dJ8_hugeLength_7cf53_3 : decode cJ8_hugeLength_7cf53 3 = .ok (.istore_n 2, 1) := by decide +kernel
theorem dJ8_hugeLength_7cf53_4 : decode cJ8_hugeLength_7cf53 4 = .ok (.iload_n 2, 1) := by decide +kernel
theorem dJ8_hugeLength_7cf53_5 : decode cJ8_hugeLength_7cf53 5 = .ok (.ifCond .ge 44, 3) := by decide +kernel
theorem dJ8_hugeLength_7cf53_8 : decode cJ8_hugeLength_7cf53 8 = .ok (.new 204, 3) := by decide +kernel
theorem dJ8_hugeLength_7cf53_11 : decode cJ8_hugeLength_7cf53 11 = .ok (.dup, 1) := by decide +kernel
theorem dJ8_hugeLength_7cf53_12 : decode cJ8_hugeLength_7cf53 12 = .ok (.new 89, 3) := by decide +kernel
theorem dJ8_hugeLength_7cf53_15 : decode cJ8_hugeLength_7cf53 15 = .ok (.dup, 1) := by decide +kernel
theorem dJ8_hugeLength_7cf53_16 : decode cJ8_hugeLength_7cf53 16 = .ok (.invokespecial 91, 3) := by decide +kernel
theorem dJ8_hugeLength_7cf53_19 : decode cJ8_hugeLength_7cf53 19 = .ok (.ldc 206, 2) := by decide +kernel
theorem dJ8_hugeLength_7cf53_21 : decode cJ8_hugeLength_7cf53 21 = .ok (.invokevirtual 94, 3) := by decide +kernel
theorem dJ8_hugeLength_7cf53_24 : decode cJ8_hugeLength_7cf53 24 = .ok (.iload_n 0, 1) := by decide +kernel
theorem dJ8_hugeLength_7cf53_25 : decode cJ8_hugeLength_7cf53 25 = .ok (.invokevirtual 98, 3) := by decide +kernel
theorem dJ8_hugeLength_7cf53_28 : decode cJ8_hugeLength_7cf53 28 = .ok (.ldc 208, 2) := by decide +kernel
theorem dJ8_hugeLength_7cf53_30 : decode cJ8_hugeLength_7cf53 30 = .ok (.invokevirtual 94, 3) := by decide +kernel
theorem dJ8_hugeLength_7cf53_33 : decode cJ8_hugeLength_7cf53 33 = .ok (.iload_n 1, 1) := by decide +kernel
theorem dJ8_hugeLength_7cf53_34 : decode cJ8_hugeLength_7cf53 34 = .ok (.invokevirtual 98, 3) := by decide +kernel
theorem dJ8_hugeLength_7cf53_37 : decode cJ8_hugeLength_7cf53 37 = .ok (.ldc 210, 2) := by decide +kernel
theorem dJ8_hugeLength_7cf53_39 : decode cJ8_hugeLength_7cf53 39 = .ok (.invokevirtual 94, 3) := by decide +kernel
theorem dJ8_hugeLength_7cf53_42 : decode cJ8_hugeLength_7cf53 42 = .ok (.invokevirtual 101, 3) := by decide +kernel
theorem dJ8_hugeLength_7cf53_45 : decode cJ8_hugeLength_7cf53 45 = .ok (.invokespecial 212, 3) := by decide +kernel
theorem dJ8_hugeLength_7cf53_48 : decode cJ8_hugeLength_7cf53 48 = .ok (.athrow, 1) := by decide +kernel
theorem dJ8_hugeLength_7cf53_49 : decode cJ8_hugeLength_7cf53 49 = .ok (.iload_n 2, 1) := by decide +kernel
theorem dJ8_hugeLength_7cf53_50 : decode cJ8_hugeLength_7cf53 50 = .ok (.ldc 200, 2) := by decide +kernel
theorem dJ8_hugeLength_7cf53_52 : decode cJ8_hugeLength_7cf53 52 = .ok (.if_icmp .gt 6, 3) := by decide +kernel
theorem dJ8_hugeLength_7cf53_55 : decode cJ8_hugeLength_7cf53 55 = .ok (.ldc 200, 2) := by decide +kernel
theorem dJ8_hugeLength_7cf53_57 : decode cJ8_hugeLength_7cf53 57 = .ok (.ireturn, 1) := by decide +kernel
theorem dJ8_hugeLength_7cf53_58 : decode cJ8_hugeLength_7cf53 58 = .ok (.iload_n 2, 1) := by decide +kernel
theorem dJ8_hugeLength_7cf53_59 : decode cJ8_hugeLength_7cf53 59 = .ok (.ireturn, 1) := by decide +kernel
theorem dJ3_checkIndex_8e157_0 : decode cJ3_checkIndex_8e157 0 = .ok (.iload_n 0, 1) := by decide +kernel
theorem dJ3_checkIndex_8e157_1 : decode cJ3_checkIndex_8e157 1 = .ok (.ifCond .lt 8, 3) := by decide +kernel
theorem dJ3_checkIndex_8e157_4 : decode cJ3_checkIndex_8e157 4 = .ok (.iload_n 0, 1) := by decide +kernel
theorem dJ3_checkIndex_8e157_5 : decode cJ3_checkIndex_8e157 5 = .ok (.iload_n 1, 1) := by decide +kernel
theorem dJ3_checkIndex_8e157_6 : decode cJ3_checkIndex_8e157 6 = .ok (.if_icmp .lt 10, 3) := by decide +kernel
theorem dJ3_checkIndex_8e157_9 : decode cJ3_checkIndex_8e157 9 = .ok (.aload_n 2, 1) := by decide +kernel
theorem dJ3_checkIndex_8e157_10 : decode cJ3_checkIndex_8e157 10 = .ok (.iload_n 0, 1) := by decide +kernel
theorem dJ3_checkIndex_8e157_11 : decode cJ3_checkIndex_8e157 11 = .ok (.iload_n 1, 1) := by decide +kernel
theorem dJ3_checkIndex_8e157_12 : decode cJ3_checkIndex_8e157 12 = .ok (.invokestatic 95, 3) := by decide +kernel
theorem dJ3_checkIndex_8e157_15 : decode cJ3_checkIndex_8e157 15 = .ok (.athrow, 1) := by decide +kernel
theorem dJ3_checkIndex_8e157_16 : decode cJ3_checkIndex_8e157 16 = .ok (.iload_n 0, 1) := by decide +kernel
theorem dJ3_checkIndex_8e157_17 : decode cJ3_checkIndex_8e157 17 = .ok (.ireturn, 1) := by decide +kernel
theorem dL_cell_0 : decode cL_cell 0 = .ok (.iload_n 1, 1) := by decide +kernel
theorem dL_cell_1 : decode cL_cell 1 = .ok (.aload_n 0, 1) := by decide +kernel
theorem dL_cell_2 : decode cL_cell 2 = .ok (.arraylength, 1) := by decide +kernel
theorem dL_cell_3 : decode cL_cell 3 = .ok (.if_icmp .ge 9, 3) := by decide +kernel
theorem dL_cell_6 : decode cL_cell 6 = .ok (.aload_n 0, 1) := by decide +kernel
theorem dL_cell_7 : decode cL_cell 7 = .ok (.iload_n 1, 1) := by decide +kernel
theorem dL_cell_8 : decode cL_cell 8 = .ok (.iaload, 1) := by decide +kernel
theorem dL_cell_9 : decode cL_cell 9 = .ok (.goto 12, 3) := by decide +kernel
theorem dL_cell_12 : decode cL_cell 12 = .ok (.ldc 7, 2) := by decide +kernel
theorem dL_cell_14 : decode cL_cell 14 = .ok (.iload_n 1, 1) := by decide +kernel
theorem dL_cell_15 : decode cL_cell 15 = .ok (.iconst 1, 1) := by decide +kernel
theorem dL_cell_16 : decode cL_cell 16 = .ok (.iadd, 1) := by decide +kernel
theorem dL_cell_17 : decode cL_cell 17 = .ok (.imul, 1) := by decide +kernel
theorem dL_cell_18 : decode cL_cell 18 = .ok (.ldc 8, 2) := by decide +kernel
theorem dL_cell_20 : decode cL_cell 20 = .ok (.iadd, 1) := by decide +kernel
theorem dL_cell_21 : decode cL_cell 21 = .ok (.ireturn, 1) := by decide +kernel
theorem dL_low_0 : decode cL_low 0 = .ok (.iload_n 0, 1) := by decide +kernel
theorem dL_low_1 : decode cL_low 1 = .ok (.ldc 9, 2) := by decide +kernel
theorem dL_low_3 : decode cL_low 3 = .ok (.iand, 1) := by decide +kernel
theorem dL_low_4 : decode cL_low 4 = .ok (.iload_n 1, 1) := by decide +kernel
theorem dL_low_5 : decode cL_low 5 = .ok (.irem, 1) := by decide +kernel
theorem dL_low_6 : decode cL_low 6 = .ok (.ireturn, 1) := by decide +kernel
theorem dL_code_0 : decode cL_code 0 = .ok (.iload_n 0, 1) := by decide +kernel
theorem dL_code_1 : decode cL_code 1 = .ok (.bipush 27, 2) := by decide +kernel
theorem dL_code_3 : decode cL_code 3 = .ok (.if_icmp .ne 8, 3) := by decide +kernel
theorem dL_code_6 : decode cL_code 6 = .ok (.bipush 32, 2) := by decide +kernel
theorem dL_code_8 : decode cL_code 8 = .ok (.goto 18, 3) := by decide +kernel
theorem dL_code_11 : decode cL_code 11 = .ok (.iload_n 0, 1) := by decide +kernel
theorem dL_code_12 : decode cL_code 12 = .ok (.bipush 28, 2) := by decide +kernel
theorem dL_code_14 : decode cL_code 14 = .ok (.if_icmp .ne 8, 3) := by decide +kernel
theorem dL_code_17 : decode cL_code 17 = .ok (.bipush 48, 2) := by decide +kernel
theorem dL_code_19 : decode cL_code 19 = .ok (.goto 7, 3) := by decide +kernel
theorem dL_code_22 : decode cL_code 22 = .ok (.bipush 96, 2) := by decide +kernel
theorem dL_code_24 : decode cL_code 24 = .ok (.iload_n 0, 1) := by decide +kernel
theorem dL_code_25 : decode cL_code 25 = .ok (.iadd, 1) := by decide +kernel
theorem dL_code_26 : decode cL_code 26 = .ok (.ireturn, 1) := by decide +kernel
theorem dL_at_0 : decode cL_at 0 = .ok (.lload_n 0, 1) := by decide +kernel
theorem dL_at_1 : decode cL_at 1 = .ok (.iconst 5, 1) := by decide +kernel
theorem dL_at_2 : decode cL_at 2 = .ok (.iload_n 2, 1) := by decide +kernel
theorem dL_at_3 : decode cL_at 3 = .ok (.imul, 1) := by decide +kernel
theorem dL_at_4 : decode cL_at 4 = .ok (.lshr, 1) := by decide +kernel
theorem dL_at_5 : decode cL_at 5 = .ok (.ldc2_w 10, 3) := by decide +kernel
theorem dL_at_8 : decode cL_at 8 = .ok (.land, 1) := by decide +kernel
theorem dL_at_9 : decode cL_at 9 = .ok (.l2i, 1) := by decide +kernel
theorem dL_at_10 : decode cL_at 10 = .ok (.ireturn, 1) := by decide +kernel
theorem dL_size_0 : decode cL_size 0 = .ok (.iconst 0, 1) := by decide +kernel
theorem dL_size_1 : decode cL_size 1 = .ok (.istore_n 2, 1) := by decide +kernel
theorem dL_size_2 : decode cL_size 2 = .ok (.iload_n 2, 1) := by decide +kernel
theorem dL_size_3 : decode cL_size 3 = .ok (.bipush 12, 2) := by decide +kernel
theorem dL_size_5 : decode cL_size 5 = .ok (.if_icmp .ge 17, 3) := by decide +kernel
theorem dL_size_8 : decode cL_size 8 = .ok (.lload_n 0, 1) := by decide +kernel
theorem dL_size_9 : decode cL_size 9 = .ok (.iload_n 2, 1) := by decide +kernel
theorem dL_size_10 : decode cL_size 10 = .ok (.invokestatic 12, 3) := by decide +kernel
theorem dL_size_13 : decode cL_size 13 = .ok (.ifCond .eq 9, 3) := by decide +kernel
theorem dL_size_16 : decode cL_size 16 = .ok (.iinc 2 1, 3) := by decide +kernel
theorem dL_size_19 : decode cL_size 19 = .ok (.goto (-17), 3) := by decide +kernel
theorem dL_size_22 : decode cL_size 22 = .ok (.iload_n 2, 1) := by decide +kernel
theorem dL_size_23 : decode cL_size 23 = .ok (.ireturn, 1) := by decide +kernel
theorem dL_from_0 : decode cL_from 0 = .ok (.iload_n 2, 1) := by decide +kernel
theorem dL_from_1 : decode cL_from 1 = .ok (.iconst 3, 1) := by decide +kernel
theorem dL_from_2 : decode cL_from 2 = .ok (.if_icmp .ge 5, 3) := by decide +kernel
theorem dL_from_5 : decode cL_from 5 = .ok (.lload_n 0, 1) := by decide +kernel
theorem dL_from_6 : decode cL_from 6 = .ok (.lreturn, 1) := by decide +kernel
theorem dL_from_7 : decode cL_from 7 = .ok (.lconst 0, 1) := by decide +kernel
theorem dL_from_8 : decode cL_from 8 = .ok (.lstore_n 3, 1) := by decide +kernel
theorem dL_from_9 : decode cL_from 9 = .ok (.iconst 0, 1) := by decide +kernel
theorem dL_from_10 : decode cL_from 10 = .ok (.istore 5, 2) := by decide +kernel
theorem dL_from_12 : decode cL_from 12 = .ok (.iconst 0, 1) := by decide +kernel
theorem dL_from_13 : decode cL_from 13 = .ok (.istore 6, 2) := by decide +kernel
theorem dL_from_15 : decode cL_from 15 = .ok (.iload 6, 2) := by decide +kernel
theorem dL_from_17 : decode cL_from 17 = .ok (.lload_n 0, 1) := by decide +kernel
theorem dL_from_18 : decode cL_from 18 = .ok (.invokestatic 18, 3) := by decide +kernel
theorem dL_from_21 : decode cL_from 21 = .ok (.if_icmp .ge 59, 3) := by decide +kernel
theorem dL_from_24 : decode cL_from 24 = .ok (.lload_n 0, 1) := by decide +kernel
theorem dL_from_25 : decode cL_from 25 = .ok (.iload 6, 2) := by decide +kernel
theorem dL_from_27 : decode cL_from 27 = .ok (.invokestatic 12, 3) := by decide +kernel
theorem dL_from_30 : decode cL_from 30 = .ok (.bipush 27, 2) := by decide +kernel
theorem dL_from_32 : decode cL_from 32 = .ok (.if_icmp .eq 42, 3) := by decide +kernel
theorem dL_from_35 : decode cL_from 35 = .ok (.iload 6, 2) := by decide +kernel
theorem dL_from_37 : decode cL_from 37 = .ok (.ifCond .le 19, 3) := by decide +kernel
theorem dL_from_40 : decode cL_from 40 = .ok (.lload_n 0, 1) := by decide +kernel
theorem dL_from_41 : decode cL_from 41 = .ok (.iload 6, 2) := by decide +kernel
theorem dL_from_43 : decode cL_from 43 = .ok (.iconst 1, 1) := by decide +kernel
theorem dL_from_44 : decode cL_from 44 = .ok (.isub, 1) := by decide +kernel
theorem dL_from_45 : decode cL_from 45 = .ok (.invokestatic 12, 3) := by decide +kernel
theorem dL_from_48 : decode cL_from 48 = .ok (.bipush 27, 2) := by decide +kernel
theorem dL_from_50 : decode cL_from 50 = .ok (.if_icmp .eq 6, 3) := by decide +kernel
theorem dL_from_53 : decode cL_from 53 = .ok (.goto 21, 3) := by decide +kernel
theorem dL_from_56 : decode cL_from 56 = .ok (.lload_n 3, 1) := by decide +kernel
theorem dL_from_57 : decode cL_from 57 = .ok (.lload_n 0, 1) := by decide +kernel
theorem dL_from_58 : decode cL_from 58 = .ok (.iload 6, 2) := by decide +kernel
theorem dL_from_60 : decode cL_from 60 = .ok (.invokestatic 12, 3) := by decide +kernel
theorem dL_from_63 : decode cL_from 63 = .ok (.i2l, 1) := by decide +kernel
theorem dL_from_64 : decode cL_from 64 = .ok (.iconst 5, 1) := by decide +kernel
theorem dL_from_65 : decode cL_from 65 = .ok (.iload 5, 2) := by decide +kernel
theorem dL_from_67 : decode cL_from 67 = .ok (.imul, 1) := by decide +kernel
theorem dL_from_68 : decode cL_from 68 = .ok (.lshl, 1) := by decide +kernel
theorem dL_from_69 : decode cL_from 69 = .ok (.lor, 1) := by decide +kernel
theorem dL_from_70 : decode cL_from 70 = .ok (.lstore_n 3, 1) := by decide +kernel
theorem dL_from_71 : decode cL_from 71 = .ok (.iinc 5 1, 3) := by decide +kernel
theorem dL_from_74 : decode cL_from 74 = .ok (.iinc 6 1, 3) := by decide +kernel
theorem dL_from_77 : decode cL_from 77 = .ok (.goto (-62), 3) := by decide +kernel
theorem dL_from_80 : decode cL_from 80 = .ok (.lload_n 3, 1) := by decide +kernel
theorem dL_from_81 : decode cL_from 81 = .ok (.lreturn, 1) := by decide +kernel
theorem dL_piece_0 : decode cL_piece 0 = .ok (.iload_n 2, 1) := by decide +kernel
theorem dL_piece_1 : decode cL_piece 1 = .ok (.iload_n 3, 1) := by decide +kernel
theorem dL_piece_2 : decode cL_piece 2 = .ok (.iadd, 1) := by decide +kernel
theorem dL_piece_3 : decode cL_piece 3 = .ok (.lload_n 0, 1) := by decide +kernel
theorem dL_piece_4 : decode cL_piece 4 = .ok (.invokestatic 18, 3) := by decide +kernel
theorem dL_piece_7 : decode cL_piece 7 = .ok (.if_icmp .gt 59, 3) := by decide +kernel
theorem dL_piece_10 : decode cL_piece 10 = .ok (.lload_n 0, 1) := by decide +kernel
theorem dL_piece_11 : decode cL_piece 11 = .ok (.iload_n 2, 1) := by decide +kernel
theorem dL_piece_12 : decode cL_piece 12 = .ok (.invokestatic 12, 3) := by decide +kernel
theorem dL_piece_15 : decode cL_piece 15 = .ok (.bipush 27, 2) := by decide +kernel
theorem dL_piece_17 : decode cL_piece 17 = .ok (.if_icmp .eq 49, 3) := by decide +kernel
theorem dL_piece_20 : decode cL_piece 20 = .ok (.lload_n 0, 1) := by decide +kernel
theorem dL_piece_21 : decode cL_piece 21 = .ok (.iload_n 2, 1) := by decide +kernel
theorem dL_piece_22 : decode cL_piece 22 = .ok (.iload_n 3, 1) := by decide +kernel
theorem dL_piece_23 : decode cL_piece 23 = .ok (.iadd, 1) := by decide +kernel
theorem dL_piece_24 : decode cL_piece 24 = .ok (.iconst 1, 1) := by decide +kernel
theorem dL_piece_25 : decode cL_piece 25 = .ok (.isub, 1) := by decide +kernel
theorem dL_piece_26 : decode cL_piece 26 = .ok (.invokestatic 12, 3) := by decide +kernel
theorem dL_piece_29 : decode cL_piece 29 = .ok (.bipush 27, 2) := by decide +kernel
theorem dL_piece_31 : decode cL_piece 31 = .ok (.if_icmp .eq 35, 3) := by decide +kernel
theorem dL_piece_34 : decode cL_piece 34 = .ok (.iload 4, 2) := by decide +kernel
theorem dL_piece_36 : decode cL_piece 36 = .ok (.iconst 1, 1) := by decide +kernel
theorem dL_piece_37 : decode cL_piece 37 = .ok (.if_icmp .ne 7, 3) := by decide +kernel
theorem dL_piece_40 : decode cL_piece 40 = .ok (.iload_n 2, 1) := by decide +kernel
theorem dL_piece_41 : decode cL_piece 41 = .ok (.ifCond .gt 25, 3) := by decide +kernel
theorem dL_piece_44 : decode cL_piece 44 = .ok (.iload 4, 2) := by decide +kernel
theorem dL_piece_46 : decode cL_piece 46 = .ok (.iconst 2, 1) := by decide +kernel
theorem dL_piece_47 : decode cL_piece 47 = .ok (.if_icmp .ne 21, 3) := by decide +kernel
theorem dL_piece_50 : decode cL_piece 50 = .ok (.iload_n 2, 1) := by decide +kernel
theorem dL_piece_51 : decode cL_piece 51 = .ok (.ifCond .le 17, 3) := by decide +kernel
theorem dL_piece_54 : decode cL_piece 54 = .ok (.lload_n 0, 1) := by decide +kernel
theorem dL_piece_55 : decode cL_piece 55 = .ok (.iload_n 2, 1) := by decide +kernel
theorem dL_piece_56 : decode cL_piece 56 = .ok (.iconst 1, 1) := by decide +kernel
theorem dL_piece_57 : decode cL_piece 57 = .ok (.isub, 1) := by decide +kernel
theorem dL_piece_58 : decode cL_piece 58 = .ok (.invokestatic 12, 3) := by decide +kernel
theorem dL_piece_61 : decode cL_piece 61 = .ok (.bipush 27, 2) := by decide +kernel
theorem dL_piece_63 : decode cL_piece 63 = .ok (.if_icmp .eq 5, 3) := by decide +kernel
theorem dL_piece_66 : decode cL_piece 66 = .ok (.lconst 0, 1) := by decide +kernel
theorem dL_piece_67 : decode cL_piece 67 = .ok (.lreturn, 1) := by decide +kernel
theorem dL_piece_68 : decode cL_piece 68 = .ok (.lload_n 0, 1) := by decide +kernel
theorem dL_piece_69 : decode cL_piece 69 = .ok (.iconst 5, 1) := by decide +kernel
theorem dL_piece_70 : decode cL_piece 70 = .ok (.iload_n 2, 1) := by decide +kernel
theorem dL_piece_71 : decode cL_piece 71 = .ok (.imul, 1) := by decide +kernel
theorem dL_piece_72 : decode cL_piece 72 = .ok (.lshr, 1) := by decide +kernel
theorem dL_piece_73 : decode cL_piece 73 = .ok (.lconst 1, 1) := by decide +kernel
theorem dL_piece_74 : decode cL_piece 74 = .ok (.iconst 5, 1) := by decide +kernel
theorem dL_piece_75 : decode cL_piece 75 = .ok (.iload_n 3, 1) := by decide +kernel
theorem dL_piece_76 : decode cL_piece 76 = .ok (.imul, 1) := by decide +kernel
theorem dL_piece_77 : decode cL_piece 77 = .ok (.lshl, 1) := by decide +kernel
theorem dL_piece_78 : decode cL_piece 78 = .ok (.lconst 1, 1) := by decide +kernel
theorem dL_piece_79 : decode cL_piece 79 = .ok (.lsub, 1) := by decide +kernel
theorem dL_piece_80 : decode cL_piece 80 = .ok (.land, 1) := by decide +kernel
theorem dL_piece_81 : decode cL_piece 81 = .ok (.lreturn, 1) := by decide +kernel
theorem dL_place_0 : decode cL_place 0 = .ok (.lload_n 2, 1) := by decide +kernel
theorem dL_place_1 : decode cL_place 1 = .ok (.lconst 0, 1) := by decide +kernel
theorem dL_place_2 : decode cL_place 2 = .ok (.lcmp, 1) := by decide +kernel
theorem dL_place_3 : decode cL_place 3 = .ok (.ifCond .ne 5, 3) := by decide +kernel
theorem dL_place_6 : decode cL_place 6 = .ok (.iconst 0, 1) := by decide +kernel
theorem dL_place_7 : decode cL_place 7 = .ok (.ireturn, 1) := by decide +kernel
theorem dL_place_8 : decode cL_place 8 = .ok (.lload_n 0, 1) := by decide +kernel
theorem dL_place_9 : decode cL_place 9 = .ok (.iload 4, 2) := by decide +kernel
theorem dL_place_11 : decode cL_place 11 = .ok (.invokestatic 22, 3) := by decide +kernel
theorem dL_place_14 : decode cL_place 14 = .ok (.lstore 5, 2) := by decide +kernel
theorem dL_place_16 : decode cL_place 16 = .ok (.iconst 0, 1) := by decide +kernel
theorem dL_place_17 : decode cL_place 17 = .ok (.istore 7, 2) := by decide +kernel
theorem dL_place_19 : decode cL_place 19 = .ok (.iload 7, 2) := by decide +kernel
theorem dL_place_21 : decode cL_place 21 = .ok (.lload 5, 2) := by decide +kernel
theorem dL_place_23 : decode cL_place 23 = .ok (.invokestatic 18, 3) := by decide +kernel
theorem dL_place_26 : decode cL_place 26 = .ok (.if_icmp .ge 30, 3) := by decide +kernel
theorem dL_place_29 : decode cL_place 29 = .ok (.lload 5, 2) := by decide +kernel
theorem dL_place_31 : decode cL_place 31 = .ok (.iload 7, 2) := by decide +kernel
theorem dL_place_33 : decode cL_place 33 = .ok (.lload_n 2, 1) := by decide +kernel
theorem dL_place_34 : decode cL_place 34 = .ok (.invokestatic 18, 3) := by decide +kernel
theorem dL_place_37 : decode cL_place 37 = .ok (.iload 4, 2) := by decide +kernel
theorem dL_place_39 : decode cL_place 39 = .ok (.invokestatic 26, 3) := by decide +kernel
theorem dL_place_42 : decode cL_place 42 = .ok (.lload_n 2, 1) := by decide +kernel
theorem dL_place_43 : decode cL_place 43 = .ok (.lcmp, 1) := by decide +kernel
theorem dL_place_44 : decode cL_place 44 = .ok (.ifCond .ne 6, 3) := by decide +kernel
theorem dL_place_47 : decode cL_place 47 = .ok (.iload 7, 2) := by decide +kernel
theorem dL_place_49 : decode cL_place 49 = .ok (.ireturn, 1) := by decide +kernel
theorem dL_place_50 : decode cL_place 50 = .ok (.iinc 7 1, 3) := by decide +kernel
theorem dL_place_53 : decode cL_place 53 = .ok (.goto (-34), 3) := by decide +kernel
theorem dL_place_56 : decode cL_place 56 = .ok (.iconst (-1), 1) := by decide +kernel
theorem dL_place_57 : decode cL_place 57 = .ok (.ireturn, 1) := by decide +kernel
theorem dL_named_0 : decode cL_named 0 = .ok (.iconst 0, 1) := by decide +kernel
theorem dL_named_1 : decode cL_named 1 = .ok (.istore 4, 2) := by decide +kernel
theorem dL_named_3 : decode cL_named 3 = .ok (.lload_n 0, 1) := by decide +kernel
theorem dL_named_4 : decode cL_named 4 = .ok (.iload 4, 2) := by decide +kernel
theorem dL_named_6 : decode cL_named 6 = .ok (.invokestatic 12, 3) := by decide +kernel
theorem dL_named_9 : decode cL_named 9 = .ok (.lload_n 2, 1) := by decide +kernel
theorem dL_named_10 : decode cL_named 10 = .ok (.iload 4, 2) := by decide +kernel
theorem dL_named_12 : decode cL_named 12 = .ok (.invokestatic 12, 3) := by decide +kernel
theorem dL_named_15 : decode cL_named 15 = .ok (.if_icmp .ne 18, 3) := by decide +kernel
theorem dL_named_18 : decode cL_named 18 = .ok (.lload_n 0, 1) := by decide +kernel
theorem dL_named_19 : decode cL_named 19 = .ok (.iload 4, 2) := by decide +kernel
theorem dL_named_21 : decode cL_named 21 = .ok (.invokestatic 12, 3) := by decide +kernel
theorem dL_named_24 : decode cL_named 24 = .ok (.ifCond .eq 9, 3) := by decide +kernel
theorem dL_named_27 : decode cL_named 27 = .ok (.iinc 4 1, 3) := by decide +kernel
theorem dL_named_30 : decode cL_named 30 = .ok (.goto (-27), 3) := by decide +kernel
theorem dL_named_33 : decode cL_named 33 = .ok (.lload_n 0, 1) := by decide +kernel
theorem dL_named_34 : decode cL_named 34 = .ok (.iload 4, 2) := by decide +kernel
theorem dL_named_36 : decode cL_named 36 = .ok (.invokestatic 12, 3) := by decide +kernel
theorem dL_named_39 : decode cL_named 39 = .ok (.ifCond .eq 12, 3) := by decide +kernel
theorem dL_named_42 : decode cL_named 42 = .ok (.lload_n 2, 1) := by decide +kernel
theorem dL_named_43 : decode cL_named 43 = .ok (.iload 4, 2) := by decide +kernel
theorem dL_named_45 : decode cL_named 45 = .ok (.invokestatic 12, 3) := by decide +kernel
theorem dL_named_48 : decode cL_named 48 = .ok (.ifCond .ne 18, 3) := by decide +kernel
theorem dL_named_51 : decode cL_named 51 = .ok (.lload_n 0, 1) := by decide +kernel
theorem dL_named_52 : decode cL_named 52 = .ok (.iload 4, 2) := by decide +kernel
theorem dL_named_54 : decode cL_named 54 = .ok (.invokestatic 12, 3) := by decide +kernel
theorem dL_named_57 : decode cL_named 57 = .ok (.ifCond .ne 7, 3) := by decide +kernel
theorem dL_named_60 : decode cL_named 60 = .ok (.iconst 1, 1) := by decide +kernel
theorem dL_named_61 : decode cL_named 61 = .ok (.goto 4, 3) := by decide +kernel
theorem dL_named_64 : decode cL_named 64 = .ok (.iconst 0, 1) := by decide +kernel
theorem dL_named_65 : decode cL_named 65 = .ok (.ireturn, 1) := by decide +kernel
theorem dL_named_66 : decode cL_named 66 = .ok (.lload_n 0, 1) := by decide +kernel
theorem dL_named_67 : decode cL_named 67 = .ok (.iload 4, 2) := by decide +kernel
theorem dL_named_69 : decode cL_named 69 = .ok (.invokestatic 12, 3) := by decide +kernel
theorem dL_named_72 : decode cL_named 72 = .ok (.invokestatic 30, 3) := by decide +kernel
theorem dL_named_75 : decode cL_named 75 = .ok (.lload_n 2, 1) := by decide +kernel
theorem dL_named_76 : decode cL_named 76 = .ok (.iload 4, 2) := by decide +kernel
theorem dL_named_78 : decode cL_named 78 = .ok (.invokestatic 12, 3) := by decide +kernel
theorem dL_named_81 : decode cL_named 81 = .ok (.invokestatic 30, 3) := by decide +kernel
theorem dL_named_84 : decode cL_named 84 = .ok (.if_icmp .ge 7, 3) := by decide +kernel
theorem dL_named_87 : decode cL_named 87 = .ok (.iconst 1, 1) := by decide +kernel
theorem dL_named_88 : decode cL_named 88 = .ok (.goto 4, 3) := by decide +kernel
theorem dL_named_91 : decode cL_named 91 = .ok (.iconst 0, 1) := by decide +kernel
theorem dL_named_92 : decode cL_named 92 = .ok (.ireturn, 1) := by decide +kernel
theorem dL_ahead_0 : decode cL_ahead 0 = .ok (.aload 4, 2) := by decide +kernel
theorem dL_ahead_2 : decode cL_ahead 2 = .ok (.iconst 2, 1) := by decide +kernel
theorem dL_ahead_3 : decode cL_ahead 3 = .ok (.iaload, 1) := by decide +kernel
theorem dL_ahead_4 : decode cL_ahead 4 = .ok (.iconst 2, 1) := by decide +kernel
theorem dL_ahead_5 : decode cL_ahead 5 = .ok (.if_icmp .ne 15, 3) := by decide +kernel
theorem dL_ahead_8 : decode cL_ahead 8 = .ok (.aload 5, 2) := by decide +kernel
theorem dL_ahead_10 : decode cL_ahead 10 = .ok (.iload_n 0, 1) := by decide +kernel
theorem dL_ahead_11 : decode cL_ahead 11 = .ok (.laload, 1) := by decide +kernel
theorem dL_ahead_12 : decode cL_ahead 12 = .ok (.aload 5, 2) := by decide +kernel
theorem dL_ahead_14 : decode cL_ahead 14 = .ok (.iload_n 1, 1) := by decide +kernel
theorem dL_ahead_15 : decode cL_ahead 15 = .ok (.laload, 1) := by decide +kernel
theorem dL_ahead_16 : decode cL_ahead 16 = .ok (.invokestatic 34, 3) := by decide +kernel
theorem dL_ahead_19 : decode cL_ahead 19 = .ok (.ireturn, 1) := by decide +kernel
theorem dL_ahead_20 : decode cL_ahead 20 = .ok (.aload 4, 2) := by decide +kernel
theorem dL_ahead_22 : decode cL_ahead 22 = .ok (.iconst 2, 1) := by decide +kernel
theorem dL_ahead_23 : decode cL_ahead 23 = .ok (.iaload, 1) := by decide +kernel
theorem dL_ahead_24 : decode cL_ahead 24 = .ok (.iconst 1, 1) := by decide +kernel
theorem dL_ahead_25 : decode cL_ahead 25 = .ok (.if_icmp .ne 39, 3) := by decide +kernel
theorem dL_ahead_28 : decode cL_ahead 28 = .ok (.aload 4, 2) := by decide +kernel
theorem dL_ahead_30 : decode cL_ahead 30 = .ok (.iconst 3, 1) := by decide +kernel
theorem dL_ahead_31 : decode cL_ahead 31 = .ok (.iload_n 0, 1) := by decide +kernel
theorem dL_ahead_32 : decode cL_ahead 32 = .ok (.iadd, 1) := by decide +kernel
theorem dL_ahead_33 : decode cL_ahead 33 = .ok (.iaload, 1) := by decide +kernel
theorem dL_ahead_34 : decode cL_ahead 34 = .ok (.aload 4, 2) := by decide +kernel
theorem dL_ahead_36 : decode cL_ahead 36 = .ok (.iconst 3, 1) := by decide +kernel
theorem dL_ahead_37 : decode cL_ahead 37 = .ok (.iload_n 1, 1) := by decide +kernel
theorem dL_ahead_38 : decode cL_ahead 38 = .ok (.iadd, 1) := by decide +kernel
theorem dL_ahead_39 : decode cL_ahead 39 = .ok (.iaload, 1) := by decide +kernel
theorem dL_ahead_40 : decode cL_ahead 40 = .ok (.if_icmp .eq 24, 3) := by decide +kernel
theorem dL_ahead_43 : decode cL_ahead 43 = .ok (.aload 4, 2) := by decide +kernel
theorem dL_ahead_45 : decode cL_ahead 45 = .ok (.iconst 3, 1) := by decide +kernel
theorem dL_ahead_46 : decode cL_ahead 46 = .ok (.iload_n 0, 1) := by decide +kernel
theorem dL_ahead_47 : decode cL_ahead 47 = .ok (.iadd, 1) := by decide +kernel
theorem dL_ahead_48 : decode cL_ahead 48 = .ok (.iaload, 1) := by decide +kernel
theorem dL_ahead_49 : decode cL_ahead 49 = .ok (.aload 4, 2) := by decide +kernel
theorem dL_ahead_51 : decode cL_ahead 51 = .ok (.iconst 3, 1) := by decide +kernel
theorem dL_ahead_52 : decode cL_ahead 52 = .ok (.iload_n 1, 1) := by decide +kernel
theorem dL_ahead_53 : decode cL_ahead 53 = .ok (.iadd, 1) := by decide +kernel
theorem dL_ahead_54 : decode cL_ahead 54 = .ok (.iaload, 1) := by decide +kernel
theorem dL_ahead_55 : decode cL_ahead 55 = .ok (.if_icmp .le 7, 3) := by decide +kernel
theorem dL_ahead_58 : decode cL_ahead 58 = .ok (.iconst 1, 1) := by decide +kernel
theorem dL_ahead_59 : decode cL_ahead 59 = .ok (.goto 4, 3) := by decide +kernel
theorem dL_ahead_62 : decode cL_ahead 62 = .ok (.iconst 0, 1) := by decide +kernel
theorem dL_ahead_63 : decode cL_ahead 63 = .ok (.ireturn, 1) := by decide +kernel
theorem dL_ahead_64 : decode cL_ahead 64 = .ok (.aload 5, 2) := by decide +kernel
theorem dL_ahead_66 : decode cL_ahead 66 = .ok (.iload_n 0, 1) := by decide +kernel
theorem dL_ahead_67 : decode cL_ahead 67 = .ok (.laload, 1) := by decide +kernel
theorem dL_ahead_68 : decode cL_ahead 68 = .ok (.lload_n 2, 1) := by decide +kernel
theorem dL_ahead_69 : decode cL_ahead 69 = .ok (.aload 4, 2) := by decide +kernel
theorem dL_ahead_71 : decode cL_ahead 71 = .ok (.iconst 1, 1) := by decide +kernel
theorem dL_ahead_72 : decode cL_ahead 72 = .ok (.iaload, 1) := by decide +kernel
theorem dL_ahead_73 : decode cL_ahead 73 = .ok (.invokestatic 38, 3) := by decide +kernel
theorem dL_ahead_76 : decode cL_ahead 76 = .ok (.istore 6, 2) := by decide +kernel
theorem dL_ahead_78 : decode cL_ahead 78 = .ok (.aload 5, 2) := by decide +kernel
theorem dL_ahead_80 : decode cL_ahead 80 = .ok (.iload_n 1, 1) := by decide +kernel
theorem dL_ahead_81 : decode cL_ahead 81 = .ok (.laload, 1) := by decide +kernel
theorem dL_ahead_82 : decode cL_ahead 82 = .ok (.lload_n 2, 1) := by decide +kernel
theorem dL_ahead_83 : decode cL_ahead 83 = .ok (.aload 4, 2) := by decide +kernel
theorem dL_ahead_85 : decode cL_ahead 85 = .ok (.iconst 1, 1) := by decide +kernel
theorem dL_ahead_86 : decode cL_ahead 86 = .ok (.iaload, 1) := by decide +kernel
theorem dL_ahead_87 : decode cL_ahead 87 = .ok (.invokestatic 38, 3) := by decide +kernel
theorem dL_ahead_90 : decode cL_ahead 90 = .ok (.istore 7, 2) := by decide +kernel
theorem dL_ahead_92 : decode cL_ahead 92 = .ok (.iload 6, 2) := by decide +kernel
theorem dL_ahead_94 : decode cL_ahead 94 = .ok (.iload 7, 2) := by decide +kernel
theorem dL_ahead_96 : decode cL_ahead 96 = .ok (.if_icmp .eq 16, 3) := by decide +kernel
theorem dL_ahead_99 : decode cL_ahead 99 = .ok (.iload 6, 2) := by decide +kernel
theorem dL_ahead_101 : decode cL_ahead 101 = .ok (.iload 7, 2) := by decide +kernel
theorem dL_ahead_103 : decode cL_ahead 103 = .ok (.if_icmp .ge 7, 3) := by decide +kernel
theorem dL_ahead_106 : decode cL_ahead 106 = .ok (.iconst 1, 1) := by decide +kernel
theorem dL_ahead_107 : decode cL_ahead 107 = .ok (.goto 4, 3) := by decide +kernel
theorem dL_ahead_110 : decode cL_ahead 110 = .ok (.iconst 0, 1) := by decide +kernel
theorem dL_ahead_111 : decode cL_ahead 111 = .ok (.ireturn, 1) := by decide +kernel
theorem dL_ahead_112 : decode cL_ahead 112 = .ok (.aload 5, 2) := by decide +kernel
theorem dL_ahead_114 : decode cL_ahead 114 = .ok (.iload_n 0, 1) := by decide +kernel
theorem dL_ahead_115 : decode cL_ahead 115 = .ok (.laload, 1) := by decide +kernel
theorem dL_ahead_116 : decode cL_ahead 116 = .ok (.invokestatic 18, 3) := by decide +kernel
theorem dL_ahead_119 : decode cL_ahead 119 = .ok (.aload 5, 2) := by decide +kernel
theorem dL_ahead_121 : decode cL_ahead 121 = .ok (.iload_n 1, 1) := by decide +kernel
theorem dL_ahead_122 : decode cL_ahead 122 = .ok (.laload, 1) := by decide +kernel
theorem dL_ahead_123 : decode cL_ahead 123 = .ok (.invokestatic 18, 3) := by decide +kernel
theorem dL_ahead_126 : decode cL_ahead 126 = .ok (.if_icmp .eq 28, 3) := by decide +kernel
theorem dL_ahead_129 : decode cL_ahead 129 = .ok (.aload 5, 2) := by decide +kernel
theorem dL_ahead_131 : decode cL_ahead 131 = .ok (.iload_n 0, 1) := by decide +kernel
theorem dL_ahead_132 : decode cL_ahead 132 = .ok (.laload, 1) := by decide +kernel
theorem dL_ahead_133 : decode cL_ahead 133 = .ok (.invokestatic 18, 3) := by decide +kernel
theorem dL_ahead_136 : decode cL_ahead 136 = .ok (.aload 5, 2) := by decide +kernel
theorem dL_ahead_138 : decode cL_ahead 138 = .ok (.iload_n 1, 1) := by decide +kernel
theorem dL_ahead_139 : decode cL_ahead 139 = .ok (.laload, 1) := by decide +kernel
theorem dL_ahead_140 : decode cL_ahead 140 = .ok (.invokestatic 18, 3) := by decide +kernel
theorem dL_ahead_143 : decode cL_ahead 143 = .ok (.if_icmp .ge 7, 3) := by decide +kernel
theorem dL_ahead_146 : decode cL_ahead 146 = .ok (.iconst 1, 1) := by decide +kernel
theorem dL_ahead_147 : decode cL_ahead 147 = .ok (.goto 17, 3) := by decide +kernel
theorem dL_ahead_150 : decode cL_ahead 150 = .ok (.iconst 0, 1) := by decide +kernel
theorem dL_ahead_151 : decode cL_ahead 151 = .ok (.goto 13, 3) := by decide +kernel
theorem dL_ahead_154 : decode cL_ahead 154 = .ok (.iload_n 0, 1) := by decide +kernel
theorem dL_ahead_155 : decode cL_ahead 155 = .ok (.iload_n 1, 1) := by decide +kernel
theorem dL_ahead_156 : decode cL_ahead 156 = .ok (.if_icmp .ge 7, 3) := by decide +kernel
theorem dL_ahead_159 : decode cL_ahead 159 = .ok (.iconst 1, 1) := by decide +kernel
theorem dL_ahead_160 : decode cL_ahead 160 = .ok (.goto 4, 3) := by decide +kernel
theorem dL_ahead_163 : decode cL_ahead 163 = .ok (.iconst 0, 1) := by decide +kernel
theorem dL_ahead_164 : decode cL_ahead 164 = .ok (.ireturn, 1) := by decide +kernel
theorem dL_best_0 : decode cL_best 0 = .ok (.aload_n 3, 1) := by decide +kernel
theorem dL_best_1 : decode cL_best 1 = .ok (.iload_n 0, 1) := by decide +kernel
theorem dL_best_2 : decode cL_best 2 = .ok (.laload, 1) := by decide +kernel
theorem dL_best_3 : decode cL_best 3 = .ok (.aload_n 2, 1) := by decide +kernel
theorem dL_best_4 : decode cL_best 4 = .ok (.iconst 1, 1) := by decide +kernel
theorem dL_best_5 : decode cL_best 5 = .ok (.iaload, 1) := by decide +kernel
theorem dL_best_6 : decode cL_best 6 = .ok (.invokestatic 22, 3) := by decide +kernel
theorem dL_best_9 : decode cL_best 9 = .ok (.lstore 4, 2) := by decide +kernel
theorem dL_best_11 : decode cL_best 11 = .ok (.iconst 1, 1) := by decide +kernel
theorem dL_best_12 : decode cL_best 12 = .ok (.istore 6, 2) := by decide +kernel
theorem dL_best_14 : decode cL_best 14 = .ok (.iload 6, 2) := by decide +kernel
theorem dL_best_16 : decode cL_best 16 = .ok (.lload 4, 2) := by decide +kernel
theorem dL_best_18 : decode cL_best 18 = .ok (.invokestatic 18, 3) := by decide +kernel
theorem dL_best_21 : decode cL_best 21 = .ok (.if_icmp .gt 139, 3) := by decide +kernel
theorem dL_best_24 : decode cL_best 24 = .ok (.iconst 0, 1) := by decide +kernel
theorem dL_best_25 : decode cL_best 25 = .ok (.istore 7, 2) := by decide +kernel
theorem dL_best_27 : decode cL_best 27 = .ok (.iload 7, 2) := by decide +kernel
theorem dL_best_29 : decode cL_best 29 = .ok (.iload 6, 2) := by decide +kernel
theorem dL_best_31 : decode cL_best 31 = .ok (.iadd, 1) := by decide +kernel
theorem dL_best_32 : decode cL_best 32 = .ok (.lload 4, 2) := by decide +kernel
theorem dL_best_34 : decode cL_best 34 = .ok (.invokestatic 18, 3) := by decide +kernel
theorem dL_best_37 : decode cL_best 37 = .ok (.if_icmp .gt 117, 3) := by decide +kernel
theorem dL_best_40 : decode cL_best 40 = .ok (.lload 4, 2) := by decide +kernel
theorem dL_best_42 : decode cL_best 42 = .ok (.iload 7, 2) := by decide +kernel
theorem dL_best_44 : decode cL_best 44 = .ok (.iload 6, 2) := by decide +kernel
theorem dL_best_46 : decode cL_best 46 = .ok (.aload_n 2, 1) := by decide +kernel
theorem dL_best_47 : decode cL_best 47 = .ok (.iconst 1, 1) := by decide +kernel
theorem dL_best_48 : decode cL_best 48 = .ok (.iaload, 1) := by decide +kernel
theorem dL_best_49 : decode cL_best 49 = .ok (.invokestatic 26, 3) := by decide +kernel
theorem dL_best_52 : decode cL_best 52 = .ok (.lstore 8, 2) := by decide +kernel
theorem dL_best_54 : decode cL_best 54 = .ok (.lload 8, 2) := by decide +kernel
theorem dL_best_56 : decode cL_best 56 = .ok (.lconst 0, 1) := by decide +kernel
theorem dL_best_57 : decode cL_best 57 = .ok (.lcmp, 1) := by decide +kernel
theorem dL_best_58 : decode cL_best 58 = .ok (.ifCond .ne 6, 3) := by decide +kernel
theorem dL_best_61 : decode cL_best 61 = .ok (.goto 87, 3) := by decide +kernel
theorem dL_best_64 : decode cL_best 64 = .ok (.iconst 1, 1) := by decide +kernel
theorem dL_best_65 : decode cL_best 65 = .ok (.istore 10, 2) := by decide +kernel
theorem dL_best_67 : decode cL_best 67 = .ok (.iconst 0, 1) := by decide +kernel
theorem dL_best_68 : decode cL_best 68 = .ok (.istore 11, 2) := by decide +kernel
theorem dL_best_70 : decode cL_best 70 = .ok (.iload 11, 2) := by decide +kernel
theorem dL_best_72 : decode cL_best 72 = .ok (.aload_n 2, 1) := by decide +kernel
theorem dL_best_73 : decode cL_best 73 = .ok (.iconst 0, 1) := by decide +kernel
theorem dL_best_74 : decode cL_best 74 = .ok (.iaload, 1) := by decide +kernel
theorem dL_best_75 : decode cL_best 75 = .ok (.if_icmp .ge 59, 3) := by decide +kernel
theorem dL_best_78 : decode cL_best 78 = .ok (.iload 10, 2) := by decide +kernel
theorem dL_best_80 : decode cL_best 80 = .ok (.ifCond .eq 45, 3) := by decide +kernel
theorem dL_best_83 : decode cL_best 83 = .ok (.iload 11, 2) := by decide +kernel
theorem dL_best_85 : decode cL_best 85 = .ok (.iload_n 0, 1) := by decide +kernel
theorem dL_best_86 : decode cL_best 86 = .ok (.if_icmp .eq 35, 3) := by decide +kernel
theorem dL_best_89 : decode cL_best 89 = .ok (.aload_n 3, 1) := by decide +kernel
theorem dL_best_90 : decode cL_best 90 = .ok (.iload 11, 2) := by decide +kernel
theorem dL_best_92 : decode cL_best 92 = .ok (.laload, 1) := by decide +kernel
theorem dL_best_93 : decode cL_best 93 = .ok (.lload 8, 2) := by decide +kernel
theorem dL_best_95 : decode cL_best 95 = .ok (.aload_n 2, 1) := by decide +kernel
theorem dL_best_96 : decode cL_best 96 = .ok (.iconst 1, 1) := by decide +kernel
theorem dL_best_97 : decode cL_best 97 = .ok (.iaload, 1) := by decide +kernel
theorem dL_best_98 : decode cL_best 98 = .ok (.invokestatic 38, 3) := by decide +kernel
theorem dL_best_101 : decode cL_best 101 = .ok (.ifCond .lt 20, 3) := by decide +kernel
theorem dL_best_104 : decode cL_best 104 = .ok (.iload_n 1, 1) := by decide +kernel
theorem dL_best_105 : decode cL_best 105 = .ok (.ifCond .ne 20, 3) := by decide +kernel
theorem dL_best_108 : decode cL_best 108 = .ok (.iload_n 0, 1) := by decide +kernel
theorem dL_best_109 : decode cL_best 109 = .ok (.iload 11, 2) := by decide +kernel
theorem dL_best_111 : decode cL_best 111 = .ok (.lload 8, 2) := by decide +kernel
theorem dL_best_113 : decode cL_best 113 = .ok (.aload_n 2, 1) := by decide +kernel
theorem dL_best_114 : decode cL_best 114 = .ok (.aload_n 3, 1) := by decide +kernel
theorem dL_best_115 : decode cL_best 115 = .ok (.invokestatic 42, 3) := by decide +kernel
theorem dL_best_118 : decode cL_best 118 = .ok (.ifCond .eq 7, 3) := by decide +kernel
theorem dL_best_121 : decode cL_best 121 = .ok (.iconst 1, 1) := by decide +kernel
theorem dL_best_122 : decode cL_best 122 = .ok (.goto 4, 3) := by decide +kernel
theorem dL_best_125 : decode cL_best 125 = .ok (.iconst 0, 1) := by decide +kernel
theorem dL_best_126 : decode cL_best 126 = .ok (.istore 10, 2) := by decide +kernel
theorem dL_best_128 : decode cL_best 128 = .ok (.iinc 11 1, 3) := by decide +kernel
theorem dL_best_131 : decode cL_best 131 = .ok (.goto (-61), 3) := by decide +kernel
theorem dL_best_134 : decode cL_best 134 = .ok (.iload 10, 2) := by decide +kernel
theorem dL_best_136 : decode cL_best 136 = .ok (.ifCond .eq 12, 3) := by decide +kernel
theorem dL_best_139 : decode cL_best 139 = .ok (.bipush 100, 2) := by decide +kernel
theorem dL_best_141 : decode cL_best 141 = .ok (.iload 7, 2) := by decide +kernel
theorem dL_best_143 : decode cL_best 143 = .ok (.imul, 1) := by decide +kernel
theorem dL_best_144 : decode cL_best 144 = .ok (.iload 6, 2) := by decide +kernel
theorem dL_best_146 : decode cL_best 146 = .ok (.iadd, 1) := by decide +kernel
theorem dL_best_147 : decode cL_best 147 = .ok (.ireturn, 1) := by decide +kernel
theorem dL_best_148 : decode cL_best 148 = .ok (.iinc 7 1, 3) := by decide +kernel
theorem dL_best_151 : decode cL_best 151 = .ok (.goto (-124), 3) := by decide +kernel
theorem dL_best_154 : decode cL_best 154 = .ok (.iinc 6 1, 3) := by decide +kernel
theorem dL_best_157 : decode cL_best 157 = .ok (.goto (-143), 3) := by decide +kernel
theorem dL_best_160 : decode cL_best 160 = .ok (.bipush (-6), 2) := by decide +kernel
theorem dL_best_162 : decode cL_best 162 = .ok (.ireturn, 1) := by decide +kernel
theorem dL_common_0 : decode cL_common 0 = .ok (.iconst 0, 1) := by decide +kernel
theorem dL_common_1 : decode cL_common 1 = .ok (.istore 4, 2) := by decide +kernel
theorem dL_common_3 : decode cL_common 3 = .ok (.iconst 0, 1) := by decide +kernel
theorem dL_common_4 : decode cL_common 4 = .ok (.istore 5, 2) := by decide +kernel
theorem dL_common_6 : decode cL_common 6 = .ok (.iload 5, 2) := by decide +kernel
theorem dL_common_8 : decode cL_common 8 = .ok (.lload_n 0, 1) := by decide +kernel
theorem dL_common_9 : decode cL_common 9 = .ok (.invokestatic 18, 3) := by decide +kernel
theorem dL_common_12 : decode cL_common 12 = .ok (.if_icmp .ge 97, 3) := by decide +kernel
theorem dL_common_15 : decode cL_common 15 = .ok (.iconst 0, 1) := by decide +kernel
theorem dL_common_16 : decode cL_common 16 = .ok (.istore 6, 2) := by decide +kernel
theorem dL_common_18 : decode cL_common 18 = .ok (.iload 6, 2) := by decide +kernel
theorem dL_common_20 : decode cL_common 20 = .ok (.lload_n 2, 1) := by decide +kernel
theorem dL_common_21 : decode cL_common 21 = .ok (.invokestatic 18, 3) := by decide +kernel
theorem dL_common_24 : decode cL_common 24 = .ok (.if_icmp .ge 79, 3) := by decide +kernel
theorem dL_common_27 : decode cL_common 27 = .ok (.iconst 0, 1) := by decide +kernel
theorem dL_common_28 : decode cL_common 28 = .ok (.istore 7, 2) := by decide +kernel
theorem dL_common_30 : decode cL_common 30 = .ok (.iload 5, 2) := by decide +kernel
theorem dL_common_32 : decode cL_common 32 = .ok (.iload 7, 2) := by decide +kernel
theorem dL_common_34 : decode cL_common 34 = .ok (.iadd, 1) := by decide +kernel
theorem dL_common_35 : decode cL_common 35 = .ok (.lload_n 0, 1) := by decide +kernel
theorem dL_common_36 : decode cL_common 36 = .ok (.invokestatic 18, 3) := by decide +kernel
theorem dL_common_39 : decode cL_common 39 = .ok (.if_icmp .ge 42, 3) := by decide +kernel
theorem dL_common_42 : decode cL_common 42 = .ok (.iload 6, 2) := by decide +kernel
theorem dL_common_44 : decode cL_common 44 = .ok (.iload 7, 2) := by decide +kernel
theorem dL_common_46 : decode cL_common 46 = .ok (.iadd, 1) := by decide +kernel
theorem dL_common_47 : decode cL_common 47 = .ok (.lload_n 2, 1) := by decide +kernel
theorem dL_common_48 : decode cL_common 48 = .ok (.invokestatic 18, 3) := by decide +kernel
theorem dL_common_51 : decode cL_common 51 = .ok (.if_icmp .ge 30, 3) := by decide +kernel
theorem dL_common_54 : decode cL_common 54 = .ok (.lload_n 0, 1) := by decide +kernel
theorem dL_common_55 : decode cL_common 55 = .ok (.iload 5, 2) := by decide +kernel
theorem dL_common_57 : decode cL_common 57 = .ok (.iload 7, 2) := by decide +kernel
theorem dL_common_59 : decode cL_common 59 = .ok (.iadd, 1) := by decide +kernel
theorem dL_common_60 : decode cL_common 60 = .ok (.invokestatic 12, 3) := by decide +kernel
theorem dL_common_63 : decode cL_common 63 = .ok (.lload_n 2, 1) := by decide +kernel
theorem dL_common_64 : decode cL_common 64 = .ok (.iload 6, 2) := by decide +kernel
theorem dL_common_66 : decode cL_common 66 = .ok (.iload 7, 2) := by decide +kernel
theorem dL_common_68 : decode cL_common 68 = .ok (.iadd, 1) := by decide +kernel
theorem dL_common_69 : decode cL_common 69 = .ok (.invokestatic 12, 3) := by decide +kernel
theorem dL_common_72 : decode cL_common 72 = .ok (.if_icmp .ne 9, 3) := by decide +kernel
theorem dL_common_75 : decode cL_common 75 = .ok (.iinc 7 1, 3) := by decide +kernel
theorem dL_common_78 : decode cL_common 78 = .ok (.goto (-48), 3) := by decide +kernel
theorem dL_common_81 : decode cL_common 81 = .ok (.iload 7, 2) := by decide +kernel
theorem dL_common_83 : decode cL_common 83 = .ok (.iload 4, 2) := by decide +kernel
theorem dL_common_85 : decode cL_common 85 = .ok (.if_icmp .le 8, 3) := by decide +kernel
theorem dL_common_88 : decode cL_common 88 = .ok (.iload 7, 2) := by decide +kernel
theorem dL_common_90 : decode cL_common 90 = .ok (.goto 5, 3) := by decide +kernel
theorem dL_common_93 : decode cL_common 93 = .ok (.iload 4, 2) := by decide +kernel
theorem dL_common_95 : decode cL_common 95 = .ok (.istore 4, 2) := by decide +kernel
theorem dL_common_97 : decode cL_common 97 = .ok (.iinc 6 1, 3) := by decide +kernel
theorem dL_common_100 : decode cL_common 100 = .ok (.goto (-82), 3) := by decide +kernel
theorem dL_common_103 : decode cL_common 103 = .ok (.iinc 5 1, 3) := by decide +kernel
theorem dL_common_106 : decode cL_common 106 = .ok (.goto (-100), 3) := by decide +kernel
theorem dL_common_109 : decode cL_common 109 = .ok (.iload 4, 2) := by decide +kernel
theorem dL_common_111 : decode cL_common 111 = .ok (.ireturn, 1) := by decide +kernel
theorem dL_cut_0 : decode cL_cut 0 = .ok (.lload_n 0, 1) := by decide +kernel
theorem dL_cut_1 : decode cL_cut 1 = .ok (.invokestatic 18, 3) := by decide +kernel
theorem dL_cut_4 : decode cL_cut 4 = .ok (.istore_n 2, 1) := by decide +kernel
theorem dL_cut_5 : decode cL_cut 5 = .ok (.iload_n 2, 1) := by decide +kernel
theorem dL_cut_6 : decode cL_cut 6 = .ok (.ifCond .le 29, 3) := by decide +kernel
theorem dL_cut_9 : decode cL_cut 9 = .ok (.lload_n 0, 1) := by decide +kernel
theorem dL_cut_10 : decode cL_cut 10 = .ok (.iload_n 2, 1) := by decide +kernel
theorem dL_cut_11 : decode cL_cut 11 = .ok (.iconst 1, 1) := by decide +kernel
theorem dL_cut_12 : decode cL_cut 12 = .ok (.isub, 1) := by decide +kernel
theorem dL_cut_13 : decode cL_cut 13 = .ok (.invokestatic 12, 3) := by decide +kernel
theorem dL_cut_16 : decode cL_cut 16 = .ok (.bipush 27, 2) := by decide +kernel
theorem dL_cut_18 : decode cL_cut 18 = .ok (.if_icmp .ne 17, 3) := by decide +kernel
theorem dL_cut_21 : decode cL_cut 21 = .ok (.lload_n 0, 1) := by decide +kernel
theorem dL_cut_22 : decode cL_cut 22 = .ok (.lconst 1, 1) := by decide +kernel
theorem dL_cut_23 : decode cL_cut 23 = .ok (.iconst 5, 1) := by decide +kernel
theorem dL_cut_24 : decode cL_cut 24 = .ok (.iload_n 2, 1) := by decide +kernel
theorem dL_cut_25 : decode cL_cut 25 = .ok (.imul, 1) := by decide +kernel
theorem dL_cut_26 : decode cL_cut 26 = .ok (.iconst 5, 1) := by decide +kernel
theorem dL_cut_27 : decode cL_cut 27 = .ok (.isub, 1) := by decide +kernel
theorem dL_cut_28 : decode cL_cut 28 = .ok (.lshl, 1) := by decide +kernel
theorem dL_cut_29 : decode cL_cut 29 = .ok (.lconst 1, 1) := by decide +kernel
theorem dL_cut_30 : decode cL_cut 30 = .ok (.lsub, 1) := by decide +kernel
theorem dL_cut_31 : decode cL_cut 31 = .ok (.land, 1) := by decide +kernel
theorem dL_cut_32 : decode cL_cut 32 = .ok (.goto 4, 3) := by decide +kernel
theorem dL_cut_35 : decode cL_cut 35 = .ok (.lload_n 0, 1) := by decide +kernel
theorem dL_cut_36 : decode cL_cut 36 = .ok (.lreturn, 1) := by decide +kernel
theorem dL_ranked_0 : decode cL_ranked 0 = .ok (.lload_n 1, 1) := by decide +kernel
theorem dL_ranked_1 : decode cL_ranked 1 = .ok (.invokestatic 48, 3) := by decide +kernel
theorem dL_ranked_4 : decode cL_ranked 4 = .ok (.lstore 5, 2) := by decide +kernel
theorem dL_ranked_6 : decode cL_ranked 6 = .ok (.iconst 0, 1) := by decide +kernel
theorem dL_ranked_7 : decode cL_ranked 7 = .ok (.istore 7, 2) := by decide +kernel
theorem dL_ranked_9 : decode cL_ranked 9 = .ok (.iload 7, 2) := by decide +kernel
theorem dL_ranked_11 : decode cL_ranked 11 = .ok (.aload_n 3, 1) := by decide +kernel
theorem dL_ranked_12 : decode cL_ranked 12 = .ok (.iconst 0, 1) := by decide +kernel
theorem dL_ranked_13 : decode cL_ranked 13 = .ok (.iaload, 1) := by decide +kernel
theorem dL_ranked_14 : decode cL_ranked 14 = .ok (.if_icmp .ge 105, 3) := by decide +kernel
theorem dL_ranked_17 : decode cL_ranked 17 = .ok (.aload 4, 2) := by decide +kernel
theorem dL_ranked_19 : decode cL_ranked 19 = .ok (.iload 7, 2) := by decide +kernel
theorem dL_ranked_21 : decode cL_ranked 21 = .ok (.laload, 1) := by decide +kernel
theorem dL_ranked_22 : decode cL_ranked 22 = .ok (.lload 5, 2) := by decide +kernel
theorem dL_ranked_24 : decode cL_ranked 24 = .ok (.aload_n 3, 1) := by decide +kernel
theorem dL_ranked_25 : decode cL_ranked 25 = .ok (.iconst 1, 1) := by decide +kernel
theorem dL_ranked_26 : decode cL_ranked 26 = .ok (.iaload, 1) := by decide +kernel
theorem dL_ranked_27 : decode cL_ranked 27 = .ok (.invokestatic 38, 3) := by decide +kernel
theorem dL_ranked_30 : decode cL_ranked 30 = .ok (.ifCond .ge 6, 3) := by decide +kernel
theorem dL_ranked_33 : decode cL_ranked 33 = .ok (.goto 80, 3) := by decide +kernel
theorem dL_ranked_36 : decode cL_ranked 36 = .ok (.iconst 0, 1) := by decide +kernel
theorem dL_ranked_37 : decode cL_ranked 37 = .ok (.istore 8, 2) := by decide +kernel
theorem dL_ranked_39 : decode cL_ranked 39 = .ok (.iconst 0, 1) := by decide +kernel
theorem dL_ranked_40 : decode cL_ranked 40 = .ok (.istore 9, 2) := by decide +kernel
theorem dL_ranked_42 : decode cL_ranked 42 = .ok (.iload 9, 2) := by decide +kernel
theorem dL_ranked_44 : decode cL_ranked 44 = .ok (.aload_n 3, 1) := by decide +kernel
theorem dL_ranked_45 : decode cL_ranked 45 = .ok (.iconst 0, 1) := by decide +kernel
theorem dL_ranked_46 : decode cL_ranked 46 = .ok (.iaload, 1) := by decide +kernel
theorem dL_ranked_47 : decode cL_ranked 47 = .ok (.if_icmp .ge 57, 3) := by decide +kernel
theorem dL_ranked_50 : decode cL_ranked 50 = .ok (.iload 8, 2) := by decide +kernel
theorem dL_ranked_52 : decode cL_ranked 52 = .ok (.iload 9, 2) := by decide +kernel
theorem dL_ranked_54 : decode cL_ranked 54 = .ok (.iload 7, 2) := by decide +kernel
theorem dL_ranked_56 : decode cL_ranked 56 = .ok (.if_icmp .eq 38, 3) := by decide +kernel
theorem dL_ranked_59 : decode cL_ranked 59 = .ok (.aload 4, 2) := by decide +kernel
theorem dL_ranked_61 : decode cL_ranked 61 = .ok (.iload 9, 2) := by decide +kernel
theorem dL_ranked_63 : decode cL_ranked 63 = .ok (.laload, 1) := by decide +kernel
theorem dL_ranked_64 : decode cL_ranked 64 = .ok (.lload 5, 2) := by decide +kernel
theorem dL_ranked_66 : decode cL_ranked 66 = .ok (.aload_n 3, 1) := by decide +kernel
theorem dL_ranked_67 : decode cL_ranked 67 = .ok (.iconst 1, 1) := by decide +kernel
theorem dL_ranked_68 : decode cL_ranked 68 = .ok (.iaload, 1) := by decide +kernel
theorem dL_ranked_69 : decode cL_ranked 69 = .ok (.invokestatic 38, 3) := by decide +kernel
theorem dL_ranked_72 : decode cL_ranked 72 = .ok (.ifCond .lt 22, 3) := by decide +kernel
theorem dL_ranked_75 : decode cL_ranked 75 = .ok (.iload 9, 2) := by decide +kernel
theorem dL_ranked_77 : decode cL_ranked 77 = .ok (.iload 7, 2) := by decide +kernel
theorem dL_ranked_79 : decode cL_ranked 79 = .ok (.lload 5, 2) := by decide +kernel
theorem dL_ranked_81 : decode cL_ranked 81 = .ok (.aload_n 3, 1) := by decide +kernel
theorem dL_ranked_82 : decode cL_ranked 82 = .ok (.aload 4, 2) := by decide +kernel
theorem dL_ranked_84 : decode cL_ranked 84 = .ok (.invokestatic 42, 3) := by decide +kernel
theorem dL_ranked_87 : decode cL_ranked 87 = .ok (.ifCond .eq 7, 3) := by decide +kernel
theorem dL_ranked_90 : decode cL_ranked 90 = .ok (.iconst 1, 1) := by decide +kernel
theorem dL_ranked_91 : decode cL_ranked 91 = .ok (.goto 4, 3) := by decide +kernel
theorem dL_ranked_94 : decode cL_ranked 94 = .ok (.iconst 0, 1) := by decide +kernel
theorem dL_ranked_95 : decode cL_ranked 95 = .ok (.iadd, 1) := by decide +kernel
theorem dL_ranked_96 : decode cL_ranked 96 = .ok (.istore 8, 2) := by decide +kernel
theorem dL_ranked_98 : decode cL_ranked 98 = .ok (.iinc 9 1, 3) := by decide +kernel
theorem dL_ranked_101 : decode cL_ranked 101 = .ok (.goto (-59), 3) := by decide +kernel
theorem dL_ranked_104 : decode cL_ranked 104 = .ok (.iload 8, 2) := by decide +kernel
theorem dL_ranked_106 : decode cL_ranked 106 = .ok (.iload_n 0, 1) := by decide +kernel
theorem dL_ranked_107 : decode cL_ranked 107 = .ok (.if_icmp .ne 6, 3) := by decide +kernel
theorem dL_ranked_110 : decode cL_ranked 110 = .ok (.iload 7, 2) := by decide +kernel
theorem dL_ranked_112 : decode cL_ranked 112 = .ok (.ireturn, 1) := by decide +kernel
theorem dL_ranked_113 : decode cL_ranked 113 = .ok (.iinc 7 1, 3) := by decide +kernel
theorem dL_ranked_116 : decode cL_ranked 116 = .ok (.goto (-107), 3) := by decide +kernel
theorem dL_ranked_119 : decode cL_ranked 119 = .ok (.iconst (-1), 1) := by decide +kernel
theorem dL_ranked_120 : decode cL_ranked 120 = .ok (.ireturn, 1) := by decide +kernel
theorem dL_same_0 : decode cL_same 0 = .ok (.iconst 0, 1) := by decide +kernel
theorem dL_same_1 : decode cL_same 1 = .ok (.istore 6, 2) := by decide +kernel
theorem dL_same_3 : decode cL_same 3 = .ok (.bipush (-6), 2) := by decide +kernel
theorem dL_same_5 : decode cL_same 5 = .ok (.istore 7, 2) := by decide +kernel
theorem dL_same_7 : decode cL_same 7 = .ok (.iconst 0, 1) := by decide +kernel
theorem dL_same_8 : decode cL_same 8 = .ok (.istore 8, 2) := by decide +kernel
theorem dL_same_10 : decode cL_same 10 = .ok (.iconst 0, 1) := by decide +kernel
theorem dL_same_11 : decode cL_same 11 = .ok (.istore 9, 2) := by decide +kernel
theorem dL_same_13 : decode cL_same 13 = .ok (.iload 9, 2) := by decide +kernel
theorem dL_same_15 : decode cL_same 15 = .ok (.aload 4, 2) := by decide +kernel
theorem dL_same_17 : decode cL_same 17 = .ok (.iconst 0, 1) := by decide +kernel
theorem dL_same_18 : decode cL_same 18 = .ok (.iaload, 1) := by decide +kernel
theorem dL_same_19 : decode cL_same 19 = .ok (.if_icmp .ge 427, 3) := by decide +kernel
theorem dL_same_22 : decode cL_same 22 = .ok (.aload 5, 2) := by decide +kernel
theorem dL_same_24 : decode cL_same 24 = .ok (.iload 9, 2) := by decide +kernel
theorem dL_same_26 : decode cL_same 26 = .ok (.laload, 1) := by decide +kernel
theorem dL_same_27 : decode cL_same 27 = .ok (.invokestatic 18, 3) := by decide +kernel
theorem dL_same_30 : decode cL_same 30 = .ok (.istore 10, 2) := by decide +kernel
theorem dL_same_32 : decode cL_same 32 = .ok (.iconst 1, 1) := by decide +kernel
theorem dL_same_33 : decode cL_same 33 = .ok (.istore 11, 2) := by decide +kernel
theorem dL_same_35 : decode cL_same 35 = .ok (.iconst 0, 1) := by decide +kernel
theorem dL_same_36 : decode cL_same 36 = .ok (.istore 12, 2) := by decide +kernel
theorem dL_same_38 : decode cL_same 38 = .ok (.iload 12, 2) := by decide +kernel
theorem dL_same_40 : decode cL_same 40 = .ok (.iload 10, 2) := by decide +kernel
theorem dL_same_42 : decode cL_same 42 = .ok (.if_icmp .ge 60, 3) := by decide +kernel
theorem dL_same_45 : decode cL_same 45 = .ok (.iload 11, 2) := by decide +kernel
theorem dL_same_47 : decode cL_same 47 = .ok (.aload 5, 2) := by decide +kernel
theorem dL_same_49 : decode cL_same 49 = .ok (.iload 9, 2) := by decide +kernel
theorem dL_same_51 : decode cL_same 51 = .ok (.laload, 1) := by decide +kernel
theorem dL_same_52 : decode cL_same 52 = .ok (.iload 12, 2) := by decide +kernel
theorem dL_same_54 : decode cL_same 54 = .ok (.invokestatic 12, 3) := by decide +kernel
theorem dL_same_57 : decode cL_same 57 = .ok (.bipush 27, 2) := by decide +kernel
theorem dL_same_59 : decode cL_same 59 = .ok (.if_icmp .ne 7, 3) := by decide +kernel
theorem dL_same_62 : decode cL_same 62 = .ok (.iconst 1, 1) := by decide +kernel
theorem dL_same_63 : decode cL_same 63 = .ok (.goto 4, 3) := by decide +kernel
theorem dL_same_66 : decode cL_same 66 = .ok (.iconst 0, 1) := by decide +kernel
theorem dL_same_67 : decode cL_same 67 = .ok (.iadd, 1) := by decide +kernel
theorem dL_same_68 : decode cL_same 68 = .ok (.istore 11, 2) := by decide +kernel
theorem dL_same_70 : decode cL_same 70 = .ok (.aload_n 0, 1) := by decide +kernel
theorem dL_same_71 : decode cL_same 71 = .ok (.iload 9, 2) := by decide +kernel
theorem dL_same_73 : decode cL_same 73 = .ok (.iload 12, 2) := by decide +kernel
theorem dL_same_75 : decode cL_same 75 = .ok (.invokevirtual 52, 3) := by decide +kernel
theorem dL_same_78 : decode cL_same 78 = .ok (.aload 5, 2) := by decide +kernel
theorem dL_same_80 : decode cL_same 80 = .ok (.iload 9, 2) := by decide +kernel
theorem dL_same_82 : decode cL_same 82 = .ok (.laload, 1) := by decide +kernel
theorem dL_same_83 : decode cL_same 83 = .ok (.iload 12, 2) := by decide +kernel
theorem dL_same_85 : decode cL_same 85 = .ok (.invokestatic 12, 3) := by decide +kernel
theorem dL_same_88 : decode cL_same 88 = .ok (.invokestatic 30, 3) := by decide +kernel
theorem dL_same_91 : decode cL_same 91 = .ok (.if_icmp .eq 5, 3) := by decide +kernel
theorem dL_same_94 : decode cL_same 94 = .ok (.iconst 0, 1) := by decide +kernel
theorem dL_same_95 : decode cL_same 95 = .ok (.ireturn, 1) := by decide +kernel
theorem dL_same_96 : decode cL_same 96 = .ok (.iinc 12 1, 3) := by decide +kernel
theorem dL_same_99 : decode cL_same 99 = .ok (.goto (-61), 3) := by decide +kernel
theorem dL_same_102 : decode cL_same 102 = .ok (.iload 9, 2) := by decide +kernel
theorem dL_same_104 : decode cL_same 104 = .ok (.iconst 1, 1) := by decide +kernel
theorem dL_same_105 : decode cL_same 105 = .ok (.aload 4, 2) := by decide +kernel
theorem dL_same_107 : decode cL_same 107 = .ok (.aload 5, 2) := by decide +kernel
theorem dL_same_109 : decode cL_same 109 = .ok (.invokestatic 56, 3) := by decide +kernel
theorem dL_same_112 : decode cL_same 112 = .ok (.istore 12, 2) := by decide +kernel
theorem dL_same_114 : decode cL_same 114 = .ok (.iload 9, 2) := by decide +kernel
theorem dL_same_116 : decode cL_same 116 = .ok (.iconst 0, 1) := by decide +kernel
theorem dL_same_117 : decode cL_same 117 = .ok (.aload 4, 2) := by decide +kernel
theorem dL_same_119 : decode cL_same 119 = .ok (.aload 5, 2) := by decide +kernel
theorem dL_same_121 : decode cL_same 121 = .ok (.invokestatic 56, 3) := by decide +kernel
theorem dL_same_124 : decode cL_same 124 = .ok (.istore 13, 2) := by decide +kernel
theorem dL_same_126 : decode cL_same 126 = .ok (.aload_n 0, 1) := by decide +kernel
theorem dL_same_127 : decode cL_same 127 = .ok (.iload 9, 2) := by decide +kernel
theorem dL_same_129 : decode cL_same 129 = .ok (.iconst 0, 1) := by decide +kernel
theorem dL_same_130 : decode cL_same 130 = .ok (.invokevirtual 60, 3) := by decide +kernel
theorem dL_same_133 : decode cL_same 133 = .ok (.iload 10, 2) := by decide +kernel
theorem dL_same_135 : decode cL_same 135 = .ok (.if_icmp .ne 145, 3) := by decide +kernel
theorem dL_same_138 : decode cL_same 138 = .ok (.aload_n 0, 1) := by decide +kernel
theorem dL_same_139 : decode cL_same 139 = .ok (.iload 9, 2) := by decide +kernel
theorem dL_same_141 : decode cL_same 141 = .ok (.iconst 1, 1) := by decide +kernel
theorem dL_same_142 : decode cL_same 142 = .ok (.invokevirtual 60, 3) := by decide +kernel
theorem dL_same_145 : decode cL_same 145 = .ok (.iload 11, 2) := by decide +kernel
theorem dL_same_147 : decode cL_same 147 = .ok (.if_icmp .ne 133, 3) := by decide +kernel
theorem dL_same_150 : decode cL_same 150 = .ok (.aload_n 0, 1) := by decide +kernel
theorem dL_same_151 : decode cL_same 151 = .ok (.iload 9, 2) := by decide +kernel
theorem dL_same_153 : decode cL_same 153 = .ok (.iconst 2, 1) := by decide +kernel
theorem dL_same_154 : decode cL_same 154 = .ok (.invokevirtual 60, 3) := by decide +kernel
theorem dL_same_157 : decode cL_same 157 = .ok (.aload 4, 2) := by decide +kernel
theorem dL_same_159 : decode cL_same 159 = .ok (.iconst 3, 1) := by decide +kernel
theorem dL_same_160 : decode cL_same 160 = .ok (.iload 9, 2) := by decide +kernel
theorem dL_same_162 : decode cL_same 162 = .ok (.iadd, 1) := by decide +kernel
theorem dL_same_163 : decode cL_same 163 = .ok (.iaload, 1) := by decide +kernel
theorem dL_same_164 : decode cL_same 164 = .ok (.if_icmp .ne 116, 3) := by decide +kernel
theorem dL_same_167 : decode cL_same 167 = .ok (.aload_n 0, 1) := by decide +kernel
theorem dL_same_168 : decode cL_same 168 = .ok (.iload 9, 2) := by decide +kernel
theorem dL_same_170 : decode cL_same 170 = .ok (.iconst 3, 1) := by decide +kernel
theorem dL_same_171 : decode cL_same 171 = .ok (.invokevirtual 60, 3) := by decide +kernel
theorem dL_same_174 : decode cL_same 174 = .ok (.iload 12, 2) := by decide +kernel
theorem dL_same_176 : decode cL_same 176 = .ok (.ifCond .ge 8, 3) := by decide +kernel
theorem dL_same_179 : decode cL_same 179 = .ok (.iload 12, 2) := by decide +kernel
theorem dL_same_181 : decode cL_same 181 = .ok (.goto 8, 3) := by decide +kernel
theorem dL_same_184 : decode cL_same 184 = .ok (.iload 12, 2) := by decide +kernel
theorem dL_same_186 : decode cL_same 186 = .ok (.bipush 100, 2) := by decide +kernel
theorem dL_same_188 : decode cL_same 188 = .ok (.idiv, 1) := by decide +kernel
theorem dL_same_189 : decode cL_same 189 = .ok (.if_icmp .ne 91, 3) := by decide +kernel
theorem dL_same_192 : decode cL_same 192 = .ok (.aload_n 0, 1) := by decide +kernel
theorem dL_same_193 : decode cL_same 193 = .ok (.iload 9, 2) := by decide +kernel
theorem dL_same_195 : decode cL_same 195 = .ok (.iconst 4, 1) := by decide +kernel
theorem dL_same_196 : decode cL_same 196 = .ok (.invokevirtual 60, 3) := by decide +kernel
theorem dL_same_199 : decode cL_same 199 = .ok (.iload 12, 2) := by decide +kernel
theorem dL_same_201 : decode cL_same 201 = .ok (.ifCond .ge 8, 3) := by decide +kernel
theorem dL_same_204 : decode cL_same 204 = .ok (.iload 12, 2) := by decide +kernel
theorem dL_same_206 : decode cL_same 206 = .ok (.goto 8, 3) := by decide +kernel
theorem dL_same_209 : decode cL_same 209 = .ok (.iload 12, 2) := by decide +kernel
theorem dL_same_211 : decode cL_same 211 = .ok (.bipush 100, 2) := by decide +kernel
theorem dL_same_213 : decode cL_same 213 = .ok (.irem, 1) := by decide +kernel
theorem dL_same_214 : decode cL_same 214 = .ok (.if_icmp .ne 66, 3) := by decide +kernel
theorem dL_same_217 : decode cL_same 217 = .ok (.aload_n 0, 1) := by decide +kernel
theorem dL_same_218 : decode cL_same 218 = .ok (.iload 9, 2) := by decide +kernel
theorem dL_same_220 : decode cL_same 220 = .ok (.iconst 5, 1) := by decide +kernel
theorem dL_same_221 : decode cL_same 221 = .ok (.invokevirtual 60, 3) := by decide +kernel
theorem dL_same_224 : decode cL_same 224 = .ok (.iload 13, 2) := by decide +kernel
theorem dL_same_226 : decode cL_same 226 = .ok (.ifCond .ge 8, 3) := by decide +kernel
theorem dL_same_229 : decode cL_same 229 = .ok (.iload 13, 2) := by decide +kernel
theorem dL_same_231 : decode cL_same 231 = .ok (.goto 8, 3) := by decide +kernel
theorem dL_same_234 : decode cL_same 234 = .ok (.iload 13, 2) := by decide +kernel
theorem dL_same_236 : decode cL_same 236 = .ok (.bipush 100, 2) := by decide +kernel
theorem dL_same_238 : decode cL_same 238 = .ok (.idiv, 1) := by decide +kernel
theorem dL_same_239 : decode cL_same 239 = .ok (.if_icmp .ne 41, 3) := by decide +kernel
theorem dL_same_242 : decode cL_same 242 = .ok (.aload_n 0, 1) := by decide +kernel
theorem dL_same_243 : decode cL_same 243 = .ok (.iload 9, 2) := by decide +kernel
theorem dL_same_245 : decode cL_same 245 = .ok (.bipush 6, 2) := by decide +kernel
theorem dL_same_247 : decode cL_same 247 = .ok (.invokevirtual 60, 3) := by decide +kernel
theorem dL_same_250 : decode cL_same 250 = .ok (.iload 13, 2) := by decide +kernel
theorem dL_same_252 : decode cL_same 252 = .ok (.ifCond .ge 8, 3) := by decide +kernel
theorem dL_same_255 : decode cL_same 255 = .ok (.iload 13, 2) := by decide +kernel
theorem dL_same_257 : decode cL_same 257 = .ok (.goto 8, 3) := by decide +kernel
theorem dL_same_260 : decode cL_same 260 = .ok (.iload 13, 2) := by decide +kernel
theorem dL_same_262 : decode cL_same 262 = .ok (.bipush 100, 2) := by decide +kernel
theorem dL_same_264 : decode cL_same 264 = .ok (.irem, 1) := by decide +kernel
theorem dL_same_265 : decode cL_same 265 = .ok (.if_icmp .ne 15, 3) := by decide +kernel
theorem dL_same_268 : decode cL_same 268 = .ok (.aload_n 0, 1) := by decide +kernel
theorem dL_same_269 : decode cL_same 269 = .ok (.iload 9, 2) := by decide +kernel
theorem dL_same_271 : decode cL_same 271 = .ok (.iload 10, 2) := by decide +kernel
theorem dL_same_273 : decode cL_same 273 = .ok (.invokevirtual 52, 3) := by decide +kernel
theorem dL_same_276 : decode cL_same 276 = .ok (.iconst (-1), 1) := by decide +kernel
theorem dL_same_277 : decode cL_same 277 = .ok (.if_icmp .eq 5, 3) := by decide +kernel
theorem dL_same_280 : decode cL_same 280 = .ok (.iconst 0, 1) := by decide +kernel
theorem dL_same_281 : decode cL_same 281 = .ok (.ireturn, 1) := by decide +kernel
theorem dL_same_282 : decode cL_same 282 = .ok (.iload 6, 2) := by decide +kernel
theorem dL_same_284 : decode cL_same 284 = .ok (.iload 12, 2) := by decide +kernel
theorem dL_same_286 : decode cL_same 286 = .ok (.ifCond .ge 7, 3) := by decide +kernel
theorem dL_same_289 : decode cL_same 289 = .ok (.iconst 1, 1) := by decide +kernel
theorem dL_same_290 : decode cL_same 290 = .ok (.goto 4, 3) := by decide +kernel
theorem dL_same_293 : decode cL_same 293 = .ok (.iconst 0, 1) := by decide +kernel
theorem dL_same_294 : decode cL_same 294 = .ok (.iadd, 1) := by decide +kernel
theorem dL_same_295 : decode cL_same 295 = .ok (.istore 6, 2) := by decide +kernel
theorem dL_same_297 : decode cL_same 297 = .ok (.iload 12, 2) := by decide +kernel
theorem dL_same_299 : decode cL_same 299 = .ok (.ifCond .lt 24, 3) := by decide +kernel
theorem dL_same_302 : decode cL_same 302 = .ok (.iload 12, 2) := by decide +kernel
theorem dL_same_304 : decode cL_same 304 = .ok (.bipush 100, 2) := by decide +kernel
theorem dL_same_306 : decode cL_same 306 = .ok (.irem, 1) := by decide +kernel
theorem dL_same_307 : decode cL_same 307 = .ok (.iload 8, 2) := by decide +kernel
theorem dL_same_309 : decode cL_same 309 = .ok (.if_icmp .le 14, 3) := by decide +kernel
theorem dL_same_312 : decode cL_same 312 = .ok (.iload 12, 2) := by decide +kernel
theorem dL_same_314 : decode cL_same 314 = .ok (.bipush 100, 2) := by decide +kernel
theorem dL_same_316 : decode cL_same 316 = .ok (.irem, 1) := by decide +kernel
theorem dL_same_317 : decode cL_same 317 = .ok (.istore 8, 2) := by decide +kernel
theorem dL_same_319 : decode cL_same 319 = .ok (.iload 9, 2) := by decide +kernel
theorem dL_same_321 : decode cL_same 321 = .ok (.istore 7, 2) := by decide +kernel
theorem dL_same_323 : decode cL_same 323 = .ok (.bipush (-6), 2) := by decide +kernel
theorem dL_same_325 : decode cL_same 325 = .ok (.istore 14, 2) := by decide +kernel
theorem dL_same_327 : decode cL_same 327 = .ok (.aload 4, 2) := by decide +kernel
theorem dL_same_329 : decode cL_same 329 = .ok (.iconst 0, 1) := by decide +kernel
theorem dL_same_330 : decode cL_same 330 = .ok (.iaload, 1) := by decide +kernel
theorem dL_same_331 : decode cL_same 331 = .ok (.iconst 1, 1) := by decide +kernel
theorem dL_same_332 : decode cL_same 332 = .ok (.isub, 1) := by decide +kernel
theorem dL_same_333 : decode cL_same 333 = .ok (.istore 15, 2) := by decide +kernel
theorem dL_same_335 : decode cL_same 335 = .ok (.iload 15, 2) := by decide +kernel
theorem dL_same_337 : decode cL_same 337 = .ok (.ifCond .lt 54, 3) := by decide +kernel
theorem dL_same_340 : decode cL_same 340 = .ok (.iload 15, 2) := by decide +kernel
theorem dL_same_342 : decode cL_same 342 = .ok (.iload 9, 2) := by decide +kernel
theorem dL_same_344 : decode cL_same 344 = .ok (.if_icmp .eq 41, 3) := by decide +kernel
theorem dL_same_347 : decode cL_same 347 = .ok (.iload 14, 2) := by decide +kernel
theorem dL_same_349 : decode cL_same 349 = .ok (.ifCond .lt 32, 3) := by decide +kernel
theorem dL_same_352 : decode cL_same 352 = .ok (.aload 5, 2) := by decide +kernel
theorem dL_same_354 : decode cL_same 354 = .ok (.iload 9, 2) := by decide +kernel
theorem dL_same_356 : decode cL_same 356 = .ok (.laload, 1) := by decide +kernel
theorem dL_same_357 : decode cL_same 357 = .ok (.aload 5, 2) := by decide +kernel
theorem dL_same_359 : decode cL_same 359 = .ok (.iload 15, 2) := by decide +kernel
theorem dL_same_361 : decode cL_same 361 = .ok (.laload, 1) := by decide +kernel
theorem dL_same_362 : decode cL_same 362 = .ok (.invokestatic 63, 3) := by decide +kernel
theorem dL_same_365 : decode cL_same 365 = .ok (.aload 5, 2) := by decide +kernel
theorem dL_same_367 : decode cL_same 367 = .ok (.iload 9, 2) := by decide +kernel
theorem dL_same_369 : decode cL_same 369 = .ok (.laload, 1) := by decide +kernel
theorem dL_same_370 : decode cL_same 370 = .ok (.aload 5, 2) := by decide +kernel
theorem dL_same_372 : decode cL_same 372 = .ok (.iload 14, 2) := by decide +kernel
theorem dL_same_374 : decode cL_same 374 = .ok (.laload, 1) := by decide +kernel
theorem dL_same_375 : decode cL_same 375 = .ok (.invokestatic 63, 3) := by decide +kernel
theorem dL_same_378 : decode cL_same 378 = .ok (.if_icmp .lt 7, 3) := by decide +kernel
theorem dL_same_381 : decode cL_same 381 = .ok (.iload 15, 2) := by decide +kernel
theorem dL_same_383 : decode cL_same 383 = .ok (.istore 14, 2) := by decide +kernel
theorem dL_same_385 : decode cL_same 385 = .ok (.iinc 15 (-1), 3) := by decide +kernel
theorem dL_same_388 : decode cL_same 388 = .ok (.goto (-53), 3) := by decide +kernel
theorem dL_same_391 : decode cL_same 391 = .ok (.aload_n 0, 1) := by decide +kernel
theorem dL_same_392 : decode cL_same 392 = .ok (.iload 9, 2) := by decide +kernel
theorem dL_same_394 : decode cL_same 394 = .ok (.invokevirtual 67, 3) := by decide +kernel
theorem dL_same_397 : decode cL_same 397 = .ok (.iload 14, 2) := by decide +kernel
theorem dL_same_399 : decode cL_same 399 = .ok (.if_icmp .ne 39, 3) := by decide +kernel
theorem dL_same_402 : decode cL_same 402 = .ok (.aload_n 0, 1) := by decide +kernel
theorem dL_same_403 : decode cL_same 403 = .ok (.iload 9, 2) := by decide +kernel
theorem dL_same_405 : decode cL_same 405 = .ok (.iload_n 1, 1) := by decide +kernel
theorem dL_same_406 : decode cL_same 406 = .ok (.aload 4, 2) := by decide +kernel
theorem dL_same_408 : decode cL_same 408 = .ok (.iconst 0, 1) := by decide +kernel
theorem dL_same_409 : decode cL_same 409 = .ok (.iaload, 1) := by decide +kernel
theorem dL_same_410 : decode cL_same 410 = .ok (.invokestatic 70, 3) := by decide +kernel
theorem dL_same_413 : decode cL_same 413 = .ok (.invokevirtual 73, 3) := by decide +kernel
theorem dL_same_416 : decode cL_same 416 = .ok (.aload 5, 2) := by decide +kernel
theorem dL_same_418 : decode cL_same 418 = .ok (.iload 9, 2) := by decide +kernel
theorem dL_same_420 : decode cL_same 420 = .ok (.laload, 1) := by decide +kernel
theorem dL_same_421 : decode cL_same 421 = .ok (.aload 5, 2) := by decide +kernel
theorem dL_same_423 : decode cL_same 423 = .ok (.iload_n 1, 1) := by decide +kernel
theorem dL_same_424 : decode cL_same 424 = .ok (.aload 4, 2) := by decide +kernel
theorem dL_same_426 : decode cL_same 426 = .ok (.iconst 0, 1) := by decide +kernel
theorem dL_same_427 : decode cL_same 427 = .ok (.iaload, 1) := by decide +kernel
theorem dL_same_428 : decode cL_same 428 = .ok (.invokestatic 70, 3) := by decide +kernel
theorem dL_same_431 : decode cL_same 431 = .ok (.laload, 1) := by decide +kernel
theorem dL_same_432 : decode cL_same 432 = .ok (.invokestatic 63, 3) := by decide +kernel
theorem dL_same_435 : decode cL_same 435 = .ok (.if_icmp .eq 5, 3) := by decide +kernel
theorem dL_same_438 : decode cL_same 438 = .ok (.iconst 0, 1) := by decide +kernel
theorem dL_same_439 : decode cL_same 439 = .ok (.ireturn, 1) := by decide +kernel
theorem dL_same_440 : decode cL_same 440 = .ok (.iinc 9 1, 3) := by decide +kernel
theorem dL_same_443 : decode cL_same 443 = .ok (.goto (-430), 3) := by decide +kernel
theorem dL_same_446 : decode cL_same 446 = .ok (.iconst 0, 1) := by decide +kernel
theorem dL_same_447 : decode cL_same 447 = .ok (.istore 9, 2) := by decide +kernel
theorem dL_same_449 : decode cL_same 449 = .ok (.iconst 0, 1) := by decide +kernel
theorem dL_same_450 : decode cL_same 450 = .ok (.istore 10, 2) := by decide +kernel
theorem dL_same_452 : decode cL_same 452 = .ok (.iload 10, 2) := by decide +kernel
theorem dL_same_454 : decode cL_same 454 = .ok (.aload 4, 2) := by decide +kernel
theorem dL_same_456 : decode cL_same 456 = .ok (.iconst 0, 1) := by decide +kernel
theorem dL_same_457 : decode cL_same 457 = .ok (.iaload, 1) := by decide +kernel
theorem dL_same_458 : decode cL_same 458 = .ok (.if_icmp .ge 38, 3) := by decide +kernel
theorem dL_same_461 : decode cL_same 461 = .ok (.iload 9, 2) := by decide +kernel
theorem dL_same_463 : decode cL_same 463 = .ok (.aload 5, 2) := by decide +kernel
theorem dL_same_465 : decode cL_same 465 = .ok (.iload 10, 2) := by decide +kernel
theorem dL_same_467 : decode cL_same 467 = .ok (.laload, 1) := by decide +kernel
theorem dL_same_468 : decode cL_same 468 = .ok (.lload_n 2, 1) := by decide +kernel
theorem dL_same_469 : decode cL_same 469 = .ok (.invokestatic 48, 3) := by decide +kernel
theorem dL_same_472 : decode cL_same 472 = .ok (.aload 4, 2) := by decide +kernel
theorem dL_same_474 : decode cL_same 474 = .ok (.iconst 1, 1) := by decide +kernel
theorem dL_same_475 : decode cL_same 475 = .ok (.iaload, 1) := by decide +kernel
theorem dL_same_476 : decode cL_same 476 = .ok (.invokestatic 38, 3) := by decide +kernel
theorem dL_same_479 : decode cL_same 479 = .ok (.ifCond .ge 7, 3) := by decide +kernel
theorem dL_same_482 : decode cL_same 482 = .ok (.iconst 0, 1) := by decide +kernel
theorem dL_same_483 : decode cL_same 483 = .ok (.goto 4, 3) := by decide +kernel
theorem dL_same_486 : decode cL_same 486 = .ok (.iconst 1, 1) := by decide +kernel
theorem dL_same_487 : decode cL_same 487 = .ok (.iadd, 1) := by decide +kernel
theorem dL_same_488 : decode cL_same 488 = .ok (.istore 9, 2) := by decide +kernel
theorem dL_same_490 : decode cL_same 490 = .ok (.iinc 10 1, 3) := by decide +kernel
theorem dL_same_493 : decode cL_same 493 = .ok (.goto (-41), 3) := by decide +kernel
theorem dL_same_496 : decode cL_same 496 = .ok (.iconst 0, 1) := by decide +kernel
theorem dL_same_497 : decode cL_same 497 = .ok (.istore 10, 2) := by decide +kernel
theorem dL_same_499 : decode cL_same 499 = .ok (.iload 10, 2) := by decide +kernel
theorem dL_same_501 : decode cL_same 501 = .ok (.iload 9, 2) := by decide +kernel
theorem dL_same_503 : decode cL_same 503 = .ok (.if_icmp .ge 59, 3) := by decide +kernel
theorem dL_same_506 : decode cL_same 506 = .ok (.iload 10, 2) := by decide +kernel
theorem dL_same_508 : decode cL_same 508 = .ok (.lload_n 2, 1) := by decide +kernel
theorem dL_same_509 : decode cL_same 509 = .ok (.aload 4, 2) := by decide +kernel
theorem dL_same_511 : decode cL_same 511 = .ok (.aload 5, 2) := by decide +kernel
theorem dL_same_513 : decode cL_same 513 = .ok (.invokestatic 75, 3) := by decide +kernel
theorem dL_same_516 : decode cL_same 516 = .ok (.istore 11, 2) := by decide +kernel
theorem dL_same_518 : decode cL_same 518 = .ok (.aload_n 0, 1) := by decide +kernel
theorem dL_same_519 : decode cL_same 519 = .ok (.iload 10, 2) := by decide +kernel
theorem dL_same_521 : decode cL_same 521 = .ok (.invokevirtual 79, 3) := by decide +kernel
theorem dL_same_524 : decode cL_same 524 = .ok (.iload 11, 2) := by decide +kernel
theorem dL_same_526 : decode cL_same 526 = .ok (.if_icmp .ne 28, 3) := by decide +kernel
theorem dL_same_529 : decode cL_same 529 = .ok (.aload_n 0, 1) := by decide +kernel
theorem dL_same_530 : decode cL_same 530 = .ok (.iload 10, 2) := by decide +kernel
theorem dL_same_532 : decode cL_same 532 = .ok (.invokevirtual 82, 3) := by decide +kernel
theorem dL_same_535 : decode cL_same 535 = .ok (.aload 5, 2) := by decide +kernel
theorem dL_same_537 : decode cL_same 537 = .ok (.iload 11, 2) := by decide +kernel
theorem dL_same_539 : decode cL_same 539 = .ok (.laload, 1) := by decide +kernel
theorem dL_same_540 : decode cL_same 540 = .ok (.lload_n 2, 1) := by decide +kernel
theorem dL_same_541 : decode cL_same 541 = .ok (.invokestatic 48, 3) := by decide +kernel
theorem dL_same_544 : decode cL_same 544 = .ok (.aload 4, 2) := by decide +kernel
theorem dL_same_546 : decode cL_same 546 = .ok (.iconst 1, 1) := by decide +kernel
theorem dL_same_547 : decode cL_same 547 = .ok (.iaload, 1) := by decide +kernel
theorem dL_same_548 : decode cL_same 548 = .ok (.invokestatic 38, 3) := by decide +kernel
theorem dL_same_551 : decode cL_same 551 = .ok (.if_icmp .eq 5, 3) := by decide +kernel
theorem dL_same_554 : decode cL_same 554 = .ok (.iconst 0, 1) := by decide +kernel
theorem dL_same_555 : decode cL_same 555 = .ok (.ireturn, 1) := by decide +kernel
theorem dL_same_556 : decode cL_same 556 = .ok (.iinc 10 1, 3) := by decide +kernel
theorem dL_same_559 : decode cL_same 559 = .ok (.goto (-60), 3) := by decide +kernel
theorem dL_same_562 : decode cL_same 562 = .ok (.iconst 0, 1) := by decide +kernel
theorem dL_same_563 : decode cL_same 563 = .ok (.istore 10, 2) := by decide +kernel
theorem dL_same_565 : decode cL_same 565 = .ok (.iload 10, 2) := by decide +kernel
theorem dL_same_567 : decode cL_same 567 = .ok (.lload_n 2, 1) := by decide +kernel
theorem dL_same_568 : decode cL_same 568 = .ok (.invokestatic 18, 3) := by decide +kernel
theorem dL_same_571 : decode cL_same 571 = .ok (.if_icmp .ge 29, 3) := by decide +kernel
theorem dL_same_574 : decode cL_same 574 = .ok (.aload_n 0, 1) := by decide +kernel
theorem dL_same_575 : decode cL_same 575 = .ok (.iload 10, 2) := by decide +kernel
theorem dL_same_577 : decode cL_same 577 = .ok (.invokevirtual 85, 3) := by decide +kernel
theorem dL_same_580 : decode cL_same 580 = .ok (.lload_n 2, 1) := by decide +kernel
theorem dL_same_581 : decode cL_same 581 = .ok (.iload 10, 2) := by decide +kernel
theorem dL_same_583 : decode cL_same 583 = .ok (.invokestatic 12, 3) := by decide +kernel
theorem dL_same_586 : decode cL_same 586 = .ok (.invokestatic 30, 3) := by decide +kernel
theorem dL_same_589 : decode cL_same 589 = .ok (.if_icmp .eq 5, 3) := by decide +kernel
theorem dL_same_592 : decode cL_same 592 = .ok (.iconst 0, 1) := by decide +kernel
theorem dL_same_593 : decode cL_same 593 = .ok (.ireturn, 1) := by decide +kernel
theorem dL_same_594 : decode cL_same 594 = .ok (.iinc 10 1, 3) := by decide +kernel
theorem dL_same_597 : decode cL_same 597 = .ok (.goto (-32), 3) := by decide +kernel
theorem dL_same_600 : decode cL_same 600 = .ok (.aload_n 0, 1) := by decide +kernel
theorem dL_same_601 : decode cL_same 601 = .ok (.invokevirtual 88, 3) := by decide +kernel
theorem dL_same_604 : decode cL_same 604 = .ok (.aload 4, 2) := by decide +kernel
theorem dL_same_606 : decode cL_same 606 = .ok (.iconst 0, 1) := by decide +kernel
theorem dL_same_607 : decode cL_same 607 = .ok (.iaload, 1) := by decide +kernel
theorem dL_same_608 : decode cL_same 608 = .ok (.if_icmp .ne 90, 3) := by decide +kernel
theorem dL_same_611 : decode cL_same 611 = .ok (.aload_n 0, 1) := by decide +kernel
theorem dL_same_612 : decode cL_same 612 = .ok (.invokevirtual 92, 3) := by decide +kernel
theorem dL_same_615 : decode cL_same 615 = .ok (.aload 4, 2) := by decide +kernel
theorem dL_same_617 : decode cL_same 617 = .ok (.iconst 1, 1) := by decide +kernel
theorem dL_same_618 : decode cL_same 618 = .ok (.iaload, 1) := by decide +kernel
theorem dL_same_619 : decode cL_same 619 = .ok (.if_icmp .ne 79, 3) := by decide +kernel
theorem dL_same_622 : decode cL_same 622 = .ok (.aload_n 0, 1) := by decide +kernel
theorem dL_same_623 : decode cL_same 623 = .ok (.invokevirtual 95, 3) := by decide +kernel
theorem dL_same_626 : decode cL_same 626 = .ok (.aload 4, 2) := by decide +kernel
theorem dL_same_628 : decode cL_same 628 = .ok (.iconst 2, 1) := by decide +kernel
theorem dL_same_629 : decode cL_same 629 = .ok (.iaload, 1) := by decide +kernel
theorem dL_same_630 : decode cL_same 630 = .ok (.if_icmp .ne 68, 3) := by decide +kernel
theorem dL_same_633 : decode cL_same 633 = .ok (.aload_n 0, 1) := by decide +kernel
theorem dL_same_634 : decode cL_same 634 = .ok (.invokevirtual 98, 3) := by decide +kernel
theorem dL_same_637 : decode cL_same 637 = .ok (.iload 6, 2) := by decide +kernel
theorem dL_same_639 : decode cL_same 639 = .ok (.if_icmp .ne 59, 3) := by decide +kernel
theorem dL_same_642 : decode cL_same 642 = .ok (.aload_n 0, 1) := by decide +kernel
theorem dL_same_643 : decode cL_same 643 = .ok (.invokevirtual 101, 3) := by decide +kernel
theorem dL_same_646 : decode cL_same 646 = .ok (.iload 7, 2) := by decide +kernel
theorem dL_same_648 : decode cL_same 648 = .ok (.if_icmp .ne 50, 3) := by decide +kernel
theorem dL_same_651 : decode cL_same 651 = .ok (.aload_n 0, 1) := by decide +kernel
theorem dL_same_652 : decode cL_same 652 = .ok (.invokevirtual 104, 3) := by decide +kernel
theorem dL_same_655 : decode cL_same 655 = .ok (.iload 9, 2) := by decide +kernel
theorem dL_same_657 : decode cL_same 657 = .ok (.if_icmp .ne 41, 3) := by decide +kernel
theorem dL_same_660 : decode cL_same 660 = .ok (.aload_n 0, 1) := by decide +kernel
theorem dL_same_661 : decode cL_same 661 = .ok (.iload 9, 2) := by decide +kernel
theorem dL_same_663 : decode cL_same 663 = .ok (.invokevirtual 79, 3) := by decide +kernel
theorem dL_same_666 : decode cL_same 666 = .ok (.iconst (-1), 1) := by decide +kernel
theorem dL_same_667 : decode cL_same 667 = .ok (.if_icmp .ne 31, 3) := by decide +kernel
theorem dL_same_670 : decode cL_same 670 = .ok (.aload_n 0, 1) := by decide +kernel
theorem dL_same_671 : decode cL_same 671 = .ok (.invokevirtual 107, 3) := by decide +kernel
theorem dL_same_674 : decode cL_same 674 = .ok (.lload_n 2, 1) := by decide +kernel
theorem dL_same_675 : decode cL_same 675 = .ok (.invokestatic 18, 3) := by decide +kernel
theorem dL_same_678 : decode cL_same 678 = .ok (.if_icmp .ne 20, 3) := by decide +kernel
theorem dL_same_681 : decode cL_same 681 = .ok (.aload_n 0, 1) := by decide +kernel
theorem dL_same_682 : decode cL_same 682 = .ok (.aload 4, 2) := by decide +kernel
theorem dL_same_684 : decode cL_same 684 = .ok (.iconst 0, 1) := by decide +kernel
theorem dL_same_685 : decode cL_same 685 = .ok (.iaload, 1) := by decide +kernel
theorem dL_same_686 : decode cL_same 686 = .ok (.iconst 0, 1) := by decide +kernel
theorem dL_same_687 : decode cL_same 687 = .ok (.invokevirtual 60, 3) := by decide +kernel
theorem dL_same_690 : decode cL_same 690 = .ok (.iconst (-1), 1) := by decide +kernel
theorem dL_same_691 : decode cL_same 691 = .ok (.if_icmp .ne 7, 3) := by decide +kernel
theorem dL_same_694 : decode cL_same 694 = .ok (.iconst 1, 1) := by decide +kernel
theorem dL_same_695 : decode cL_same 695 = .ok (.goto 4, 3) := by decide +kernel
theorem dL_same_698 : decode cL_same 698 = .ok (.iconst 0, 1) := by decide +kernel
theorem dL_same_699 : decode cL_same 699 = .ok (.ireturn, 1) := by decide +kernel
theorem dL_made_0 : decode cL_made 0 = .ok (.lconst 0, 1) := by decide +kernel
theorem dL_made_1 : decode cL_made 1 = .ok (.lstore_n 2, 1) := by decide +kernel
theorem dL_made_2 : decode cL_made 2 = .ok (.iconst 1, 1) := by decide +kernel
theorem dL_made_3 : decode cL_made 3 = .ok (.iload_n 0, 1) := by decide +kernel
theorem dL_made_4 : decode cL_made 4 = .ok (.bipush 9, 2) := by decide +kernel
theorem dL_made_6 : decode cL_made 6 = .ok (.invokestatic 70, 3) := by decide +kernel
theorem dL_made_9 : decode cL_made 9 = .ok (.iadd, 1) := by decide +kernel
theorem dL_made_10 : decode cL_made 10 = .ok (.istore 4, 2) := by decide +kernel
theorem dL_made_12 : decode cL_made 12 = .ok (.iconst 1, 1) := by decide +kernel
theorem dL_made_13 : decode cL_made 13 = .ok (.istore 5, 2) := by decide +kernel
theorem dL_made_15 : decode cL_made 15 = .ok (.iconst 0, 1) := by decide +kernel
theorem dL_made_16 : decode cL_made 16 = .ok (.istore 6, 2) := by decide +kernel
theorem dL_made_18 : decode cL_made 18 = .ok (.iload 6, 2) := by decide +kernel
theorem dL_made_20 : decode cL_made 20 = .ok (.iload 4, 2) := by decide +kernel
theorem dL_made_22 : decode cL_made 22 = .ok (.if_icmp .ge 99, 3) := by decide +kernel
theorem dL_made_25 : decode cL_made 25 = .ok (.iload_n 1, 1) := by decide +kernel
theorem dL_made_26 : decode cL_made 26 = .ok (.iconst 2, 1) := by decide +kernel
theorem dL_made_27 : decode cL_made 27 = .ok (.iload 6, 2) := by decide +kernel
theorem dL_made_29 : decode cL_made 29 = .ok (.imul, 1) := by decide +kernel
theorem dL_made_30 : decode cL_made 30 = .ok (.ishr, 1) := by decide +kernel
theorem dL_made_31 : decode cL_made 31 = .ok (.istore 7, 2) := by decide +kernel
theorem dL_made_33 : decode cL_made 33 = .ok (.iload 5, 2) := by decide +kernel
theorem dL_made_35 : decode cL_made 35 = .ok (.ifCond .ne 26, 3) := by decide +kernel
theorem dL_made_38 : decode cL_made 38 = .ok (.iload 6, 2) := by decide +kernel
theorem dL_made_40 : decode cL_made 40 = .ok (.iload 4, 2) := by decide +kernel
theorem dL_made_42 : decode cL_made 42 = .ok (.iconst 1, 1) := by decide +kernel
theorem dL_made_43 : decode cL_made 43 = .ok (.isub, 1) := by decide +kernel
theorem dL_made_44 : decode cL_made 44 = .ok (.if_icmp .ge 17, 3) := by decide +kernel
theorem dL_made_47 : decode cL_made 47 = .ok (.iload 7, 2) := by decide +kernel
theorem dL_made_49 : decode cL_made 49 = .ok (.iconst 4, 1) := by decide +kernel
theorem dL_made_50 : decode cL_made 50 = .ok (.invokestatic 70, 3) := by decide +kernel
theorem dL_made_53 : decode cL_made 53 = .ok (.ifCond .ne 8, 3) := by decide +kernel
theorem dL_made_56 : decode cL_made 56 = .ok (.bipush 27, 2) := by decide +kernel
theorem dL_made_58 : decode cL_made 58 = .ok (.goto 30, 3) := by decide +kernel
theorem dL_made_61 : decode cL_made 61 = .ok (.iload_n 0, 1) := by decide +kernel
theorem dL_made_62 : decode cL_made 62 = .ok (.iload 6, 2) := by decide +kernel
theorem dL_made_64 : decode cL_made 64 = .ok (.ishr, 1) := by decide +kernel
theorem dL_made_65 : decode cL_made 65 = .ok (.bipush 9, 2) := by decide +kernel
theorem dL_made_67 : decode cL_made 67 = .ok (.invokestatic 70, 3) := by decide +kernel
theorem dL_made_70 : decode cL_made 70 = .ok (.ifCond .ne 8, 3) := by decide +kernel
theorem dL_made_73 : decode cL_made 73 = .ok (.bipush 28, 2) := by decide +kernel
theorem dL_made_75 : decode cL_made 75 = .ok (.goto 13, 3) := by decide +kernel
theorem dL_made_78 : decode cL_made 78 = .ok (.iconst 1, 1) := by decide +kernel
theorem dL_made_79 : decode cL_made 79 = .ok (.iload 7, 2) := by decide +kernel
theorem dL_made_81 : decode cL_made 81 = .ok (.iconst 1, 1) := by decide +kernel
theorem dL_made_82 : decode cL_made 82 = .ok (.ishr, 1) := by decide +kernel
theorem dL_made_83 : decode cL_made 83 = .ok (.iconst 2, 1) := by decide +kernel
theorem dL_made_84 : decode cL_made 84 = .ok (.invokestatic 70, 3) := by decide +kernel
theorem dL_made_87 : decode cL_made 87 = .ok (.iadd, 1) := by decide +kernel
theorem dL_made_88 : decode cL_made 88 = .ok (.istore 8, 2) := by decide +kernel
theorem dL_made_90 : decode cL_made 90 = .ok (.iload 8, 2) := by decide +kernel
theorem dL_made_92 : decode cL_made 92 = .ok (.bipush 27, 2) := by decide +kernel
theorem dL_made_94 : decode cL_made 94 = .ok (.if_icmp .ne 7, 3) := by decide +kernel
theorem dL_made_97 : decode cL_made 97 = .ok (.iconst 1, 1) := by decide +kernel
theorem dL_made_98 : decode cL_made 98 = .ok (.goto 4, 3) := by decide +kernel
theorem dL_made_101 : decode cL_made 101 = .ok (.iconst 0, 1) := by decide +kernel
theorem dL_made_102 : decode cL_made 102 = .ok (.istore 5, 2) := by decide +kernel
theorem dL_made_104 : decode cL_made 104 = .ok (.lload_n 2, 1) := by decide +kernel
theorem dL_made_105 : decode cL_made 105 = .ok (.iload 8, 2) := by decide +kernel
theorem dL_made_107 : decode cL_made 107 = .ok (.i2l, 1) := by decide +kernel
theorem dL_made_108 : decode cL_made 108 = .ok (.iconst 5, 1) := by decide +kernel
theorem dL_made_109 : decode cL_made 109 = .ok (.iload 6, 2) := by decide +kernel
theorem dL_made_111 : decode cL_made 111 = .ok (.imul, 1) := by decide +kernel
theorem dL_made_112 : decode cL_made 112 = .ok (.lshl, 1) := by decide +kernel
theorem dL_made_113 : decode cL_made 113 = .ok (.lor, 1) := by decide +kernel
theorem dL_made_114 : decode cL_made 114 = .ok (.lstore_n 2, 1) := by decide +kernel
theorem dL_made_115 : decode cL_made 115 = .ok (.iinc 6 1, 3) := by decide +kernel
theorem dL_made_118 : decode cL_made 118 = .ok (.goto (-100), 3) := by decide +kernel
theorem dL_made_121 : decode cL_made 121 = .ok (.lload_n 2, 1) := by decide +kernel
theorem dL_made_122 : decode cL_made 122 = .ok (.lreturn, 1) := by decide +kernel
theorem dL_law_0 : decode cL_law 0 = .ok (.new 46, 3) := by decide +kernel
theorem dL_law_3 : decode cL_law 3 = .ok (.dup, 1) := by decide +kernel
theorem dL_law_4 : decode cL_law 4 = .ok (.invokespecial 110, 3) := by decide +kernel
theorem dL_law_7 : decode cL_law 7 = .ok (.astore_n 1, 1) := by decide +kernel
theorem dL_law_8 : decode cL_law 8 = .ok (.bipush 9, 2) := by decide +kernel
theorem dL_law_10 : decode cL_law 10 = .ok (.newarray .int, 2) := by decide +kernel
theorem dL_law_12 : decode cL_law 12 = .ok (.astore_n 2, 1) := by decide +kernel
theorem dL_law_13 : decode cL_law 13 = .ok (.bipush 7, 2) := by decide +kernel
theorem dL_law_15 : decode cL_law 15 = .ok (.newarray .long, 2) := by decide +kernel
theorem dL_law_17 : decode cL_law 17 = .ok (.astore_n 3, 1) := by decide +kernel
theorem dL_law_18 : decode cL_law 18 = .ok (.lconst 0, 1) := by decide +kernel
theorem dL_law_19 : decode cL_law 19 = .ok (.lstore 4, 2) := by decide +kernel
theorem dL_law_21 : decode cL_law 21 = .ok (.iconst 0, 1) := by decide +kernel
theorem dL_law_22 : decode cL_law 22 = .ok (.istore 6, 2) := by decide +kernel
theorem dL_law_24 : decode cL_law 24 = .ok (.iload 6, 2) := by decide +kernel
theorem dL_law_26 : decode cL_law 26 = .ok (.bipush 26, 2) := by decide +kernel
theorem dL_law_28 : decode cL_law 28 = .ok (.if_icmp .ge 902, 3) := by decide +kernel
theorem dL_law_31 : decode cL_law 31 = .ok (.aload_n 0, 1) := by decide +kernel
theorem dL_law_32 : decode cL_law 32 = .ok (.iconst 2, 1) := by decide +kernel
theorem dL_law_33 : decode cL_law 33 = .ok (.iload 6, 2) := by decide +kernel
theorem dL_law_35 : decode cL_law 35 = .ok (.imul, 1) := by decide +kernel
theorem dL_law_36 : decode cL_law 36 = .ok (.invokestatic 111, 3) := by decide +kernel
theorem dL_law_39 : decode cL_law 39 = .ok (.istore 7, 2) := by decide +kernel
theorem dL_law_41 : decode cL_law 41 = .ok (.aload_n 0, 1) := by decide +kernel
theorem dL_law_42 : decode cL_law 42 = .ok (.iconst 2, 1) := by decide +kernel
theorem dL_law_43 : decode cL_law 43 = .ok (.iload 6, 2) := by decide +kernel
theorem dL_law_45 : decode cL_law 45 = .ok (.imul, 1) := by decide +kernel
theorem dL_law_46 : decode cL_law 46 = .ok (.iconst 1, 1) := by decide +kernel
theorem dL_law_47 : decode cL_law 47 = .ok (.iadd, 1) := by decide +kernel
theorem dL_law_48 : decode cL_law 48 = .ok (.invokestatic 111, 3) := by decide +kernel
theorem dL_law_51 : decode cL_law 51 = .ok (.istore 8, 2) := by decide +kernel
theorem dL_law_53 : decode cL_law 53 = .ok (.iload 6, 2) := by decide +kernel
theorem dL_law_55 : decode cL_law 55 = .ok (.iconst 4, 1) := by decide +kernel
theorem dL_law_56 : decode cL_law 56 = .ok (.if_icmp .ge 7, 3) := by decide +kernel
theorem dL_law_59 : decode cL_law 59 = .ok (.iconst 0, 1) := by decide +kernel
theorem dL_law_60 : decode cL_law 60 = .ok (.goto 10, 3) := by decide +kernel
theorem dL_law_63 : decode cL_law 63 = .ok (.iload 7, 2) := by decide +kernel
theorem dL_law_65 : decode cL_law 65 = .ok (.bipush 12, 2) := by decide +kernel
theorem dL_law_67 : decode cL_law 67 = .ok (.invokestatic 70, 3) := by decide +kernel
theorem dL_law_70 : decode cL_law 70 = .ok (.istore 9, 2) := by decide +kernel
theorem dL_law_72 : decode cL_law 72 = .ok (.lload 4, 2) := by decide +kernel
theorem dL_law_74 : decode cL_law 74 = .ok (.invokestatic 18, 3) := by decide +kernel
theorem dL_law_77 : decode cL_law 77 = .ok (.istore 10, 2) := by decide +kernel
theorem dL_law_79 : decode cL_law 79 = .ok (.iload 9, 2) := by decide +kernel
theorem dL_law_81 : decode cL_law 81 = .ok (.iconst 3, 1) := by decide +kernel
theorem dL_law_82 : decode cL_law 82 = .ok (.if_icmp .ge 272, 3) := by decide +kernel
theorem dL_law_85 : decode cL_law 85 = .ok (.aload_n 2, 1) := by decide +kernel
theorem dL_law_86 : decode cL_law 86 = .ok (.iconst 0, 1) := by decide +kernel
theorem dL_law_87 : decode cL_law 87 = .ok (.iaload, 1) := by decide +kernel
theorem dL_law_88 : decode cL_law 88 = .ok (.bipush 6, 2) := by decide +kernel
theorem dL_law_90 : decode cL_law 90 = .ok (.if_icmp .ne 6, 3) := by decide +kernel
theorem dL_law_93 : decode cL_law 93 = .ok (.goto 831, 3) := by decide +kernel
theorem dL_law_96 : decode cL_law 96 = .ok (.iload 7, 2) := by decide +kernel
theorem dL_law_98 : decode cL_law 98 = .ok (.iconst 3, 1) := by decide +kernel
theorem dL_law_99 : decode cL_law 99 = .ok (.ishr, 1) := by decide +kernel
theorem dL_law_100 : decode cL_law 100 = .ok (.iload 8, 2) := by decide +kernel
theorem dL_law_102 : decode cL_law 102 = .ok (.invokestatic 115, 3) := by decide +kernel
theorem dL_law_105 : decode cL_law 105 = .ok (.lstore 11, 2) := by decide +kernel
theorem dL_law_107 : decode cL_law 107 = .ok (.iconst 0, 1) := by decide +kernel
theorem dL_law_108 : decode cL_law 108 = .ok (.istore 13, 2) := by decide +kernel
theorem dL_law_110 : decode cL_law 110 = .ok (.iconst 0, 1) := by decide +kernel
theorem dL_law_111 : decode cL_law 111 = .ok (.istore 14, 2) := by decide +kernel
theorem dL_law_113 : decode cL_law 113 = .ok (.iload 14, 2) := by decide +kernel
theorem dL_law_115 : decode cL_law 115 = .ok (.aload_n 2, 1) := by decide +kernel
theorem dL_law_116 : decode cL_law 116 = .ok (.iconst 0, 1) := by decide +kernel
theorem dL_law_117 : decode cL_law 117 = .ok (.iaload, 1) := by decide +kernel
theorem dL_law_118 : decode cL_law 118 = .ok (.if_icmp .ge 31, 3) := by decide +kernel
theorem dL_law_121 : decode cL_law 121 = .ok (.iload 13, 2) := by decide +kernel
theorem dL_law_123 : decode cL_law 123 = .ok (.ifCond .ne 13, 3) := by decide +kernel
theorem dL_law_126 : decode cL_law 126 = .ok (.aload_n 3, 1) := by decide +kernel
theorem dL_law_127 : decode cL_law 127 = .ok (.iload 14, 2) := by decide +kernel
theorem dL_law_129 : decode cL_law 129 = .ok (.laload, 1) := by decide +kernel
theorem dL_law_130 : decode cL_law 130 = .ok (.lload 11, 2) := by decide +kernel
theorem dL_law_132 : decode cL_law 132 = .ok (.lcmp, 1) := by decide +kernel
theorem dL_law_133 : decode cL_law 133 = .ok (.ifCond .ne 7, 3) := by decide +kernel
theorem dL_law_136 : decode cL_law 136 = .ok (.iconst 1, 1) := by decide +kernel
theorem dL_law_137 : decode cL_law 137 = .ok (.goto 4, 3) := by decide +kernel
theorem dL_law_140 : decode cL_law 140 = .ok (.iconst 0, 1) := by decide +kernel
theorem dL_law_141 : decode cL_law 141 = .ok (.istore 13, 2) := by decide +kernel
theorem dL_law_143 : decode cL_law 143 = .ok (.iinc 14 1, 3) := by decide +kernel
theorem dL_law_146 : decode cL_law 146 = .ok (.goto (-33), 3) := by decide +kernel
theorem dL_law_149 : decode cL_law 149 = .ok (.iconst 0, 1) := by decide +kernel
theorem dL_law_150 : decode cL_law 150 = .ok (.istore 14, 2) := by decide +kernel
theorem dL_law_152 : decode cL_law 152 = .ok (.iload 14, 2) := by decide +kernel
theorem dL_law_154 : decode cL_law 154 = .ok (.lload 11, 2) := by decide +kernel
theorem dL_law_156 : decode cL_law 156 = .ok (.invokestatic 18, 3) := by decide +kernel
theorem dL_law_159 : decode cL_law 159 = .ok (.if_icmp .ge 32, 3) := by decide +kernel
theorem dL_law_162 : decode cL_law 162 = .ok (.aload_n 1, 1) := by decide +kernel
theorem dL_law_163 : decode cL_law 163 = .ok (.lload 11, 2) := by decide +kernel
theorem dL_law_165 : decode cL_law 165 = .ok (.iload 14, 2) := by decide +kernel
theorem dL_law_167 : decode cL_law 167 = .ok (.invokestatic 12, 3) := by decide +kernel
theorem dL_law_170 : decode cL_law 170 = .ok (.invokestatic 30, 3) := by decide +kernel
theorem dL_law_173 : decode cL_law 173 = .ok (.invokevirtual 119, 3) := by decide +kernel
theorem dL_law_176 : decode cL_law 176 = .ok (.iload 14, 2) := by decide +kernel
theorem dL_law_178 : decode cL_law 178 = .ok (.iconst 1, 1) := by decide +kernel
theorem dL_law_179 : decode cL_law 179 = .ok (.iadd, 1) := by decide +kernel
theorem dL_law_180 : decode cL_law 180 = .ok (.if_icmp .eq 5, 3) := by decide +kernel
theorem dL_law_183 : decode cL_law 183 = .ok (.iconst 0, 1) := by decide +kernel
theorem dL_law_184 : decode cL_law 184 = .ok (.ireturn, 1) := by decide +kernel
theorem dL_law_185 : decode cL_law 185 = .ok (.iinc 14 1, 3) := by decide +kernel
theorem dL_law_188 : decode cL_law 188 = .ok (.goto (-36), 3) := by decide +kernel
theorem dL_law_191 : decode cL_law 191 = .ok (.iconst 0, 1) := by decide +kernel
theorem dL_law_192 : decode cL_law 192 = .ok (.istore 14, 2) := by decide +kernel
theorem dL_law_194 : decode cL_law 194 = .ok (.aload_n 3, 1) := by decide +kernel
theorem dL_law_195 : decode cL_law 195 = .ok (.aload_n 2, 1) := by decide +kernel
theorem dL_law_196 : decode cL_law 196 = .ok (.iconst 0, 1) := by decide +kernel
theorem dL_law_197 : decode cL_law 197 = .ok (.iaload, 1) := by decide +kernel
theorem dL_law_198 : decode cL_law 198 = .ok (.lload 11, 2) := by decide +kernel
theorem dL_law_200 : decode cL_law 200 = .ok (.lastore, 1) := by decide +kernel
theorem dL_law_201 : decode cL_law 201 = .ok (.aload_n 2, 1) := by decide +kernel
theorem dL_law_202 : decode cL_law 202 = .ok (.iconst 3, 1) := by decide +kernel
theorem dL_law_203 : decode cL_law 203 = .ok (.aload_n 2, 1) := by decide +kernel
theorem dL_law_204 : decode cL_law 204 = .ok (.iconst 0, 1) := by decide +kernel
theorem dL_law_205 : decode cL_law 205 = .ok (.iaload, 1) := by decide +kernel
theorem dL_law_206 : decode cL_law 206 = .ok (.iadd, 1) := by decide +kernel
theorem dL_law_207 : decode cL_law 207 = .ok (.iconst 0, 1) := by decide +kernel
theorem dL_law_208 : decode cL_law 208 = .ok (.iastore, 1) := by decide +kernel
theorem dL_law_209 : decode cL_law 209 = .ok (.iconst 0, 1) := by decide +kernel
theorem dL_law_210 : decode cL_law 210 = .ok (.istore 15, 2) := by decide +kernel
theorem dL_law_212 : decode cL_law 212 = .ok (.iload 15, 2) := by decide +kernel
theorem dL_law_214 : decode cL_law 214 = .ok (.aload_n 2, 1) := by decide +kernel
theorem dL_law_215 : decode cL_law 215 = .ok (.iconst 0, 1) := by decide +kernel
theorem dL_law_216 : decode cL_law 216 = .ok (.iaload, 1) := by decide +kernel
theorem dL_law_217 : decode cL_law 217 = .ok (.if_icmp .ge 56, 3) := by decide +kernel
theorem dL_law_220 : decode cL_law 220 = .ok (.iload 15, 2) := by decide +kernel
theorem dL_law_222 : decode cL_law 222 = .ok (.iconst 1, 1) := by decide +kernel
theorem dL_law_223 : decode cL_law 223 = .ok (.aload_n 2, 1) := by decide +kernel
theorem dL_law_224 : decode cL_law 224 = .ok (.aload_n 3, 1) := by decide +kernel
theorem dL_law_225 : decode cL_law 225 = .ok (.invokestatic 56, 3) := by decide +kernel
theorem dL_law_228 : decode cL_law 228 = .ok (.istore 16, 2) := by decide +kernel
theorem dL_law_230 : decode cL_law 230 = .ok (.aload_n 2, 1) := by decide +kernel
theorem dL_law_231 : decode cL_law 231 = .ok (.iconst 0, 1) := by decide +kernel
theorem dL_law_232 : decode cL_law 232 = .ok (.dup2, 1) := by decide +kernel
theorem dL_law_233 : decode cL_law 233 = .ok (.iaload, 1) := by decide +kernel
theorem dL_law_234 : decode cL_law 234 = .ok (.iconst 1, 1) := by decide +kernel
theorem dL_law_235 : decode cL_law 235 = .ok (.iadd, 1) := by decide +kernel
theorem dL_law_236 : decode cL_law 236 = .ok (.iastore, 1) := by decide +kernel
theorem dL_law_237 : decode cL_law 237 = .ok (.iload 14, 2) := by decide +kernel
theorem dL_law_239 : decode cL_law 239 = .ok (.iload 15, 2) := by decide +kernel
theorem dL_law_241 : decode cL_law 241 = .ok (.iconst 1, 1) := by decide +kernel
theorem dL_law_242 : decode cL_law 242 = .ok (.aload_n 2, 1) := by decide +kernel
theorem dL_law_243 : decode cL_law 243 = .ok (.aload_n 3, 1) := by decide +kernel
theorem dL_law_244 : decode cL_law 244 = .ok (.invokestatic 56, 3) := by decide +kernel
theorem dL_law_247 : decode cL_law 247 = .ok (.iload 16, 2) := by decide +kernel
theorem dL_law_249 : decode cL_law 249 = .ok (.if_icmp .ne 7, 3) := by decide +kernel
theorem dL_law_252 : decode cL_law 252 = .ok (.iconst 0, 1) := by decide +kernel
theorem dL_law_253 : decode cL_law 253 = .ok (.goto 4, 3) := by decide +kernel
theorem dL_law_256 : decode cL_law 256 = .ok (.iconst 1, 1) := by decide +kernel
theorem dL_law_257 : decode cL_law 257 = .ok (.iadd, 1) := by decide +kernel
theorem dL_law_258 : decode cL_law 258 = .ok (.istore 14, 2) := by decide +kernel
theorem dL_law_260 : decode cL_law 260 = .ok (.aload_n 2, 1) := by decide +kernel
theorem dL_law_261 : decode cL_law 261 = .ok (.iconst 0, 1) := by decide +kernel
theorem dL_law_262 : decode cL_law 262 = .ok (.dup2, 1) := by decide +kernel
theorem dL_law_263 : decode cL_law 263 = .ok (.iaload, 1) := by decide +kernel
theorem dL_law_264 : decode cL_law 264 = .ok (.iconst 1, 1) := by decide +kernel
theorem dL_law_265 : decode cL_law 265 = .ok (.isub, 1) := by decide +kernel
theorem dL_law_266 : decode cL_law 266 = .ok (.iastore, 1) := by decide +kernel
theorem dL_law_267 : decode cL_law 267 = .ok (.iinc 15 1, 3) := by decide +kernel
theorem dL_law_270 : decode cL_law 270 = .ok (.goto (-58), 3) := by decide +kernel
theorem dL_law_273 : decode cL_law 273 = .ok (.aload_n 1, 1) := by decide +kernel
theorem dL_law_274 : decode cL_law 274 = .ok (.invokevirtual 122, 3) := by decide +kernel
theorem dL_law_277 : decode cL_law 277 = .ok (.iload 13, 2) := by decide +kernel
theorem dL_law_279 : decode cL_law 279 = .ok (.ifCond .eq 8, 3) := by decide +kernel
theorem dL_law_282 : decode cL_law 282 = .ok (.bipush (-3), 2) := by decide +kernel
theorem dL_law_284 : decode cL_law 284 = .ok (.goto 5, 3) := by decide +kernel
theorem dL_law_287 : decode cL_law 287 = .ok (.iload 14, 2) := by decide +kernel
theorem dL_law_289 : decode cL_law 289 = .ok (.if_icmp .ne 44, 3) := by decide +kernel
theorem dL_law_292 : decode cL_law 292 = .ok (.aload_n 1, 1) := by decide +kernel
theorem dL_law_293 : decode cL_law 293 = .ok (.invokevirtual 125, 3) := by decide +kernel
theorem dL_law_296 : decode cL_law 296 = .ok (.iload 13, 2) := by decide +kernel
theorem dL_law_298 : decode cL_law 298 = .ok (.ifCond .eq 8, 3) := by decide +kernel
theorem dL_law_301 : decode cL_law 301 = .ok (.bipush (-3), 2) := by decide +kernel
theorem dL_law_303 : decode cL_law 303 = .ok (.goto 6, 3) := by decide +kernel
theorem dL_law_306 : decode cL_law 306 = .ok (.aload_n 2, 1) := by decide +kernel
theorem dL_law_307 : decode cL_law 307 = .ok (.iconst 0, 1) := by decide +kernel
theorem dL_law_308 : decode cL_law 308 = .ok (.iaload, 1) := by decide +kernel
theorem dL_law_309 : decode cL_law 309 = .ok (.if_icmp .ne 24, 3) := by decide +kernel
theorem dL_law_312 : decode cL_law 312 = .ok (.aload_n 1, 1) := by decide +kernel
theorem dL_law_313 : decode cL_law 313 = .ok (.invokevirtual 128, 3) := by decide +kernel
theorem dL_law_316 : decode cL_law 316 = .ok (.iload 13, 2) := by decide +kernel
theorem dL_law_318 : decode cL_law 318 = .ok (.ifCond .eq 11, 3) := by decide +kernel
theorem dL_law_321 : decode cL_law 321 = .ok (.lload 11, 2) := by decide +kernel
theorem dL_law_323 : decode cL_law 323 = .ok (.invokestatic 18, 3) := by decide +kernel
theorem dL_law_326 : decode cL_law 326 = .ok (.goto 4, 3) := by decide +kernel
theorem dL_law_329 : decode cL_law 329 = .ok (.iconst 0, 1) := by decide +kernel
theorem dL_law_330 : decode cL_law 330 = .ok (.if_icmp .eq 5, 3) := by decide +kernel
theorem dL_law_333 : decode cL_law 333 = .ok (.iconst 0, 1) := by decide +kernel
theorem dL_law_334 : decode cL_law 334 = .ok (.ireturn, 1) := by decide +kernel
theorem dL_law_335 : decode cL_law 335 = .ok (.aload_n 2, 1) := by decide +kernel
theorem dL_law_336 : decode cL_law 336 = .ok (.iconst 0, 1) := by decide +kernel
theorem dL_law_337 : decode cL_law 337 = .ok (.dup2, 1) := by decide +kernel
theorem dL_law_338 : decode cL_law 338 = .ok (.iaload, 1) := by decide +kernel
theorem dL_law_339 : decode cL_law 339 = .ok (.iload 13, 2) := by decide +kernel
theorem dL_law_341 : decode cL_law 341 = .ok (.ifCond .eq 7, 3) := by decide +kernel
theorem dL_law_344 : decode cL_law 344 = .ok (.iconst 0, 1) := by decide +kernel
theorem dL_law_345 : decode cL_law 345 = .ok (.goto 4, 3) := by decide +kernel
theorem dL_law_348 : decode cL_law 348 = .ok (.iconst 1, 1) := by decide +kernel
theorem dL_law_349 : decode cL_law 349 = .ok (.iadd, 1) := by decide +kernel
theorem dL_law_350 : decode cL_law 350 = .ok (.iastore, 1) := by decide +kernel
theorem dL_law_351 : decode cL_law 351 = .ok (.goto 556, 3) := by decide +kernel
theorem dL_law_354 : decode cL_law 354 = .ok (.iload 9, 2) := by decide +kernel
theorem dL_law_356 : decode cL_law 356 = .ok (.iconst 3, 1) := by decide +kernel
theorem dL_law_357 : decode cL_law 357 = .ok (.if_icmp .ne 111, 3) := by decide +kernel
theorem dL_law_360 : decode cL_law 360 = .ok (.iload 8, 2) := by decide +kernel
theorem dL_law_362 : decode cL_law 362 = .ok (.bipush 6, 2) := by decide +kernel
theorem dL_law_364 : decode cL_law 364 = .ok (.invokestatic 70, 3) := by decide +kernel
theorem dL_law_367 : decode cL_law 367 = .ok (.istore 11, 2) := by decide +kernel
theorem dL_law_369 : decode cL_law 369 = .ok (.iload 11, 2) := by decide +kernel
theorem dL_law_371 : decode cL_law 371 = .ok (.aload_n 2, 1) := by decide +kernel
theorem dL_law_372 : decode cL_law 372 = .ok (.iconst 0, 1) := by decide +kernel
theorem dL_law_373 : decode cL_law 373 = .ok (.iaload, 1) := by decide +kernel
theorem dL_law_374 : decode cL_law 374 = .ok (.if_icmp .ge 7, 3) := by decide +kernel
theorem dL_law_377 : decode cL_law 377 = .ok (.iconst 1, 1) := by decide +kernel
theorem dL_law_378 : decode cL_law 378 = .ok (.goto 4, 3) := by decide +kernel
theorem dL_law_381 : decode cL_law 381 = .ok (.iconst 0, 1) := by decide +kernel
theorem dL_law_382 : decode cL_law 382 = .ok (.istore 12, 2) := by decide +kernel
theorem dL_law_384 : decode cL_law 384 = .ok (.iload 11, 2) := by decide +kernel
theorem dL_law_386 : decode cL_law 386 = .ok (.istore 13, 2) := by decide +kernel
theorem dL_law_388 : decode cL_law 388 = .ok (.iload 13, 2) := by decide +kernel
theorem dL_law_390 : decode cL_law 390 = .ok (.iconst 1, 1) := by decide +kernel
theorem dL_law_391 : decode cL_law 391 = .ok (.iadd, 1) := by decide +kernel
theorem dL_law_392 : decode cL_law 392 = .ok (.aload_n 2, 1) := by decide +kernel
theorem dL_law_393 : decode cL_law 393 = .ok (.iconst 0, 1) := by decide +kernel
theorem dL_law_394 : decode cL_law 394 = .ok (.iaload, 1) := by decide +kernel
theorem dL_law_395 : decode cL_law 395 = .ok (.if_icmp .ge 31, 3) := by decide +kernel
theorem dL_law_398 : decode cL_law 398 = .ok (.aload_n 3, 1) := by decide +kernel
theorem dL_law_399 : decode cL_law 399 = .ok (.iload 13, 2) := by decide +kernel
theorem dL_law_401 : decode cL_law 401 = .ok (.aload_n 3, 1) := by decide +kernel
theorem dL_law_402 : decode cL_law 402 = .ok (.iload 13, 2) := by decide +kernel
theorem dL_law_404 : decode cL_law 404 = .ok (.iconst 1, 1) := by decide +kernel
theorem dL_law_405 : decode cL_law 405 = .ok (.iadd, 1) := by decide +kernel
theorem dL_law_406 : decode cL_law 406 = .ok (.laload, 1) := by decide +kernel
theorem dL_law_407 : decode cL_law 407 = .ok (.lastore, 1) := by decide +kernel
theorem dL_law_408 : decode cL_law 408 = .ok (.aload_n 2, 1) := by decide +kernel
theorem dL_law_409 : decode cL_law 409 = .ok (.iconst 3, 1) := by decide +kernel
theorem dL_law_410 : decode cL_law 410 = .ok (.iload 13, 2) := by decide +kernel
theorem dL_law_412 : decode cL_law 412 = .ok (.iadd, 1) := by decide +kernel
theorem dL_law_413 : decode cL_law 413 = .ok (.aload_n 2, 1) := by decide +kernel
theorem dL_law_414 : decode cL_law 414 = .ok (.iconst 4, 1) := by decide +kernel
theorem dL_law_415 : decode cL_law 415 = .ok (.iload 13, 2) := by decide +kernel
theorem dL_law_417 : decode cL_law 417 = .ok (.iadd, 1) := by decide +kernel
theorem dL_law_418 : decode cL_law 418 = .ok (.iaload, 1) := by decide +kernel
theorem dL_law_419 : decode cL_law 419 = .ok (.iastore, 1) := by decide +kernel
theorem dL_law_420 : decode cL_law 420 = .ok (.iinc 13 1, 3) := by decide +kernel
theorem dL_law_423 : decode cL_law 423 = .ok (.goto (-35), 3) := by decide +kernel
theorem dL_law_426 : decode cL_law 426 = .ok (.aload_n 2, 1) := by decide +kernel
theorem dL_law_427 : decode cL_law 427 = .ok (.iconst 0, 1) := by decide +kernel
theorem dL_law_428 : decode cL_law 428 = .ok (.dup2, 1) := by decide +kernel
theorem dL_law_429 : decode cL_law 429 = .ok (.iaload, 1) := by decide +kernel
theorem dL_law_430 : decode cL_law 430 = .ok (.iload 12, 2) := by decide +kernel
theorem dL_law_432 : decode cL_law 432 = .ok (.ifCond .eq 7, 3) := by decide +kernel
theorem dL_law_435 : decode cL_law 435 = .ok (.iconst 1, 1) := by decide +kernel
theorem dL_law_436 : decode cL_law 436 = .ok (.goto 4, 3) := by decide +kernel
theorem dL_law_439 : decode cL_law 439 = .ok (.iconst 0, 1) := by decide +kernel
theorem dL_law_440 : decode cL_law 440 = .ok (.isub, 1) := by decide +kernel
theorem dL_law_441 : decode cL_law 441 = .ok (.iastore, 1) := by decide +kernel
theorem dL_law_442 : decode cL_law 442 = .ok (.aload_n 1, 1) := by decide +kernel
theorem dL_law_443 : decode cL_law 443 = .ok (.iload 11, 2) := by decide +kernel
theorem dL_law_445 : decode cL_law 445 = .ok (.invokevirtual 131, 3) := by decide +kernel
theorem dL_law_448 : decode cL_law 448 = .ok (.iload 12, 2) := by decide +kernel
theorem dL_law_450 : decode cL_law 450 = .ok (.ifCond .eq 9, 3) := by decide +kernel
theorem dL_law_453 : decode cL_law 453 = .ok (.aload_n 2, 1) := by decide +kernel
theorem dL_law_454 : decode cL_law 454 = .ok (.iconst 0, 1) := by decide +kernel
theorem dL_law_455 : decode cL_law 455 = .ok (.iaload, 1) := by decide +kernel
theorem dL_law_456 : decode cL_law 456 = .ok (.goto 4, 3) := by decide +kernel
theorem dL_law_459 : decode cL_law 459 = .ok (.iconst (-1), 1) := by decide +kernel
theorem dL_law_460 : decode cL_law 460 = .ok (.if_icmp .eq 5, 3) := by decide +kernel
theorem dL_law_463 : decode cL_law 463 = .ok (.iconst 0, 1) := by decide +kernel
theorem dL_law_464 : decode cL_law 464 = .ok (.ireturn, 1) := by decide +kernel
theorem dL_law_465 : decode cL_law 465 = .ok (.goto 442, 3) := by decide +kernel
theorem dL_law_468 : decode cL_law 468 = .ok (.iload 9, 2) := by decide +kernel
theorem dL_law_470 : decode cL_law 470 = .ok (.iconst 4, 1) := by decide +kernel
theorem dL_law_471 : decode cL_law 471 = .ok (.if_icmp .ne 33, 3) := by decide +kernel
theorem dL_law_474 : decode cL_law 474 = .ok (.iload 8, 2) := by decide +kernel
theorem dL_law_476 : decode cL_law 476 = .ok (.iconst 4, 1) := by decide +kernel
theorem dL_law_477 : decode cL_law 477 = .ok (.invokestatic 70, 3) := by decide +kernel
theorem dL_law_480 : decode cL_law 480 = .ok (.istore 11, 2) := by decide +kernel
theorem dL_law_482 : decode cL_law 482 = .ok (.aload_n 1, 1) := by decide +kernel
theorem dL_law_483 : decode cL_law 483 = .ok (.iload 11, 2) := by decide +kernel
theorem dL_law_485 : decode cL_law 485 = .ok (.invokevirtual 134, 3) := by decide +kernel
theorem dL_law_488 : decode cL_law 488 = .ok (.aload_n 2, 1) := by decide +kernel
theorem dL_law_489 : decode cL_law 489 = .ok (.iconst 1, 1) := by decide +kernel
theorem dL_law_490 : decode cL_law 490 = .ok (.iaload, 1) := by decide +kernel
theorem dL_law_491 : decode cL_law 491 = .ok (.if_icmp .eq 5, 3) := by decide +kernel
theorem dL_law_494 : decode cL_law 494 = .ok (.iconst 0, 1) := by decide +kernel
theorem dL_law_495 : decode cL_law 495 = .ok (.ireturn, 1) := by decide +kernel
theorem dL_law_496 : decode cL_law 496 = .ok (.aload_n 2, 1) := by decide +kernel
theorem dL_law_497 : decode cL_law 497 = .ok (.iconst 1, 1) := by decide +kernel
theorem dL_law_498 : decode cL_law 498 = .ok (.iload 11, 2) := by decide +kernel
theorem dL_law_500 : decode cL_law 500 = .ok (.iastore, 1) := by decide +kernel
theorem dL_law_501 : decode cL_law 501 = .ok (.goto 406, 3) := by decide +kernel
theorem dL_law_504 : decode cL_law 504 = .ok (.iload 9, 2) := by decide +kernel
theorem dL_law_506 : decode cL_law 506 = .ok (.iconst 5, 1) := by decide +kernel
theorem dL_law_507 : decode cL_law 507 = .ok (.if_icmp .ne 33, 3) := by decide +kernel
theorem dL_law_510 : decode cL_law 510 = .ok (.iload 8, 2) := by decide +kernel
theorem dL_law_512 : decode cL_law 512 = .ok (.iconst 3, 1) := by decide +kernel
theorem dL_law_513 : decode cL_law 513 = .ok (.invokestatic 70, 3) := by decide +kernel
theorem dL_law_516 : decode cL_law 516 = .ok (.istore 11, 2) := by decide +kernel
theorem dL_law_518 : decode cL_law 518 = .ok (.aload_n 1, 1) := by decide +kernel
theorem dL_law_519 : decode cL_law 519 = .ok (.iload 11, 2) := by decide +kernel
theorem dL_law_521 : decode cL_law 521 = .ok (.invokevirtual 137, 3) := by decide +kernel
theorem dL_law_524 : decode cL_law 524 = .ok (.aload_n 2, 1) := by decide +kernel
theorem dL_law_525 : decode cL_law 525 = .ok (.iconst 2, 1) := by decide +kernel
theorem dL_law_526 : decode cL_law 526 = .ok (.iaload, 1) := by decide +kernel
theorem dL_law_527 : decode cL_law 527 = .ok (.if_icmp .eq 5, 3) := by decide +kernel
theorem dL_law_530 : decode cL_law 530 = .ok (.iconst 0, 1) := by decide +kernel
theorem dL_law_531 : decode cL_law 531 = .ok (.ireturn, 1) := by decide +kernel
theorem dL_law_532 : decode cL_law 532 = .ok (.aload_n 2, 1) := by decide +kernel
theorem dL_law_533 : decode cL_law 533 = .ok (.iconst 2, 1) := by decide +kernel
theorem dL_law_534 : decode cL_law 534 = .ok (.iload 11, 2) := by decide +kernel
theorem dL_law_536 : decode cL_law 536 = .ok (.iastore, 1) := by decide +kernel
theorem dL_law_537 : decode cL_law 537 = .ok (.goto 370, 3) := by decide +kernel
theorem dL_law_540 : decode cL_law 540 = .ok (.iload 9, 2) := by decide +kernel
theorem dL_law_542 : decode cL_law 542 = .ok (.bipush 9, 2) := by decide +kernel
theorem dL_law_544 : decode cL_law 544 = .ok (.if_icmp .ge 188, 3) := by decide +kernel
theorem dL_law_547 : decode cL_law 547 = .ok (.iload 10, 2) := by decide +kernel
theorem dL_law_549 : decode cL_law 549 = .ok (.bipush 9, 2) := by decide +kernel
theorem dL_law_551 : decode cL_law 551 = .ok (.if_icmp .ne 6, 3) := by decide +kernel
theorem dL_law_554 : decode cL_law 554 = .ok (.goto 370, 3) := by decide +kernel
theorem dL_law_557 : decode cL_law 557 = .ok (.iload 8, 2) := by decide +kernel
theorem dL_law_559 : decode cL_law 559 = .ok (.iconst 4, 1) := by decide +kernel
theorem dL_law_560 : decode cL_law 560 = .ok (.invokestatic 70, 3) := by decide +kernel
theorem dL_law_563 : decode cL_law 563 = .ok (.ifCond .ne 8, 3) := by decide +kernel
theorem dL_law_566 : decode cL_law 566 = .ok (.bipush 27, 2) := by decide +kernel
theorem dL_law_568 : decode cL_law 568 = .ok (.goto 30, 3) := by decide +kernel
theorem dL_law_571 : decode cL_law 571 = .ok (.iload 8, 2) := by decide +kernel
theorem dL_law_573 : decode cL_law 573 = .ok (.iconst 2, 1) := by decide +kernel
theorem dL_law_574 : decode cL_law 574 = .ok (.ishr, 1) := by decide +kernel
theorem dL_law_575 : decode cL_law 575 = .ok (.bipush 9, 2) := by decide +kernel
theorem dL_law_577 : decode cL_law 577 = .ok (.invokestatic 70, 3) := by decide +kernel
theorem dL_law_580 : decode cL_law 580 = .ok (.ifCond .ne 8, 3) := by decide +kernel
theorem dL_law_583 : decode cL_law 583 = .ok (.bipush 28, 2) := by decide +kernel
theorem dL_law_585 : decode cL_law 585 = .ok (.goto 13, 3) := by decide +kernel
theorem dL_law_588 : decode cL_law 588 = .ok (.iconst 1, 1) := by decide +kernel
theorem dL_law_589 : decode cL_law 589 = .ok (.iload 8, 2) := by decide +kernel
theorem dL_law_591 : decode cL_law 591 = .ok (.iconst 4, 1) := by decide +kernel
theorem dL_law_592 : decode cL_law 592 = .ok (.ishr, 1) := by decide +kernel
theorem dL_law_593 : decode cL_law 593 = .ok (.iconst 2, 1) := by decide +kernel
theorem dL_law_594 : decode cL_law 594 = .ok (.invokestatic 70, 3) := by decide +kernel
theorem dL_law_597 : decode cL_law 597 = .ok (.iadd, 1) := by decide +kernel
theorem dL_law_598 : decode cL_law 598 = .ok (.istore 11, 2) := by decide +kernel
theorem dL_law_600 : decode cL_law 600 = .ok (.iload 11, 2) := by decide +kernel
theorem dL_law_602 : decode cL_law 602 = .ok (.bipush 27, 2) := by decide +kernel
theorem dL_law_604 : decode cL_law 604 = .ok (.if_icmp .ne 22, 3) := by decide +kernel
theorem dL_law_607 : decode cL_law 607 = .ok (.iload 10, 2) := by decide +kernel
theorem dL_law_609 : decode cL_law 609 = .ok (.ifCond .le 21, 3) := by decide +kernel
theorem dL_law_612 : decode cL_law 612 = .ok (.lload 4, 2) := by decide +kernel
theorem dL_law_614 : decode cL_law 614 = .ok (.iload 10, 2) := by decide +kernel
theorem dL_law_616 : decode cL_law 616 = .ok (.iconst 1, 1) := by decide +kernel
theorem dL_law_617 : decode cL_law 617 = .ok (.isub, 1) := by decide +kernel
theorem dL_law_618 : decode cL_law 618 = .ok (.invokestatic 12, 3) := by decide +kernel
theorem dL_law_621 : decode cL_law 621 = .ok (.bipush 27, 2) := by decide +kernel
theorem dL_law_623 : decode cL_law 623 = .ok (.if_icmp .eq 7, 3) := by decide +kernel
theorem dL_law_626 : decode cL_law 626 = .ok (.iconst 1, 1) := by decide +kernel
theorem dL_law_627 : decode cL_law 627 = .ok (.goto 4, 3) := by decide +kernel
theorem dL_law_630 : decode cL_law 630 = .ok (.iconst 0, 1) := by decide +kernel
theorem dL_law_631 : decode cL_law 631 = .ok (.istore 12, 2) := by decide +kernel
theorem dL_law_633 : decode cL_law 633 = .ok (.lload 4, 2) := by decide +kernel
theorem dL_law_635 : decode cL_law 635 = .ok (.iload 12, 2) := by decide +kernel
theorem dL_law_637 : decode cL_law 637 = .ok (.ifCond .eq 14, 3) := by decide +kernel
theorem dL_law_640 : decode cL_law 640 = .ok (.iload 11, 2) := by decide +kernel
theorem dL_law_642 : decode cL_law 642 = .ok (.i2l, 1) := by decide +kernel
theorem dL_law_643 : decode cL_law 643 = .ok (.iconst 5, 1) := by decide +kernel
theorem dL_law_644 : decode cL_law 644 = .ok (.iload 10, 2) := by decide +kernel
theorem dL_law_646 : decode cL_law 646 = .ok (.imul, 1) := by decide +kernel
theorem dL_law_647 : decode cL_law 647 = .ok (.lshl, 1) := by decide +kernel
theorem dL_law_648 : decode cL_law 648 = .ok (.goto 4, 3) := by decide +kernel
theorem dL_law_651 : decode cL_law 651 = .ok (.lconst 0, 1) := by decide +kernel
theorem dL_law_652 : decode cL_law 652 = .ok (.lor, 1) := by decide +kernel
theorem dL_law_653 : decode cL_law 653 = .ok (.lstore 4, 2) := by decide +kernel
theorem dL_law_655 : decode cL_law 655 = .ok (.iconst 0, 1) := by decide +kernel
theorem dL_law_656 : decode cL_law 656 = .ok (.istore 13, 2) := by decide +kernel
theorem dL_law_658 : decode cL_law 658 = .ok (.iconst 0, 1) := by decide +kernel
theorem dL_law_659 : decode cL_law 659 = .ok (.istore 14, 2) := by decide +kernel
theorem dL_law_661 : decode cL_law 661 = .ok (.iload 14, 2) := by decide +kernel
theorem dL_law_663 : decode cL_law 663 = .ok (.aload_n 2, 1) := by decide +kernel
theorem dL_law_664 : decode cL_law 664 = .ok (.iconst 0, 1) := by decide +kernel
theorem dL_law_665 : decode cL_law 665 = .ok (.iaload, 1) := by decide +kernel
theorem dL_law_666 : decode cL_law 666 = .ok (.if_icmp .ge 37, 3) := by decide +kernel
theorem dL_law_669 : decode cL_law 669 = .ok (.iload 13, 2) := by decide +kernel
theorem dL_law_671 : decode cL_law 671 = .ok (.aload_n 3, 1) := by decide +kernel
theorem dL_law_672 : decode cL_law 672 = .ok (.iload 14, 2) := by decide +kernel
theorem dL_law_674 : decode cL_law 674 = .ok (.laload, 1) := by decide +kernel
theorem dL_law_675 : decode cL_law 675 = .ok (.lload 4, 2) := by decide +kernel
theorem dL_law_677 : decode cL_law 677 = .ok (.invokestatic 48, 3) := by decide +kernel
theorem dL_law_680 : decode cL_law 680 = .ok (.aload_n 2, 1) := by decide +kernel
theorem dL_law_681 : decode cL_law 681 = .ok (.iconst 1, 1) := by decide +kernel
theorem dL_law_682 : decode cL_law 682 = .ok (.iaload, 1) := by decide +kernel
theorem dL_law_683 : decode cL_law 683 = .ok (.invokestatic 38, 3) := by decide +kernel
theorem dL_law_686 : decode cL_law 686 = .ok (.ifCond .ge 7, 3) := by decide +kernel
theorem dL_law_689 : decode cL_law 689 = .ok (.iconst 0, 1) := by decide +kernel
theorem dL_law_690 : decode cL_law 690 = .ok (.goto 4, 3) := by decide +kernel
theorem dL_law_693 : decode cL_law 693 = .ok (.iconst 1, 1) := by decide +kernel
theorem dL_law_694 : decode cL_law 694 = .ok (.iadd, 1) := by decide +kernel
theorem dL_law_695 : decode cL_law 695 = .ok (.istore 13, 2) := by decide +kernel
theorem dL_law_697 : decode cL_law 697 = .ok (.iinc 14 1, 3) := by decide +kernel
theorem dL_law_700 : decode cL_law 700 = .ok (.goto (-39), 3) := by decide +kernel
theorem dL_law_703 : decode cL_law 703 = .ok (.aload_n 1, 1) := by decide +kernel
theorem dL_law_704 : decode cL_law 704 = .ok (.iload 11, 2) := by decide +kernel
theorem dL_law_706 : decode cL_law 706 = .ok (.invokestatic 30, 3) := by decide +kernel
theorem dL_law_709 : decode cL_law 709 = .ok (.invokevirtual 140, 3) := by decide +kernel
theorem dL_law_712 : decode cL_law 712 = .ok (.iload 12, 2) := by decide +kernel
theorem dL_law_714 : decode cL_law 714 = .ok (.ifCond .eq 8, 3) := by decide +kernel
theorem dL_law_717 : decode cL_law 717 = .ok (.iload 13, 2) := by decide +kernel
theorem dL_law_719 : decode cL_law 719 = .ok (.goto 5, 3) := by decide +kernel
theorem dL_law_722 : decode cL_law 722 = .ok (.bipush (-3), 2) := by decide +kernel
theorem dL_law_724 : decode cL_law 724 = .ok (.if_icmp .eq 5, 3) := by decide +kernel
theorem dL_law_727 : decode cL_law 727 = .ok (.iconst 0, 1) := by decide +kernel
theorem dL_law_728 : decode cL_law 728 = .ok (.ireturn, 1) := by decide +kernel
theorem dL_law_729 : decode cL_law 729 = .ok (.goto 178, 3) := by decide +kernel
theorem dL_law_732 : decode cL_law 732 = .ok (.iload 9, 2) := by decide +kernel
theorem dL_law_734 : decode cL_law 734 = .ok (.bipush 9, 2) := by decide +kernel
theorem dL_law_736 : decode cL_law 736 = .ok (.if_icmp .ne 112, 3) := by decide +kernel
theorem dL_law_739 : decode cL_law 739 = .ok (.iload 10, 2) := by decide +kernel
theorem dL_law_741 : decode cL_law 741 = .ok (.ifCond .le 7, 3) := by decide +kernel
theorem dL_law_744 : decode cL_law 744 = .ok (.iconst 1, 1) := by decide +kernel
theorem dL_law_745 : decode cL_law 745 = .ok (.goto 4, 3) := by decide +kernel
theorem dL_law_748 : decode cL_law 748 = .ok (.iconst 0, 1) := by decide +kernel
theorem dL_law_749 : decode cL_law 749 = .ok (.istore 11, 2) := by decide +kernel
theorem dL_law_751 : decode cL_law 751 = .ok (.iload 11, 2) := by decide +kernel
theorem dL_law_753 : decode cL_law 753 = .ok (.ifCond .eq 19, 3) := by decide +kernel
theorem dL_law_756 : decode cL_law 756 = .ok (.lload 4, 2) := by decide +kernel
theorem dL_law_758 : decode cL_law 758 = .ok (.lconst 1, 1) := by decide +kernel
theorem dL_law_759 : decode cL_law 759 = .ok (.iconst 5, 1) := by decide +kernel
theorem dL_law_760 : decode cL_law 760 = .ok (.iload 10, 2) := by decide +kernel
theorem dL_law_762 : decode cL_law 762 = .ok (.imul, 1) := by decide +kernel
theorem dL_law_763 : decode cL_law 763 = .ok (.iconst 5, 1) := by decide +kernel
theorem dL_law_764 : decode cL_law 764 = .ok (.isub, 1) := by decide +kernel
theorem dL_law_765 : decode cL_law 765 = .ok (.lshl, 1) := by decide +kernel
theorem dL_law_766 : decode cL_law 766 = .ok (.lconst 1, 1) := by decide +kernel
theorem dL_law_767 : decode cL_law 767 = .ok (.lsub, 1) := by decide +kernel
theorem dL_law_768 : decode cL_law 768 = .ok (.land, 1) := by decide +kernel
theorem dL_law_769 : decode cL_law 769 = .ok (.goto 5, 3) := by decide +kernel
theorem dL_law_772 : decode cL_law 772 = .ok (.lload 4, 2) := by decide +kernel
theorem dL_law_774 : decode cL_law 774 = .ok (.lstore 4, 2) := by decide +kernel
theorem dL_law_776 : decode cL_law 776 = .ok (.iconst 0, 1) := by decide +kernel
theorem dL_law_777 : decode cL_law 777 = .ok (.istore 12, 2) := by decide +kernel
theorem dL_law_779 : decode cL_law 779 = .ok (.iconst 0, 1) := by decide +kernel
theorem dL_law_780 : decode cL_law 780 = .ok (.istore 13, 2) := by decide +kernel
theorem dL_law_782 : decode cL_law 782 = .ok (.iload 13, 2) := by decide +kernel
theorem dL_law_784 : decode cL_law 784 = .ok (.aload_n 2, 1) := by decide +kernel
theorem dL_law_785 : decode cL_law 785 = .ok (.iconst 0, 1) := by decide +kernel
theorem dL_law_786 : decode cL_law 786 = .ok (.iaload, 1) := by decide +kernel
theorem dL_law_787 : decode cL_law 787 = .ok (.if_icmp .ge 37, 3) := by decide +kernel
theorem dL_law_790 : decode cL_law 790 = .ok (.iload 12, 2) := by decide +kernel
theorem dL_law_792 : decode cL_law 792 = .ok (.aload_n 3, 1) := by decide +kernel
theorem dL_law_793 : decode cL_law 793 = .ok (.iload 13, 2) := by decide +kernel
theorem dL_law_795 : decode cL_law 795 = .ok (.laload, 1) := by decide +kernel
theorem dL_law_796 : decode cL_law 796 = .ok (.lload 4, 2) := by decide +kernel
theorem dL_law_798 : decode cL_law 798 = .ok (.invokestatic 48, 3) := by decide +kernel
theorem dL_law_801 : decode cL_law 801 = .ok (.aload_n 2, 1) := by decide +kernel
theorem dL_law_802 : decode cL_law 802 = .ok (.iconst 1, 1) := by decide +kernel
theorem dL_law_803 : decode cL_law 803 = .ok (.iaload, 1) := by decide +kernel
theorem dL_law_804 : decode cL_law 804 = .ok (.invokestatic 38, 3) := by decide +kernel
theorem dL_law_807 : decode cL_law 807 = .ok (.ifCond .ge 7, 3) := by decide +kernel
theorem dL_law_810 : decode cL_law 810 = .ok (.iconst 0, 1) := by decide +kernel
theorem dL_law_811 : decode cL_law 811 = .ok (.goto 4, 3) := by decide +kernel
theorem dL_law_814 : decode cL_law 814 = .ok (.iconst 1, 1) := by decide +kernel
theorem dL_law_815 : decode cL_law 815 = .ok (.iadd, 1) := by decide +kernel
theorem dL_law_816 : decode cL_law 816 = .ok (.istore 12, 2) := by decide +kernel
theorem dL_law_818 : decode cL_law 818 = .ok (.iinc 13 1, 3) := by decide +kernel
theorem dL_law_821 : decode cL_law 821 = .ok (.goto (-39), 3) := by decide +kernel
theorem dL_law_824 : decode cL_law 824 = .ok (.aload_n 1, 1) := by decide +kernel
theorem dL_law_825 : decode cL_law 825 = .ok (.invokevirtual 143, 3) := by decide +kernel
theorem dL_law_828 : decode cL_law 828 = .ok (.iload 11, 2) := by decide +kernel
theorem dL_law_830 : decode cL_law 830 = .ok (.ifCond .eq 8, 3) := by decide +kernel
theorem dL_law_833 : decode cL_law 833 = .ok (.iload 12, 2) := by decide +kernel
theorem dL_law_835 : decode cL_law 835 = .ok (.goto 5, 3) := by decide +kernel
theorem dL_law_838 : decode cL_law 838 = .ok (.bipush (-3), 2) := by decide +kernel
theorem dL_law_840 : decode cL_law 840 = .ok (.if_icmp .eq 5, 3) := by decide +kernel
theorem dL_law_843 : decode cL_law 843 = .ok (.iconst 0, 1) := by decide +kernel
theorem dL_law_844 : decode cL_law 844 = .ok (.ireturn, 1) := by decide +kernel
theorem dL_law_845 : decode cL_law 845 = .ok (.goto 62, 3) := by decide +kernel
theorem dL_law_848 : decode cL_law 848 = .ok (.iload 8, 2) := by decide +kernel
theorem dL_law_850 : decode cL_law 850 = .ok (.iconst 3, 1) := by decide +kernel
theorem dL_law_851 : decode cL_law 851 = .ok (.invokestatic 70, 3) := by decide +kernel
theorem dL_law_854 : decode cL_law 854 = .ok (.istore 11, 2) := by decide +kernel
theorem dL_law_856 : decode cL_law 856 = .ok (.iload 11, 2) := by decide +kernel
theorem dL_law_858 : decode cL_law 858 = .ok (.lload 4, 2) := by decide +kernel
theorem dL_law_860 : decode cL_law 860 = .ok (.aload_n 2, 1) := by decide +kernel
theorem dL_law_861 : decode cL_law 861 = .ok (.aload_n 3, 1) := by decide +kernel
theorem dL_law_862 : decode cL_law 862 = .ok (.invokestatic 75, 3) := by decide +kernel
theorem dL_law_865 : decode cL_law 865 = .ok (.istore 12, 2) := by decide +kernel
theorem dL_law_867 : decode cL_law 867 = .ok (.aload_n 1, 1) := by decide +kernel
theorem dL_law_868 : decode cL_law 868 = .ok (.iload 11, 2) := by decide +kernel
theorem dL_law_870 : decode cL_law 870 = .ok (.invokevirtual 146, 3) := by decide +kernel
theorem dL_law_873 : decode cL_law 873 = .ok (.iload 12, 2) := by decide +kernel
theorem dL_law_875 : decode cL_law 875 = .ok (.ifCond .ge 7, 3) := by decide +kernel
theorem dL_law_878 : decode cL_law 878 = .ok (.iconst (-1), 1) := by decide +kernel
theorem dL_law_879 : decode cL_law 879 = .ok (.goto 5, 3) := by decide +kernel
theorem dL_law_882 : decode cL_law 882 = .ok (.iload 12, 2) := by decide +kernel
theorem dL_law_884 : decode cL_law 884 = .ok (.if_icmp .eq 5, 3) := by decide +kernel
theorem dL_law_887 : decode cL_law 887 = .ok (.iconst 0, 1) := by decide +kernel
theorem dL_law_888 : decode cL_law 888 = .ok (.ireturn, 1) := by decide +kernel
theorem dL_law_889 : decode cL_law 889 = .ok (.iload 12, 2) := by decide +kernel
theorem dL_law_891 : decode cL_law 891 = .ok (.ifCond .lt 16, 3) := by decide +kernel
theorem dL_law_894 : decode cL_law 894 = .ok (.aload_n 2, 1) := by decide +kernel
theorem dL_law_895 : decode cL_law 895 = .ok (.iconst 3, 1) := by decide +kernel
theorem dL_law_896 : decode cL_law 896 = .ok (.iload 12, 2) := by decide +kernel
theorem dL_law_898 : decode cL_law 898 = .ok (.iadd, 1) := by decide +kernel
theorem dL_law_899 : decode cL_law 899 = .ok (.dup2, 1) := by decide +kernel
theorem dL_law_900 : decode cL_law 900 = .ok (.iaload, 1) := by decide +kernel
theorem dL_law_901 : decode cL_law 901 = .ok (.iconst 1, 1) := by decide +kernel
theorem dL_law_902 : decode cL_law 902 = .ok (.iadd, 1) := by decide +kernel
theorem dL_law_903 : decode cL_law 903 = .ok (.iastore, 1) := by decide +kernel
theorem dL_law_904 : decode cL_law 904 = .ok (.lconst 0, 1) := by decide +kernel
theorem dL_law_905 : decode cL_law 905 = .ok (.lstore 4, 2) := by decide +kernel
theorem dL_law_907 : decode cL_law 907 = .ok (.aload_n 1, 1) := by decide +kernel
theorem dL_law_908 : decode cL_law 908 = .ok (.iload 8, 2) := by decide +kernel
theorem dL_law_910 : decode cL_law 910 = .ok (.iconst 3, 1) := by decide +kernel
theorem dL_law_911 : decode cL_law 911 = .ok (.ishr, 1) := by decide +kernel
theorem dL_law_912 : decode cL_law 912 = .ok (.lload 4, 2) := by decide +kernel
theorem dL_law_914 : decode cL_law 914 = .ok (.aload_n 2, 1) := by decide +kernel
theorem dL_law_915 : decode cL_law 915 = .ok (.aload_n 3, 1) := by decide +kernel
theorem dL_law_916 : decode cL_law 916 = .ok (.invokestatic 149, 3) := by decide +kernel
theorem dL_law_919 : decode cL_law 919 = .ok (.ifCond .ne 5, 3) := by decide +kernel
theorem dL_law_922 : decode cL_law 922 = .ok (.iconst 0, 1) := by decide +kernel
theorem dL_law_923 : decode cL_law 923 = .ok (.ireturn, 1) := by decide +kernel
theorem dL_law_924 : decode cL_law 924 = .ok (.iinc 6 1, 3) := by decide +kernel
theorem dL_law_927 : decode cL_law 927 = .ok (.goto (-903), 3) := by decide +kernel
theorem dL_law_930 : decode cL_law 930 = .ok (.iconst 1, 1) := by decide +kernel
theorem dL_law_931 : decode cL_law 931 = .ok (.ireturn, 1) := by decide +kernel
end
section
/-! THE LAYER: memory as a map from addresses to tagged cells; a judgement V over it, an instruction a row; a contract CC over it, a call a row -/
abbrev mE : Type := (Nat × List Value) ⊕ (Nat × Nat × ((Nat → Int32) ⊕ (Nat → Option Nat)))
abbrev mM : Type := Nat → Option (Nat × mE)
/-- the machine's cell of a cell -/
def mv (KA : Nat → ClassId) (e : mE) : va_E := match e with
  | .inl o => .inr o
  | .inr (k, n, .inl f) => .inl (KA k, n, .inl f)
  | .inr (k, n, .inr g) => .inl (KA k, n, cond (Nat.beq k 5) (.inr (.inl (fun j => lN ((g j).getD 0)))) (.inr (.inr (.inr (.inr g)))))
theorem mv_r {KA : Nat → ClassId} {k n : Nat} {g : Nat → Option Nat} (h : Nat.beq k 5 = false) : mv KA (.inr (k, n, .inr g)) = .inl (KA k, n, .inr (.inr (.inr (.inr g)))) := by
  show Sum.inl (KA k, n, cond (Nat.beq k 5) _ _) = _
  rw [h]
  rfl
def mup (M : mM) (a : Nat) (x : Nat × mE) : mM := fun b => if b = a then some x else M b
theorem mup_s {M : mM} {a : Nat} {x : Nat × mE} : mup M a x a = some x := if_pos rfl
theorem mup_n {M : mM} {a b : Nat} {x : Nat × mE} (h : b ≠ a) : mup M a x b = M b := if_neg h
/-- the kinds of arrays -/
def tysK (KA : Nat → ClassId) : List (ClassId × FieldType) := [(KA 0, .int), (KA 1, .char), (KA 2, .object "java/lang/Object"), (KA 3, .object "TitleFinder$State"), (KA 4, .array .int), (KA 5, .long)]
/-- the surroundings: the launch, the law's start heap, the classes, the arrays' classes, the literals' addresses, the empty list's array -/
abbrev mG : Type := Launch × Heap × va_G × (Nat → ClassId) × (Nat → Nat) × (Nat → Int32) × Nat × Nat
abbrev mAf (H0 : Heap) : Nat → Prop := fun q => H0.size ≤ q
/-- what a cell is in the heap; of one that was there before (an empty row of Objects) only what reading needs -/
def mAt (G : mG) (H : Heap) (a t : Nat) (e : mE) : Prop := (t ≠ 0 ∧ va_at G.2.2.1 vwCl (a, mv G.2.2.2.1 e) H) ∨ (t = 0 ∧ ∃ (g : Nat → Option Nat) (cell : Cell), e = .inr (2, 0, .inr g) ∧ H[a]? = some cell ∧ cell.cls = G.2.2.2.1 2 ∧ cell.slots.size = 0 ∧ cell.vm.isStatics = false ∧ cell.vm ≠ .unknown)
theorem mAt.z {G : mG} {H : Heap} {a t : Nat} {e : mE} (h : mAt G H a t e) (ht : t ≠ 0) : va_at G.2.2.1 vwCl (a, mv G.2.2.2.1 e) H := by
  rcases h with ⟨-, h⟩ | ⟨h, -⟩
  · exact h
  · exact absurd h ht
theorem mAt.o {G : mG} {H : Heap} {a t : Nat} {o : Nat × List Value} (h : mAt G H a t (.inl o)) : va_at G.2.2.1 vwCl (a, mv G.2.2.2.1 (.inl o)) H := by
  rcases h with ⟨-, h⟩ | ⟨-, g, cell, e, -⟩
  · exact h
  · cases e
theorem mAt.f {G : mG} {H : Heap} {a t k n : Nat} {f : Nat → Int32} (h : mAt G H a t (.inr (k, n, .inl f))) : t ≠ 0 ∧ va_at G.2.2.1 vwCl (a, mv G.2.2.2.1 (.inr (k, n, .inl f))) H := by
  rcases h with ⟨h0, h⟩ | ⟨-, g, cell, e, -⟩
  · exact ⟨h0, h⟩
  · cases e
theorem mAt.kept {G : mG} {H H1 : Heap} {a t : Nat} {e : mE} (h : mAt G H a t e) (hq : H1[a]? = H[a]?) : mAt G H1 a t e := by
  rcases h with ⟨h0, h⟩ | ⟨h0, g, cell, e, h1, h2⟩
  · exact Or.inl ⟨h0, h.kept hq⟩
  · exact Or.inr ⟨h0, g, cell, e, hq.trans h1, h2⟩
theorem mAt.lt {G : mG} {H : Heap} {a t : Nat} {e : mE} (h : mAt G H a t e) : a < H.size := by
  rcases h with ⟨h0, h⟩ | ⟨h0, g, cell, e, h1, h2⟩
  · exact h.lt
  · exact (Array.getElem?_eq_some_iff.mp h1).1
def mR (G : mG) (M : mM) (H : Heap) (locs : List Loc) : Prop :=
  (∀ a t e, M a = some (t, e) → mAt G H a t e) ∧ (∀ a t e, M a = some (t, e) → (t = 0 ↔ a < G.2.1.size)) ∧ va_S (mAf G.2.1) G.2.1 H locs
def mNest : List Cond := [.methodLinkNest "TitleFinder" 9 yX2_init "TitleFinder", .methodLinkNest "TitleFinder$History" 17 yX2_init "TitleFinder", .methodLinkNest "TitleFinder" 28 yX4_init "TitleFinder", .methodLinkNest "TitleFinder" 35 yX1_init "TitleFinder", .methodLinkNest "TitleFinder" 42 yX3_init "TitleFinder"]
/-- arrays of rows of ints -/
def va_AOA (t : FieldType) (U : State) : Prop := (Cond.arrayOver (.array t)).before #[] U = true
theorem va_AOA.use {t : FieldType} {A : Array Value} {U : State} (h : va_AOA t U) : (Cond.arrayOver (.array t)).before A U = true := h
theorem va_AOA.moved {t : FieldType} {u U : State} (hvm : u.vm.Alike U.vm) (h : va_AOA t u) : va_AOA t U := arrayOver_alikeB hvm h
/-- what is known of the tables, of what was there before, of the script -/
def mK (G : mG) (U : State) : Prop := va_K G.2.2.1 vwCl (tysK G.2.2.2.1) U ∧ va_Z "java/util/ArrayList" "DEFAULTCAPACITY_EMPTY_ELEMENTDATA" "[Ljava/lang/Object;" (.ref G.2.2.2.2.2.2.1) (mAf G.2.1) U G.2.1
  ∧ True ∧ True ∧ va_X (G.2.2.2.2.1 0) (G.2.2.2.2.1 1) G.2.2.2.2.2.1 U G.2.1 ∧ (G.2.2.2.2.1 0 < G.2.1.size ∧ G.2.2.2.2.1 1 ≤ 260)
  ∧ va_AO "java/lang/Object" U ∧ va_AO "TitleFinder$State" U ∧ va_AOA .int U ∧ (∀ w ∈ mNest, va_Nw w U) ∧ va_Nw (.castable "TitleFinder$Title" "java/lang/Object") U ∧ va_Mi "[Ljava/lang/Object;" G.2.2.2.2.2.2.2 U ∧ va_Dc U
theorem mK.warm {G : mG} {s U : State} (hW : s.WarmedH U.vm) (h : mK G s) : mK G U := by
  obtain ⟨h1, h2, h3, h4, h5, h6, h7, h8, h9, h10, h11, h12, h13⟩ := h
  have hvm := hW.alike
  refine ⟨va_K.moved hvm h1, va_Z.moved hvm h2, h3, h4, va_X.moved hvm h5, h6, va_AO.moved hvm h7, va_AO.moved hvm h8, va_AOA.moved hvm h9, fun w hw => ?_, va_Nw.warmC hW h11, va_Mi.moved hvm h12, va_Dc.moved hvm h13⟩
  have hz := h10 w hw
  simp only [mNest, List.mem_cons, List.not_mem_nil, or_false] at hw
  rcases hw with rfl | rfl | rfl | rfl | rfl <;> exact va_Nw.warmM hW hz
theorem mK.same {G : mG} {u U : State} (hv : U.vm = u.vm) (h : mK G u) : mK G U := by
  obtain ⟨h1, h2, h3, h4, h5, h6, h7, h8, h9, h10, h11, h12, h13⟩ := h
  have hvm : u.vm.Alike U.vm := by rw [hv]; exact Vm.Alike.refl _
  refine ⟨va_K.moved hvm h1, va_Z.moved hvm h2, h3, h4, va_X.moved hvm h5, h6, va_AO.moved hvm h7, va_AO.moved hvm h8, va_AOA.moved hvm h9, fun w hw => ?_, va_Nw.same rfl hv.symm h11, va_Mi.moved hvm h12, va_Dc.moved hvm h13⟩
  have hz := h10 w hw
  simp only [mNest, List.mem_cons, List.not_mem_nil, or_false] at hw
  rcases hw with rfl | rfl | rfl | rfl | rfl <;> exact va_Nw.same rfl hv.symm hz
/-- locals: what is known of them, by their places -/
def mP (L : List (Option Value)) : List (Nat × Value) := (List.range L.length).filterMap (fun i => (L[i]?).join.map (fun v => (i, v)))
theorem mP_mem {L : List (Option Value)} {i : Nat} {v : Value} : (i, v) ∈ mP L ↔ L[i]? = some (some v) := by
  unfold mP
  rw [List.mem_filterMap]
  constructor
  · rintro ⟨j, hj, h⟩
    cases hq : L[j]? with
    | none => rw [hq] at h; cases h
    | some x =>
      cases x with
      | none => rw [hq] at h; cases h
      | some w =>
        rw [hq] at h
        cases h
        exact hq
  · intro h
    have hlt : i < L.length := (List.getElem?_eq_some_iff.mp h).1
    exact ⟨i, List.mem_range.mpr hlt, by rw [h]; rfl⟩
def mL (ls : Array Slot) (L : List (Option Value)) : Prop := lv_has ls L.length (mP L)
theorem mL_get {ls : Array Slot} {L : List (Option Value)} (h : mL ls L) {i : Nat} {v : Value} (hi : L[i]? = some (some v)) : ls[i]? = some (.val v) := h.2.2 (i, v) (mP_mem.mpr hi)
/-- no long stands just ahead of place i -/
def mk2 (L : List (Option Value)) (i : Nat) : Bool := match i with
  | 0 => true
  | j + 1 => match L[j]? with
    | some (some v) => v.category == 1
    | _ => true
theorem mL_set {ls : Array Slot} {L : List (Option Value)} {i : Nat} {v : Value} (hk : mk2 L i = true) (hlt : i < L.length)
    (h : lv_has ls L.length ((i, v) :: (mP L).filter (fun q => !(q.1 == i) && !(q.1 + 1 == i && q.2.category == 2)))) : mL ls (L.set i (some v)) := by
  unfold mL
  rw [List.length_set]
  refine ⟨h.1, h.2.1, fun q hq => ?_⟩
  obtain ⟨j, w⟩ := q
  have hq := mP_mem.mp hq
  by_cases hj : j = i
  · subst hj
    rw [List.getElem?_set_self hlt] at hq
    cases hq
    exact h.2.2 _ List.mem_cons_self
  · rw [List.getElem?_set_ne (fun e => hj e.symm)] at hq
    refine h.2.2 _ (List.mem_cons_of_mem _ (List.mem_filter.mpr ⟨mP_mem.mpr hq, ?_⟩))
    simp only [Bool.and_eq_true, Bool.not_eq_true', beq_eq_false_iff_ne, ne_eq, Bool.and_eq_false_iff]
    refine ⟨hj, ?_⟩
    by_cases e : j + 1 = i
    · refine Or.inr ?_
      rw [← e] at hk
      simp only [mk2, hq] at hk
      have : w.category = 1 := by simpa using hk
      omega
    · exact Or.inl e
theorem mL_set2 {ls : Array Slot} {L : List (Option Value)} {i : Nat} {v : Value} (hk : mk2 L i = true) (hlt : i + 1 < L.length)
    (h : lv_has ls L.length ((i, v) :: (mP L).filter (fun q => !(q.1 == i) && (!(q.1 == i + 1) && !(q.1 + 1 == i && q.2.category == 2))))) : mL ls ((L.set i (some v)).set (i + 1) none) := by
  unfold mL
  rw [List.length_set, List.length_set]
  refine ⟨h.1, h.2.1, fun q hq => ?_⟩
  obtain ⟨j, w⟩ := q
  have hq := mP_mem.mp hq
  by_cases hj1 : j = i + 1
  · subst hj1
    rw [List.getElem?_set_self (by rw [List.length_set]; exact hlt)] at hq
    cases hq
  rw [List.getElem?_set_ne (fun e => hj1 e.symm)] at hq
  by_cases hj : j = i
  · subst hj
    rw [List.getElem?_set_self (by omega)] at hq
    cases hq
    exact h.2.2 _ List.mem_cons_self
  · rw [List.getElem?_set_ne (fun e => hj e.symm)] at hq
    refine h.2.2 _ (List.mem_cons_of_mem _ (List.mem_filter.mpr ⟨mP_mem.mpr hq, ?_⟩))
    simp only [Bool.and_eq_true, Bool.not_eq_true', beq_eq_false_iff_ne, ne_eq, Bool.and_eq_false_iff]
    refine ⟨hj, hj1, ?_⟩
    by_cases e : j + 1 = i
    · refine Or.inr ?_
      rw [← e] at hk
      simp only [mk2, hq] at hk
      have : w.category = 1 := by simpa using hk
      omega
    · exact Or.inl e
/-- a method's locals at its entry -/
def mA : Nat → List Value → List (Option Value)
  | n, [] => List.replicate n none
  | n, .long x :: vs => some (.long x) :: none :: mA (n - 2) vs
  | n, .double x :: vs => some (.double x) :: none :: mA (n - 2) vs
  | n, v :: vs => some v :: mA (n - 1) vs
theorem mA_in : ∀ (As : List Value) (n k i : Nat) (v : Value), (mA n As)[i]? = some (some v) → (k + i, v) ∈ lv_args k As := by
  intro As
  induction As with
  | nil =>
    intro n k i v h
    unfold mA at h
    rw [List.getElem?_replicate] at h
    split at h <;> cases h
  | cons a vs ih =>
    intro n k i v h
    have one : a.category = 1 → (some a :: mA (n - 1) vs)[i]? = some (some v) → (k + i, v) ∈ lv_args k (a :: vs) := by
      intro hc h
      show _ ∈ (k, a) :: lv_args (if a.category = 2 then k + 2 else k + 1) vs
      rw [if_neg (by omega)]
      cases i with
      | zero => cases h; exact List.mem_cons_self
      | succ i =>
        have h2 := ih (n - 1) (k + 1) i v h
        rw [show k + 1 + i = k + (i + 1) by omega] at h2
        exact List.mem_cons_of_mem _ h2
    have two : a.category = 2 → (some a :: none :: mA (n - 2) vs)[i]? = some (some v) → (k + i, v) ∈ lv_args k (a :: vs) := by
      intro hc h
      show _ ∈ (k, a) :: lv_args (if a.category = 2 then k + 2 else k + 1) vs
      rw [if_pos hc]
      cases i with
      | zero => cases h; exact List.mem_cons_self
      | succ i =>
        cases i with
        | zero => cases h
        | succ i =>
          have h2 := ih (n - 2) (k + 2) i v h
          rw [show k + 2 + i = k + (i + 1 + 1) by omega] at h2
          exact List.mem_cons_of_mem _ h2
    cases a with
    | long x => exact two rfl h
    | double x => exact two rfl h
    | int x => exact one rfl h
    | float x => exact one rfl h
    | null => exact one rfl h
    | ref x => exact one rfl h
    | retAddr x => exact one rfl h
/-- an activation: program, launch, environment, room, state at its entry, method, arguments, frames below, method's row, code, aim, most new cells, most new slots, surroundings -/
abbrev mX : Type := Program × Env × Room × State × MethodId × Array Value × List Frame × Method × Code × (State → Prop) × Nat × Nat × mG
def V (X : mX) (bc bs pc : Nat) (L : List (Option Value)) (st : List Value) (M : mM) : Prop := match X with
  | (p, e, R, s, m, args, below, meth, c, Q, mc, ms, G) => ∀ (H : Heap) (locs : List Loc) (cells slots : Nat) (ls : Array Slot), mR G M H locs → cells + bc ≤ mc → slots + bs ≤ ms → mL ls L → W p G.1 e R s m args below meth c H locs cells slots Q (F0 m pc ls st)
/-- a method: its name, code, locals, answer, height -/
abbrev mI : Type := MethodName × ByteArray × Nat × Option FieldType × Nat
/-- what every row needs of an activation -/
def Cx (X : mX) (G : mG) (I : mI) : Prop := match X with
  | (p, _, R, s, m, args, _, meth, c, _, mc, ms, G') => G' = G ∧ p.tables.exec = Jvm.exec ∧ c.code = I.2.1 ∧ c.maxLocals = I.2.2.1 ∧ meth.sig.returnType = I.2.2.2.1 ∧ meth.locks = false ∧ s.vm.findClass I.1.cls = some m.cls ∧ (∀ w ∈ BIG, w.before args s = true) ∧ mK G s ∧ (I.2.2.2.2 ≤ R.frames ∧ 37 * I.2.2.2.2 ≤ R.locals ∧ mc ≤ R.cells ∧ ms ≤ R.slots) ∧ (I.1.name = "<init>" → meth.name = "<init>") ∧ va_S (mAf G.2.1) G.2.1 s.heap []
/-- what an activation aims at: to return with 'post' -/
def Rt (X : mX) (post : Option Value → mM → Prop) : Prop := match X with
  | (_, _, _, s, _, args, below, _, _, Q, mc, ms, G) => Q = MQ below (fun _ _ o t => ∃ r M', o = .returned r ∧ post r M' ∧ mR G M' t.heap []) args s mc ms (mAf G.2.1)
def mRoom (h mc ms : Nat) : Room := { frames := h, cells := mc, slots := ms, locals := 37 * h }
/-- a contract at given arguments and memory -/
def CC (G : mG) (I : mI) (mc ms : Nat) (As : List Value) (M : mM) (post : Option Value → mM → Prop) : Prop :=
  Met G.1 I.1 (.code I.1 I.2.1 I.2.2.1 I.2.2.2.1 :: BIG) (mRoom I.2.2.2.2 mc ms) (fun v U => v = As.toArray ∧ mR G M U.heap [] ∧ mK G U) (fun _ _ o t => ∃ r M', o = .returned r ∧ post r M' ∧ mR G M' t.heap []) mc ms (mAf G.2.1)
/-! rows of the layer: the lists that the kit's rows ask for -/
def mW (KA : Nat → ClassId) (M : mM) (n : Nat) (f : Nat → Bool) : va_W := (List.range n).filterMap (fun b => match M b with
  | some (t, e) => if t ≠ 0 ∧ f b = true then some (b, mv KA e) else none
  | none => none)
theorem mW_mem {KA : Nat → ClassId} {M : mM} {n : Nat} {f : Nat → Bool} {q : Nat × va_E} : q ∈ mW KA M n f ↔ q.1 < n ∧ f q.1 = true ∧ ∃ t e, M q.1 = some (t, e) ∧ t ≠ 0 ∧ q.2 = mv KA e := by
  unfold mW
  rw [List.mem_filterMap]
  constructor
  · rintro ⟨b, hb, h⟩
    cases hM : M b with
    | none => rw [hM] at h; cases h
    | some te =>
      obtain ⟨t, e⟩ := te
      rw [hM] at h
      by_cases hc : t ≠ 0 ∧ f b = true
      · simp only [if_pos hc] at h
        cases h
        exact ⟨List.mem_range.mp hb, hc.2, t, e, hM, hc.1, rfl⟩
      · simp only [if_neg hc] at h
        cases h
  · rintro ⟨h1, h2, t, e, h3, h4, h5⟩
    refine ⟨q.1, List.mem_range.mpr h1, ?_⟩
    rw [h3]
    simp only [if_pos (show t ≠ 0 ∧ f q.1 = true from ⟨h4, h2⟩)]
    rw [← h5]
theorem mW_pair (KA : Nat → ClassId) (M : mM) (n : Nat) (f : Nat → Bool) : (mW KA M n f).Pairwise (fun p q => p.1 ≠ q.1) := by
  unfold mW
  refine List.Pairwise.filterMap _ ?_ List.pairwise_lt_range
  intro a a' hlt b hb b' hb'
  have key : ∀ (x : Nat) (y : Nat × va_E), (match M x with
      | some (t, e) => if t ≠ 0 ∧ f x = true then some (x, mv KA e) else none
      | none => none) = some y → y.1 = x := by
    intro x y h
    cases hM : M x with
    | none => rw [hM] at h; cases h
    | some te =>
      obtain ⟨t, e⟩ := te
      rw [hM] at h
      by_cases hc : t ≠ 0 ∧ f x = true
      · simp only [if_pos hc] at h
        cases h
        rfl
      · simp only [if_neg hc] at h
        cases h
  rw [key a b hb, key a' b' hb']
  omega
theorem va_D_of {A : Nat → Prop} {ws : va_W} (h : ws.Pairwise (fun p q => p.1 ≠ q.1)) (hA : ∀ q ∈ ws, A q.1) : va_D A ws := by
  refine ⟨fun i j p q hi hj e => ?_, fun k q hk => hA q (List.mem_of_getElem? hk)⟩
  have key : ∀ (i j : Nat) (p q : Nat × va_E), i < j → ws[i]? = some p → ws[j]? = some q → p.1 ≠ q.1 := by
    intro i j p q hij hi hj
    obtain ⟨li, ei⟩ := List.getElem?_eq_some_iff.mp hi
    obtain ⟨lj, ej⟩ := List.getElem?_eq_some_iff.mp hj
    have := List.pairwise_iff_getElem.mp h i j li lj hij
    rw [ei, ej] at this
    exact this
  rcases Nat.lt_trichotomy i j with h1 | h1 | h1
  · exact absurd e (key i j p q h1 hi hj)
  · exact h1
  · exact absurd e.symm (key j i q p h1 hj hi)
theorem mW_P {G : mG} {M : mM} {H : Heap} {locs : List Loc} {n : Nat} {f : Nat → Bool} (h : mR G M H locs) : va_P G.2.2.1 vwCl (mW G.2.2.2.1 M n f) H := by
  intro k q hq
  obtain ⟨-, -, t, e, h1, h0, h2⟩ := mW_mem.mp (List.mem_of_getElem? hq)
  have := (h.1 q.1 t e h1).z h0
  rw [← h2] at this
  exact this
theorem mR.lt {G : mG} {M : mM} {H : Heap} {locs : List Loc} (h : mR G M H locs) {a t : Nat} {e : mE} (ha : M a = some (t, e)) : a < H.size := (h.1 a t e ha).lt
theorem mR.none {G : mG} {M : mM} {H : Heap} {locs : List Loc} (h : mR G M H locs) {a : Nat} (ha : H.size ≤ a) : M a = none := by
  cases hM : M a with
  | none => rfl
  | some te => exact absurd (h.lt (show M a = some (te.1, te.2) from hM)) (by omega)
theorem mW_D {G : mG} {M : mM} {H : Heap} {locs : List Loc} {n : Nat} {f : Nat → Bool} (h : mR G M H locs) : va_D (mAf G.2.1) (mW G.2.2.2.1 M n f) := by
  refine va_D_of (mW_pair _ _ _ _) fun q hq => ?_
  obtain ⟨-, -, t, e, h1, h2, -⟩ := mW_mem.mp hq
  have := (h.2.1 q.1 t e h1)
  show G.2.1.size ≤ q.1
  omega
/-- a cell, and all others that may be written -/
def mWx (G : mG) (M : mM) (H : Heap) (a : Nat) : va_W := mW G.2.2.2.1 M H.size (fun b => !(b == a))
theorem mWx_P {G : mG} {M : mM} {H : Heap} {locs : List Loc} {a t : Nat} {e : mE} (h : mR G M H locs) (ha : M a = some (t, e)) (ht : t ≠ 0) : va_P G.2.2.1 vwCl ((a, mv G.2.2.2.1 e) :: mWx G M H a) H := by
  intro k q hq
  cases k with
  | zero => cases hq; exact (h.1 a t e ha).z ht
  | succ k => exact mW_P h k q hq
theorem mWx_D {G : mG} {M : mM} {H : Heap} {locs : List Loc} {a t : Nat} {e : mE} (h : mR G M H locs) (ha : M a = some (t, e)) (ht : t ≠ 0) (x : va_E) : va_D (mAf G.2.1) ((a, x) :: mWx G M H a) := by
  refine va_D_of (List.pairwise_cons.mpr ⟨fun q hq => ?_, mW_pair _ _ _ _⟩) fun q hq => ?_
  · have := (mW_mem.mp hq).2.1
    intro e
    simp only [Bool.not_eq_true', beq_eq_false_iff_ne] at this
    exact this e.symm
  · have key : ∀ b tb eb, M b = some (tb, eb) → tb ≠ 0 → mAf G.2.1 b := fun b tb eb h1 h2 => by
      have := h.2.1 b tb eb h1
      show G.2.1.size ≤ b
      omega
    rcases List.mem_cons.mp hq with rfl | hq
    · exact key a t e ha ht
    · obtain ⟨-, -, t', e', h1, h2, -⟩ := mW_mem.mp hq
      exact key _ _ _ h1 h2
theorem mR_put {G : mG} {M : mM} {H H1 : Heap} {locs locs1 : List Loc} {a t : Nat} {e e' : mE} (h : mR G M H locs) (ha : M a = some (t, e)) (ht : t ≠ 0) (hP : va_P G.2.2.1 vwCl ((a, mv G.2.2.2.1 e') :: mWx G M H a) H1) (hS : va_S (mAf G.2.1) G.2.1 H1 locs1) : mR G (mup M a (t, e')) H1 locs1 := by
  refine ⟨fun b tb eb hb => ?_, fun b tb eb hb => ?_, hS⟩
  · by_cases hba : b = a
    · subst hba
      rw [mup_s] at hb
      cases hb
      exact Or.inl ⟨ht, hP 0 _ rfl⟩
    · rw [mup_n hba] at hb
      by_cases h0 : tb = 0
      · have hlt := (h.2.1 b tb eb hb).mp h0
        refine (h.1 b tb eb hb).kept ?_
        have hn : ¬ mAf G.2.1 b := by show ¬ G.2.1.size ≤ b; omega
        rw [hS.2.1 b hlt hn, h.2.2.2.1 b hlt hn]
      · have hm : (b, mv G.2.2.2.1 eb) ∈ mWx G M H a := mW_mem.mpr ⟨h.lt hb, by simpa using hba, tb, eb, hb, h0, rfl⟩
        obtain ⟨k, hk⟩ := List.mem_iff_getElem?.mp hm
        exact Or.inl ⟨h0, hP (k + 1) _ hk⟩
  · by_cases hba : b = a
    · subst hba
      rw [mup_s] at hb
      cases hb
      exact h.2.1 b t e ha
    · rw [mup_n hba] at hb
      exact h.2.1 b tb eb hb
theorem mR_new {G : mG} {M : mM} {H H1 : Heap} {locs locs1 : List Loc} {q t : Nat} {e : mE} (h : mR G M H locs) (ht : t ≠ 0) (hP : va_P G.2.2.1 vwCl (mW G.2.2.2.1 M H.size (fun _ => true) ++ [(q, mv G.2.2.2.1 e)]) H1) (hD : va_D (mAf G.2.1) (mW G.2.2.2.1 M H.size (fun _ => true) ++ [(q, mv G.2.2.2.1 e)])) (hS : va_S (mAf G.2.1) G.2.1 H1 locs1) : M q = none ∧ G.2.1.size ≤ q ∧ mR G (mup M q (t, e)) H1 locs1 := by
  have hl : (mW G.2.2.2.1 M H.size (fun _ => true) ++ [(q, mv G.2.2.2.1 e)])[(mW G.2.2.2.1 M H.size (fun _ => true)).length]? = some (q, mv G.2.2.2.1 e) := by simp
  have hq : G.2.1.size ≤ q := hD.2 _ _ hl
  have inW : ∀ b tb eb, M b = some (tb, eb) → tb ≠ 0 → ∃ k : Nat, k < (mW G.2.2.2.1 M H.size (fun _ => true)).length ∧ (mW G.2.2.2.1 M H.size (fun _ => true) ++ [(q, mv G.2.2.2.1 e)])[k]? = some (b, mv G.2.2.2.1 eb) := by
    intro b tb eb hb h0
    have hm : (b, mv G.2.2.2.1 eb) ∈ mW G.2.2.2.1 M H.size (fun _ => true) := mW_mem.mpr ⟨h.lt hb, rfl, tb, eb, hb, h0, rfl⟩
    obtain ⟨k, hk⟩ := List.mem_iff_getElem?.mp hm
    have hlt : k < (mW G.2.2.2.1 M H.size (fun _ => true)).length := (List.getElem?_eq_some_iff.mp hk).1
    exact ⟨k, hlt, by rw [List.getElem?_append_left hlt]; exact hk⟩
  have hnone : M q = none := by
    cases hM : M q with
    | none => rfl
    | some te =>
      obtain ⟨tq, eq⟩ := te
      exfalso
      by_cases h0 : tq = 0
      · have := (h.2.1 q tq eq hM).mp h0
        omega
      · obtain ⟨k, hlt, hk⟩ := inW q tq eq hM h0
        have := hD.1 k _ _ _ hk hl rfl
        omega
  refine ⟨hnone, hq, fun b tb eb hb => ?_, fun b tb eb hb => ?_, hS⟩
  · by_cases hba : b = q
    · subst hba
      rw [mup_s] at hb
      cases hb
      exact Or.inl ⟨ht, hP _ _ hl⟩
    · rw [mup_n hba] at hb
      by_cases h0 : tb = 0
      · have hlt := (h.2.1 b tb eb hb).mp h0
        refine (h.1 b tb eb hb).kept ?_
        have hn : ¬ mAf G.2.1 b := by show ¬ G.2.1.size ≤ b; omega
        rw [hS.2.1 b hlt hn, h.2.2.2.1 b hlt hn]
      · obtain ⟨k, hlt, hk⟩ := inW b tb eb hb h0
        exact Or.inl ⟨h0, hP k _ hk⟩
  · by_cases hba : b = q
    · subst hba
      rw [mup_s] at hb
      cases hb
      constructor
      · intro h1; exact absurd h1 ht
      · intro h1; omega
    · rw [mup_n hba] at hb
      exact h.2.1 b tb eb hb
/-- a cell's ghost tag may change -/
theorem mR_tag {G : mG} {M : mM} {H : Heap} {locs : List Loc} {a t t' : Nat} {e : mE} (h : mR G M H locs) (ha : M a = some (t, e)) (ht : t ≠ 0) (ht' : t' ≠ 0) : mR G (mup M a (t', e)) H locs := by
  refine ⟨fun b tb eb hb => ?_, fun b tb eb hb => ?_, h.2.2⟩
  · by_cases hba : b = a
    · subst hba
      rw [mup_s] at hb
      cases hb
      exact Or.inl ⟨ht', (h.1 b t e ha).z ht⟩
    · rw [mup_n hba] at hb
      exact h.1 b tb eb hb
  · by_cases hba : b = a
    · subst hba
      rw [mup_s] at hb
      cases hb
      have := h.2.1 b t e ha
      constructor
      · intro h1; exact absurd h1 ht'
      · intro h1; exact absurd (this.mpr h1) ht
    · rw [mup_n hba] at hb
      exact h.2.1 b tb eb hb
theorem mR.ret {G : mG} {M : mM} {H : Heap} {locs : List Loc} (h : mR G M H locs) : mR G M H [] := ⟨h.1, h.2.1, h.2.2.1, h.2.2.2.1, fun l hl => by cases hl⟩
/-- a contract out of the walk of its body -/
theorem CC.of {G : mG} {I : mI} {mc ms : Nat} {As : List Value} {M : mM} {post : Option Value → mM → Prop} (hy : plainName I.1.cls = true) (hlen : (lg_sl As).length ≤ I.2.2.1) (hA : (mA I.2.2.1 As).length = I.2.2.1)
    (body : ∀ X : mX, Cx X G I → Rt X post → V X mc ms 0 (mA I.2.2.1 As) [] M) : CC G I mc ms As M post := by
  refine Met.ofW (cc := I.2.1) (maxL := I.2.2.1) (ret := I.2.2.2.1) hy rfl ?_
  intro p e s m args below meth c s₁ B hml hv
  obtain ⟨rfl, hR, hK⟩ := hv
  have hts0 := atoms_spec (ws := .code I.1 I.2.1 I.2.2.1 I.2.2.2.1 :: BIG) B.pre
  rw [lg_entry_eq]
  have hl := lv_entry As hlen
  have hl2 : mL ((lg_sl As ++ List.replicate (I.2.2.1 - (lg_sl As).length) Slot.unset).toArray) (mA I.2.2.1 As) := by
    unfold mL
    rw [hA]
    refine ⟨hl.1, hl.2.1, fun q hq => hl.2.2 q ?_⟩
    have := mA_in As I.2.2.1 0 q.1 q.2 (mP_mem.mp hq)
    rw [Nat.zero_add] at this
    exact this
  exact body (p, e, (headSpec (.code I.1 I.2.1 I.2.2.1 I.2.2.2.1 :: BIG) (mRoom I.2.2.2.2 mc ms)).room, s, m, As.toArray, below, meth, c, MQ below (fun _ _ o t => ∃ r M', o = .returned r ∧ post r M' ∧ mR G M' t.heap []) As.toArray s mc ms (mAf G.2.1), mc, ms, G)
    ⟨rfl, B.exec, B.bytes, hml, B.returns, B.notSynchronized, findClass_of_methodNamed B.named, fun w hw => hts0 w (List.mem_cons_of_mem _ hw), hK, ⟨Nat.le_refl _, Nat.le_refl _, Nat.le_refl _, Nat.le_refl _⟩, fun hn => (name_of_methodNamed B.named B.method).1.trans hn, hR.2.2⟩ rfl
    s.heap [] 0 0 _ hR (by omega) (by omega) hl2
theorem CC.mono {G : mG} {I : mI} {mc ms : Nat} {As : List Value} {M : mM} {post post' : Option Value → mM → Prop} (h : CC G I mc ms As M post) (hp : ∀ r M', post r M' → post' r M') : CC G I mc ms As M post' := by
  intro p e ha hc hk s m args below hf hap hP ht
  obtain ⟨k, o, h1, h2, h3, ⟨⟨r, M', e1, e2, e3⟩, h5⟩⟩ := h p e ha hc hk s m args below hf hap hP ht
  exact ⟨k, o, h1, h2, h3, ⟨⟨r, M', e1, hp r M' e2, e3⟩, h5⟩⟩
theorem V.widen {X : mX} {bc bs bc' bs' pc : Nat} {L : List (Option Value)} {st : List Value} {M : mM} (h1 : bc' ≤ bc) (h2 : bs' ≤ bs) (k : V X bc' bs' pc L st M) : V X bc bs pc L st M := by
  obtain ⟨p, e, R, s, m, args, below, meth, c, Q, mc, ms, G⟩ := X
  intro H locs cells slots ls hR hc hs hl
  exact k H locs cells slots ls hR (by omega) (by omega) hl
section RWS
theorem s_iload_n {X : mX} {G : mG} {I : mI} (C : Cx X G I) {bc bs pc : Nat} (q : Nat) {L : List (Option Value)} {st : List Value} {M : mM} {k : Fin 4} {x : Int32} (d : decode I.2.1 pc = .ok (.iload_n k, 1)) (e : pc + 1 = q) (hg : L[(k : Nat)]? = some (some (.int x))) (k : V X bc bs q L (.int x :: st) M) : V X bc bs pc L (st) M := by
  obtain ⟨p, e0, R, s, m, args, below, meth, c, Q, mc, ms, G'⟩ := X
  obtain ⟨rfl, hx, hb, hml, hr, hlk, hown, hts, hK, hroom, hini, hS0⟩ := C
  subst e
  intro H locs cells slots ls hR hc hs hl
  exact lv_iload_n hx hb d rfl (mL_get hl hg) (k H locs cells slots ls hR hc hs hl)
theorem s_iload {X : mX} {G : mG} {I : mI} (C : Cx X G I) {bc bs pc : Nat} (q : Nat) {L : List (Option Value)} {st : List Value} {M : mM} {i : Nat} {x : Int32} (d : decode I.2.1 pc = .ok (.iload i, 2)) (e : pc + 2 = q) (hg : L[i]? = some (some (.int x))) (k : V X bc bs q L (.int x :: st) M) : V X bc bs pc L (st) M := by
  obtain ⟨p, e0, R, s, m, args, below, meth, c, Q, mc, ms, G'⟩ := X
  obtain ⟨rfl, hx, hb, hml, hr, hlk, hown, hts, hK, hroom, hini, hS0⟩ := C
  subst e
  intro H locs cells slots ls hR hc hs hl
  exact lv_iload hx hb d (mL_get hl hg) (k H locs cells slots ls hR hc hs hl)
theorem s_lload_n {X : mX} {G : mG} {I : mI} (C : Cx X G I) {bc bs pc : Nat} (q : Nat) {L : List (Option Value)} {st : List Value} {M : mM} {k : Fin 4} {x : Int64} (d : decode I.2.1 pc = .ok (.lload_n k, 1)) (e : pc + 1 = q) (hg : L[(k : Nat)]? = some (some (.long x))) (k : V X bc bs q L (.long x :: st) M) : V X bc bs pc L (st) M := by
  obtain ⟨p, e0, R, s, m, args, below, meth, c, Q, mc, ms, G'⟩ := X
  obtain ⟨rfl, hx, hb, hml, hr, hlk, hown, hts, hK, hroom, hini, hS0⟩ := C
  subst e
  intro H locs cells slots ls hR hc hs hl
  exact lv_lload_n hx hb d rfl (mL_get hl hg) (k H locs cells slots ls hR hc hs hl)
theorem s_lload {X : mX} {G : mG} {I : mI} (C : Cx X G I) {bc bs pc : Nat} (q : Nat) {L : List (Option Value)} {st : List Value} {M : mM} {i : Nat} {x : Int64} (d : decode I.2.1 pc = .ok (.lload i, 2)) (e : pc + 2 = q) (hg : L[i]? = some (some (.long x))) (k : V X bc bs q L (.long x :: st) M) : V X bc bs pc L (st) M := by
  obtain ⟨p, e0, R, s, m, args, below, meth, c, Q, mc, ms, G'⟩ := X
  obtain ⟨rfl, hx, hb, hml, hr, hlk, hown, hts, hK, hroom, hini, hS0⟩ := C
  subst e
  intro H locs cells slots ls hR hc hs hl
  exact lv_lload hx hb d (mL_get hl hg) (k H locs cells slots ls hR hc hs hl)
theorem s_aload_n {X : mX} {G : mG} {I : mI} (C : Cx X G I) {bc bs pc : Nat} (q : Nat) {L : List (Option Value)} {st : List Value} {M : mM} {k : Fin 4} {x : Nat} (d : decode I.2.1 pc = .ok (.aload_n k, 1)) (e : pc + 1 = q) (hg : L[(k : Nat)]? = some (some (.ref x))) (k : V X bc bs q L (.ref x :: st) M) : V X bc bs pc L (st) M := by
  obtain ⟨p, e0, R, s, m, args, below, meth, c, Q, mc, ms, G'⟩ := X
  obtain ⟨rfl, hx, hb, hml, hr, hlk, hown, hts, hK, hroom, hini, hS0⟩ := C
  subst e
  intro H locs cells slots ls hR hc hs hl
  exact lv_aload_n hx hb d rfl (mL_get hl hg) (k H locs cells slots ls hR hc hs hl)
theorem s_aload {X : mX} {G : mG} {I : mI} (C : Cx X G I) {bc bs pc : Nat} (q : Nat) {L : List (Option Value)} {st : List Value} {M : mM} {i : Nat} {x : Nat} (d : decode I.2.1 pc = .ok (.aload i, 2)) (e : pc + 2 = q) (hg : L[i]? = some (some (.ref x))) (k : V X bc bs q L (.ref x :: st) M) : V X bc bs pc L (st) M := by
  obtain ⟨p, e0, R, s, m, args, below, meth, c, Q, mc, ms, G'⟩ := X
  obtain ⟨rfl, hx, hb, hml, hr, hlk, hown, hts, hK, hroom, hini, hS0⟩ := C
  subst e
  intro H locs cells slots ls hR hc hs hl
  exact lv_aload hx hb d (mL_get hl hg) (k H locs cells slots ls hR hc hs hl)
theorem s_aload_nN {X : mX} {G : mG} {I : mI} (C : Cx X G I) {bc bs pc : Nat} (q : Nat) {L : List (Option Value)} {st : List Value} {M : mM} {k : Fin 4} (d : decode I.2.1 pc = .ok (.aload_n k, 1)) (e : pc + 1 = q) (hg : L[(k : Nat)]? = some (some .null)) (k : V X bc bs q L (.null :: st) M) : V X bc bs pc L (st) M := by
  obtain ⟨p, e0, R, s, m, args, below, meth, c, Q, mc, ms, G'⟩ := X
  obtain ⟨rfl, hx, hb, hml, hr, hlk, hown, hts, hK, hroom, hini, hS0⟩ := C
  subst e
  intro H locs cells slots ls hR hc hs hl
  exact lv_aload_nN hx hb d rfl (mL_get hl hg) (k H locs cells slots ls hR hc hs hl)
theorem s_iconst {X : mX} {G : mG} {I : mI} (C : Cx X G I) {bc bs pc : Nat} (q : Nat) {L : List (Option Value)} {st : List Value} {M : mM} {n : Int} (v : Int32) (d : decode I.2.1 pc = .ok (.iconst n, 1)) (e : pc + 1 = q) (hv : Int32.ofInt n = v) (k : V X bc bs q L (.int v :: st) M) : V X bc bs pc L (st) M := by
  obtain ⟨p, e0, R, s, m, args, below, meth, c, Q, mc, ms, G'⟩ := X
  obtain ⟨rfl, hx, hb, hml, hr, hlk, hown, hts, hK, hroom, hini, hS0⟩ := C
  subst e
  intro H locs cells slots ls hR hc hs hl
  exact lv_iconst hx hb d hv (k H locs cells slots ls hR hc hs hl)
theorem s_bipush {X : mX} {G : mG} {I : mI} (C : Cx X G I) {bc bs pc : Nat} (q : Nat) {L : List (Option Value)} {st : List Value} {M : mM} {n : Int} (v : Int32) (d : decode I.2.1 pc = .ok (.bipush n, 2)) (e : pc + 2 = q) (hv : (Int8.ofInt n).toInt32 = v) (k : V X bc bs q L (.int v :: st) M) : V X bc bs pc L (st) M := by
  obtain ⟨p, e0, R, s, m, args, below, meth, c, Q, mc, ms, G'⟩ := X
  obtain ⟨rfl, hx, hb, hml, hr, hlk, hown, hts, hK, hroom, hini, hS0⟩ := C
  subst e
  intro H locs cells slots ls hR hc hs hl
  exact lv_bipush hx hb d hv (k H locs cells slots ls hR hc hs hl)
theorem s_sipush {X : mX} {G : mG} {I : mI} (C : Cx X G I) {bc bs pc : Nat} (q : Nat) {L : List (Option Value)} {st : List Value} {M : mM} {n : Int} (v : Int32) (d : decode I.2.1 pc = .ok (.sipush n, 3)) (e : pc + 3 = q) (hv : (Int16.ofInt n).toInt32 = v) (k : V X bc bs q L (.int v :: st) M) : V X bc bs pc L (st) M := by
  obtain ⟨p, e0, R, s, m, args, below, meth, c, Q, mc, ms, G'⟩ := X
  obtain ⟨rfl, hx, hb, hml, hr, hlk, hown, hts, hK, hroom, hini, hS0⟩ := C
  subst e
  intro H locs cells slots ls hR hc hs hl
  exact lv_sipush hx hb d hv (k H locs cells slots ls hR hc hs hl)
theorem s_lconst {X : mX} {G : mG} {I : mI} (C : Cx X G I) {bc bs pc : Nat} (q : Nat) {L : List (Option Value)} {st : List Value} {M : mM} {n : Fin 2} (v : Int64) (d : decode I.2.1 pc = .ok (.lconst n, 1)) (e : pc + 1 = q) (hv : Int64.ofNat (n : Nat) = v) (k : V X bc bs q L (.long v :: st) M) : V X bc bs pc L (st) M := by
  obtain ⟨p, e0, R, s, m, args, below, meth, c, Q, mc, ms, G'⟩ := X
  obtain ⟨rfl, hx, hb, hml, hr, hlk, hown, hts, hK, hroom, hini, hS0⟩ := C
  subst e
  intro H locs cells slots ls hR hc hs hl
  exact lv_lconst hx hb d hv (k H locs cells slots ls hR hc hs hl)
theorem s_null {X : mX} {G : mG} {I : mI} (C : Cx X G I) {bc bs pc : Nat} (q : Nat) {L : List (Option Value)} {st : List Value} {M : mM}  (d : decode I.2.1 pc = .ok (.aconst_null, 1)) (e : pc + 1 = q)  (k : V X bc bs q L (.null :: st) M) : V X bc bs pc L (st) M := by
  obtain ⟨p, e0, R, s, m, args, below, meth, c, Q, mc, ms, G'⟩ := X
  obtain ⟨rfl, hx, hb, hml, hr, hlk, hown, hts, hK, hroom, hini, hS0⟩ := C
  subst e
  intro H locs cells slots ls hR hc hs hl
  exact lv_null hx hb d (k H locs cells slots ls hR hc hs hl)
theorem s_iadd {X : mX} {G : mG} {I : mI} (C : Cx X G I) {bc bs pc : Nat} (q : Nat) {L : List (Option Value)} {st : List Value} {M : mM} {x y : Int32} (d : decode I.2.1 pc = .ok (.iadd, 1)) (e : pc + 1 = q)  (k : V X bc bs q L (.int (x + y) :: st) M) : V X bc bs pc L (.int y :: .int x :: st) M := by
  obtain ⟨p, e0, R, s, m, args, below, meth, c, Q, mc, ms, G'⟩ := X
  obtain ⟨rfl, hx, hb, hml, hr, hlk, hown, hts, hK, hroom, hini, hS0⟩ := C
  subst e
  intro H locs cells slots ls hR hc hs hl
  exact lv_iadd hx hb d (k H locs cells slots ls hR hc hs hl)
theorem s_isub {X : mX} {G : mG} {I : mI} (C : Cx X G I) {bc bs pc : Nat} (q : Nat) {L : List (Option Value)} {st : List Value} {M : mM} {x y : Int32} (d : decode I.2.1 pc = .ok (.isub, 1)) (e : pc + 1 = q)  (k : V X bc bs q L (.int (x - y) :: st) M) : V X bc bs pc L (.int y :: .int x :: st) M := by
  obtain ⟨p, e0, R, s, m, args, below, meth, c, Q, mc, ms, G'⟩ := X
  obtain ⟨rfl, hx, hb, hml, hr, hlk, hown, hts, hK, hroom, hini, hS0⟩ := C
  subst e
  intro H locs cells slots ls hR hc hs hl
  exact lv_isub hx hb d (k H locs cells slots ls hR hc hs hl)
theorem s_imul {X : mX} {G : mG} {I : mI} (C : Cx X G I) {bc bs pc : Nat} (q : Nat) {L : List (Option Value)} {st : List Value} {M : mM} {x y : Int32} (d : decode I.2.1 pc = .ok (.imul, 1)) (e : pc + 1 = q)  (k : V X bc bs q L (.int (x * y) :: st) M) : V X bc bs pc L (.int y :: .int x :: st) M := by
  obtain ⟨p, e0, R, s, m, args, below, meth, c, Q, mc, ms, G'⟩ := X
  obtain ⟨rfl, hx, hb, hml, hr, hlk, hown, hts, hK, hroom, hini, hS0⟩ := C
  subst e
  intro H locs cells slots ls hR hc hs hl
  exact lv_imul hx hb d (k H locs cells slots ls hR hc hs hl)
theorem s_iand {X : mX} {G : mG} {I : mI} (C : Cx X G I) {bc bs pc : Nat} (q : Nat) {L : List (Option Value)} {st : List Value} {M : mM} {x y : Int32} (d : decode I.2.1 pc = .ok (.iand, 1)) (e : pc + 1 = q)  (k : V X bc bs q L (.int (x &&& y) :: st) M) : V X bc bs pc L (.int y :: .int x :: st) M := by
  obtain ⟨p, e0, R, s, m, args, below, meth, c, Q, mc, ms, G'⟩ := X
  obtain ⟨rfl, hx, hb, hml, hr, hlk, hown, hts, hK, hroom, hini, hS0⟩ := C
  subst e
  intro H locs cells slots ls hR hc hs hl
  exact lv_iand hx hb d (k H locs cells slots ls hR hc hs hl)
theorem s_ior {X : mX} {G : mG} {I : mI} (C : Cx X G I) {bc bs pc : Nat} (q : Nat) {L : List (Option Value)} {st : List Value} {M : mM} {x y : Int32} (d : decode I.2.1 pc = .ok (.ior, 1)) (e : pc + 1 = q)  (k : V X bc bs q L (.int (x ||| y) :: st) M) : V X bc bs pc L (.int y :: .int x :: st) M := by
  obtain ⟨p, e0, R, s, m, args, below, meth, c, Q, mc, ms, G'⟩ := X
  obtain ⟨rfl, hx, hb, hml, hr, hlk, hown, hts, hK, hroom, hini, hS0⟩ := C
  subst e
  intro H locs cells slots ls hR hc hs hl
  exact lv_ior hx hb d (k H locs cells slots ls hR hc hs hl)
theorem s_ishl {X : mX} {G : mG} {I : mI} (C : Cx X G I) {bc bs pc : Nat} (q : Nat) {L : List (Option Value)} {st : List Value} {M : mM} {x y : Int32} (d : decode I.2.1 pc = .ok (.ishl, 1)) (e : pc + 1 = q)  (k : V X bc bs q L (.int (x <<< (y &&& 31)) :: st) M) : V X bc bs pc L (.int y :: .int x :: st) M := by
  obtain ⟨p, e0, R, s, m, args, below, meth, c, Q, mc, ms, G'⟩ := X
  obtain ⟨rfl, hx, hb, hml, hr, hlk, hown, hts, hK, hroom, hini, hS0⟩ := C
  subst e
  intro H locs cells slots ls hR hc hs hl
  exact lv_ishl hx hb d (k H locs cells slots ls hR hc hs hl)
theorem s_ishr {X : mX} {G : mG} {I : mI} (C : Cx X G I) {bc bs pc : Nat} (q : Nat) {L : List (Option Value)} {st : List Value} {M : mM} {x y : Int32} (d : decode I.2.1 pc = .ok (.ishr, 1)) (e : pc + 1 = q)  (k : V X bc bs q L (.int (x >>> (y &&& 31)) :: st) M) : V X bc bs pc L (.int y :: .int x :: st) M := by
  obtain ⟨p, e0, R, s, m, args, below, meth, c, Q, mc, ms, G'⟩ := X
  obtain ⟨rfl, hx, hb, hml, hr, hlk, hown, hts, hK, hroom, hini, hS0⟩ := C
  subst e
  intro H locs cells slots ls hR hc hs hl
  exact lv_ishr hx hb d (k H locs cells slots ls hR hc hs hl)
theorem s_ladd {X : mX} {G : mG} {I : mI} (C : Cx X G I) {bc bs pc : Nat} (q : Nat) {L : List (Option Value)} {st : List Value} {M : mM} {x y : Int64} (d : decode I.2.1 pc = .ok (.ladd, 1)) (e : pc + 1 = q)  (k : V X bc bs q L (.long (x + y) :: st) M) : V X bc bs pc L (.long y :: .long x :: st) M := by
  obtain ⟨p, e0, R, s, m, args, below, meth, c, Q, mc, ms, G'⟩ := X
  obtain ⟨rfl, hx, hb, hml, hr, hlk, hown, hts, hK, hroom, hini, hS0⟩ := C
  subst e
  intro H locs cells slots ls hR hc hs hl
  exact lv_ladd hx hb d (k H locs cells slots ls hR hc hs hl)
theorem s_lmul {X : mX} {G : mG} {I : mI} (C : Cx X G I) {bc bs pc : Nat} (q : Nat) {L : List (Option Value)} {st : List Value} {M : mM} {x y : Int64} (d : decode I.2.1 pc = .ok (.lmul, 1)) (e : pc + 1 = q)  (k : V X bc bs q L (.long (x * y) :: st) M) : V X bc bs pc L (.long y :: .long x :: st) M := by
  obtain ⟨p, e0, R, s, m, args, below, meth, c, Q, mc, ms, G'⟩ := X
  obtain ⟨rfl, hx, hb, hml, hr, hlk, hown, hts, hK, hroom, hini, hS0⟩ := C
  subst e
  intro H locs cells slots ls hR hc hs hl
  exact lv_lmul hx hb d (k H locs cells slots ls hR hc hs hl)
theorem s_land {X : mX} {G : mG} {I : mI} (C : Cx X G I) {bc bs pc : Nat} (q : Nat) {L : List (Option Value)} {st : List Value} {M : mM} {x y : Int64} (d : decode I.2.1 pc = .ok (.land, 1)) (e : pc + 1 = q)  (k : V X bc bs q L (.long (x &&& y) :: st) M) : V X bc bs pc L (.long y :: .long x :: st) M := by
  obtain ⟨p, e0, R, s, m, args, below, meth, c, Q, mc, ms, G'⟩ := X
  obtain ⟨rfl, hx, hb, hml, hr, hlk, hown, hts, hK, hroom, hini, hS0⟩ := C
  subst e
  intro H locs cells slots ls hR hc hs hl
  exact lv_land hx hb d (k H locs cells slots ls hR hc hs hl)
theorem s_irem {X : mX} {G : mG} {I : mI} (C : Cx X G I) {bc bs pc : Nat} (q : Nat) {L : List (Option Value)} {st : List Value} {M : mM} {x y : Int32} (d : decode I.2.1 pc = .ok (.irem, 1)) (e : pc + 1 = q) (hne : ¬ y = 0) (k : V X bc bs q L (.int (x - x / y * y) :: st) M) : V X bc bs pc L (.int y :: .int x :: st) M := by
  obtain ⟨p, e0, R, s, m, args, below, meth, c, Q, mc, ms, G'⟩ := X
  obtain ⟨rfl, hx, hb, hml, hr, hlk, hown, hts, hK, hroom, hini, hS0⟩ := C
  subst e
  intro H locs cells slots ls hR hc hs hl
  exact lv_irem hx hb d hne (k H locs cells slots ls hR hc hs hl)
theorem s_i2l {X : mX} {G : mG} {I : mI} (C : Cx X G I) {bc bs pc : Nat} (q : Nat) {L : List (Option Value)} {st : List Value} {M : mM} {x : Int32} (d : decode I.2.1 pc = .ok (.i2l, 1)) (e : pc + 1 = q)  (k : V X bc bs q L (.long x.toInt64 :: st) M) : V X bc bs pc L (.int x :: st) M := by
  obtain ⟨p, e0, R, s, m, args, below, meth, c, Q, mc, ms, G'⟩ := X
  obtain ⟨rfl, hx, hb, hml, hr, hlk, hown, hts, hK, hroom, hini, hS0⟩ := C
  subst e
  intro H locs cells slots ls hR hc hs hl
  exact lv_i2l hx hb d rfl (k H locs cells slots ls hR hc hs hl)
theorem s_l2i {X : mX} {G : mG} {I : mI} (C : Cx X G I) {bc bs pc : Nat} (q : Nat) {L : List (Option Value)} {st : List Value} {M : mM} {x : Int64} (d : decode I.2.1 pc = .ok (.l2i, 1)) (e : pc + 1 = q)  (k : V X bc bs q L (.int x.toInt32 :: st) M) : V X bc bs pc L (.long x :: st) M := by
  obtain ⟨p, e0, R, s, m, args, below, meth, c, Q, mc, ms, G'⟩ := X
  obtain ⟨rfl, hx, hb, hml, hr, hlk, hown, hts, hK, hroom, hini, hS0⟩ := C
  subst e
  intro H locs cells slots ls hR hc hs hl
  exact lv_l2i hx hb d rfl (k H locs cells slots ls hR hc hs hl)
theorem s_i2c {X : mX} {G : mG} {I : mI} (C : Cx X G I) {bc bs pc : Nat} (q : Nat) {L : List (Option Value)} {st : List Value} {M : mM} {x v : Int32} (d : decode I.2.1 pc = .ok (.i2c, 1)) (e : pc + 1 = q) (hv : (x.toUInt32 % 65536).toInt32 = v) (k : V X bc bs q L (.int v :: st) M) : V X bc bs pc L (.int x :: st) M := by
  obtain ⟨p, e0, R, s, m, args, below, meth, c, Q, mc, ms, G'⟩ := X
  obtain ⟨rfl, hx, hb, hml, hr, hlk, hown, hts, hK, hroom, hini, hS0⟩ := C
  subst e
  intro H locs cells slots ls hR hc hs hl
  exact lv_i2c hx hb d hv (k H locs cells slots ls hR hc hs hl)
theorem s_lshr {X : mX} {G : mG} {I : mI} (C : Cx X G I) {bc bs pc : Nat} (q : Nat) {L : List (Option Value)} {st : List Value} {M : mM} {x : Int64} {y : Int32} (d : decode I.2.1 pc = .ok (.lshr, 1)) (e : pc + 1 = q)  (k : V X bc bs q L (.long (x >>> (y.toInt64 &&& 63)) :: st) M) : V X bc bs pc L (.int y :: .long x :: st) M := by
  obtain ⟨p, e0, R, s, m, args, below, meth, c, Q, mc, ms, G'⟩ := X
  obtain ⟨rfl, hx, hb, hml, hr, hlk, hown, hts, hK, hroom, hini, hS0⟩ := C
  subst e
  intro H locs cells slots ls hR hc hs hl
  exact lv_lshr hx hb d rfl (k H locs cells slots ls hR hc hs hl)
theorem s_lcmp {X : mX} {G : mG} {I : mI} (C : Cx X G I) {bc bs pc : Nat} (q : Nat) {L : List (Option Value)} {st : List Value} {M : mM} {x y : Int64} (d : decode I.2.1 pc = .ok (.lcmp, 1)) (e : pc + 1 = q)  (k : V X bc bs q L (.int (lg_cmp x y) :: st) M) : V X bc bs pc L (.long y :: .long x :: st) M := by
  obtain ⟨p, e0, R, s, m, args, below, meth, c, Q, mc, ms, G'⟩ := X
  obtain ⟨rfl, hx, hb, hml, hr, hlk, hown, hts, hK, hroom, hini, hS0⟩ := C
  subst e
  intro H locs cells slots ls hR hc hs hl
  exact W.lcmp hx hb d (k H locs cells slots ls hR hc hs hl)
theorem s_lor {X : mX} {G : mG} {I : mI} (C : Cx X G I) {bc bs pc : Nat} (q : Nat) {L : List (Option Value)} {st : List Value} {M : mM} {x y : Int64} (d : decode I.2.1 pc = .ok (.lor, 1)) (e : pc + 1 = q)  (k : V X bc bs q L (.long (x ||| y) :: st) M) : V X bc bs pc L (.long y :: .long x :: st) M := by
  obtain ⟨p, e0, R, s, m, args, below, meth, c, Q, mc, ms, G'⟩ := X
  obtain ⟨rfl, hx, hb, hml, hr, hlk, hown, hts, hK, hroom, hini, hS0⟩ := C
  subst e
  intro H locs cells slots ls hR hc hs hl
  exact lv_lor hx hb d (k H locs cells slots ls hR hc hs hl)
theorem s_lsub {X : mX} {G : mG} {I : mI} (C : Cx X G I) {bc bs pc : Nat} (q : Nat) {L : List (Option Value)} {st : List Value} {M : mM} {x y : Int64} (d : decode I.2.1 pc = .ok (.lsub, 1)) (e : pc + 1 = q)  (k : V X bc bs q L (.long (x - y) :: st) M) : V X bc bs pc L (.long y :: .long x :: st) M := by
  obtain ⟨p, e0, R, s, m, args, below, meth, c, Q, mc, ms, G'⟩ := X
  obtain ⟨rfl, hx, hb, hml, hr, hlk, hown, hts, hK, hroom, hini, hS0⟩ := C
  subst e
  intro H locs cells slots ls hR hc hs hl
  exact lv_lsub hx hb d (k H locs cells slots ls hR hc hs hl)
theorem s_lshl {X : mX} {G : mG} {I : mI} (C : Cx X G I) {bc bs pc : Nat} (q : Nat) {L : List (Option Value)} {st : List Value} {M : mM} {x : Int64} {y : Int32} (d : decode I.2.1 pc = .ok (.lshl, 1)) (e : pc + 1 = q)  (k : V X bc bs q L (.long (x <<< (y.toInt64 &&& 63)) :: st) M) : V X bc bs pc L (.int y :: .long x :: st) M := by
  obtain ⟨p, e0, R, s, m, args, below, meth, c, Q, mc, ms, G'⟩ := X
  obtain ⟨rfl, hx, hb, hml, hr, hlk, hown, hts, hK, hroom, hini, hS0⟩ := C
  subst e
  intro H locs cells slots ls hR hc hs hl
  exact lv_lshl hx hb d rfl (k H locs cells slots ls hR hc hs hl)
theorem s_idiv {X : mX} {G : mG} {I : mI} (C : Cx X G I) {bc bs pc : Nat} (q : Nat) {L : List (Option Value)} {st : List Value} {M : mM} {x y : Int32} (d : decode I.2.1 pc = .ok (.idiv, 1)) (e : pc + 1 = q) (hne : ¬ y = 0) (k : V X bc bs q L (.int (x / y) :: st) M) : V X bc bs pc L (.int y :: .int x :: st) M := by
  obtain ⟨p, e0, R, s, m, args, below, meth, c, Q, mc, ms, G'⟩ := X
  obtain ⟨rfl, hx, hb, hml, hr, hlk, hown, hts, hK, hroom, hini, hS0⟩ := C
  subst e
  intro H locs cells slots ls hR hc hs hl
  exact lv_idiv hx hb d hne (k H locs cells slots ls hR hc hs hl)
theorem s_iaddN {X : mX} {G : mG} {I : mI} (C : Cx X G I) {bc bs pc : Nat} (q : Nat) {L : List (Option Value)} {st : List Value} {M : mM} {a b : Nat} (d : decode I.2.1 pc = .ok (.iadd, 1)) (e : pc + 1 = q)  (k : V X bc bs q L (.int (nI (a + b)) :: st) M) : V X bc bs pc L (.int (nI b) :: .int (nI a) :: st) M := by
  obtain ⟨p, e0, R, s, m, args, below, meth, c, Q, mc, ms, G'⟩ := X
  obtain ⟨rfl, hx, hb, hml, hr, hlk, hown, hts, hK, hroom, hini, hS0⟩ := C
  subst e
  intro H locs cells slots ls hR hc hs hl
  exact lv_iadd hx hb d (by rw [nI_add]; exact k H locs cells slots ls hR hc hs hl)
theorem s_isubN {X : mX} {G : mG} {I : mI} (C : Cx X G I) {bc bs pc : Nat} (q : Nat) {L : List (Option Value)} {st : List Value} {M : mM} {a b : Nat} (d : decode I.2.1 pc = .ok (.isub, 1)) (e : pc + 1 = q) (hle : b ≤ a) (k : V X bc bs q L (.int (nI (a - b)) :: st) M) : V X bc bs pc L (.int (nI b) :: .int (nI a) :: st) M := by
  obtain ⟨p, e0, R, s, m, args, below, meth, c, Q, mc, ms, G'⟩ := X
  obtain ⟨rfl, hx, hb, hml, hr, hlk, hown, hts, hK, hroom, hini, hS0⟩ := C
  subst e
  intro H locs cells slots ls hR hc hs hl
  exact lv_isub hx hb d (by rw [pk_sub hle]; exact k H locs cells slots ls hR hc hs hl)
theorem s_imulN {X : mX} {G : mG} {I : mI} (C : Cx X G I) {bc bs pc : Nat} (q : Nat) {L : List (Option Value)} {st : List Value} {M : mM} {a b : Nat} (d : decode I.2.1 pc = .ok (.imul, 1)) (e : pc + 1 = q)  (k : V X bc bs q L (.int (nI (a * b)) :: st) M) : V X bc bs pc L (.int (nI b) :: .int (nI a) :: st) M := by
  obtain ⟨p, e0, R, s, m, args, below, meth, c, Q, mc, ms, G'⟩ := X
  obtain ⟨rfl, hx, hb, hml, hr, hlk, hown, hts, hK, hroom, hini, hS0⟩ := C
  subst e
  intro H locs cells slots ls hR hc hs hl
  exact lv_imul hx hb d (by rw [pk_mul]; exact k H locs cells slots ls hR hc hs hl)
theorem s_dup {X : mX} {G : mG} {I : mI} (C : Cx X G I) {bc bs pc : Nat} (q : Nat) {L : List (Option Value)} {st : List Value} {M : mM} {va : Value} (d : decode I.2.1 pc = .ok (.dup, 1)) (e : pc + 1 = q) (hv : va.category = 1) (k : V X bc bs q L (va :: va :: st) M) : V X bc bs pc L (va :: st) M := by
  obtain ⟨p, e0, R, s, m, args, below, meth, c, Q, mc, ms, G'⟩ := X
  obtain ⟨rfl, hx, hb, hml, hr, hlk, hown, hts, hK, hroom, hini, hS0⟩ := C
  subst e
  intro H locs cells slots ls hR hc hs hl
  exact lv_dup hx hb d hv (k H locs cells slots ls hR hc hs hl)
theorem s_pop {X : mX} {G : mG} {I : mI} (C : Cx X G I) {bc bs pc : Nat} (q : Nat) {L : List (Option Value)} {st : List Value} {M : mM} {va : Value} (d : decode I.2.1 pc = .ok (.pop, 1)) (e : pc + 1 = q) (hv : va.category = 1) (k : V X bc bs q L (st) M) : V X bc bs pc L (va :: st) M := by
  obtain ⟨p, e0, R, s, m, args, below, meth, c, Q, mc, ms, G'⟩ := X
  obtain ⟨rfl, hx, hb, hml, hr, hlk, hown, hts, hK, hroom, hini, hS0⟩ := C
  subst e
  intro H locs cells slots ls hR hc hs hl
  exact lv_pop hx hb d hv (k H locs cells slots ls hR hc hs hl)
theorem s_dup_x1 {X : mX} {G : mG} {I : mI} (C : Cx X G I) {bc bs pc : Nat} (q : Nat) {L : List (Option Value)} {st : List Value} {M : mM} {va vb : Value} (d : decode I.2.1 pc = .ok (.dup_x1, 1)) (e : pc + 1 = q) (hv : va.category = 1) (hw : vb.category = 1) (k : V X bc bs q L (va :: vb :: va :: st) M) : V X bc bs pc L (va :: vb :: st) M := by
  obtain ⟨p, e0, R, s, m, args, below, meth, c, Q, mc, ms, G'⟩ := X
  obtain ⟨rfl, hx, hb, hml, hr, hlk, hown, hts, hK, hroom, hini, hS0⟩ := C
  subst e
  intro H locs cells slots ls hR hc hs hl
  exact lv_dup_x1 hx hb d hv hw (k H locs cells slots ls hR hc hs hl)
theorem s_dup2 {X : mX} {G : mG} {I : mI} (C : Cx X G I) {bc bs pc : Nat} (q : Nat) {L : List (Option Value)} {st : List Value} {M : mM} {va vb : Value} (d : decode I.2.1 pc = .ok (.dup2, 1)) (e : pc + 1 = q) (hv : va.category = 1) (hw : vb.category = 1) (k : V X bc bs q L (va :: vb :: va :: vb :: st) M) : V X bc bs pc L (va :: vb :: st) M := by
  obtain ⟨p, e0, R, s, m, args, below, meth, c, Q, mc, ms, G'⟩ := X
  obtain ⟨rfl, hx, hb, hml, hr, hlk, hown, hts, hK, hroom, hini, hS0⟩ := C
  subst e
  intro H locs cells slots ls hR hc hs hl
  exact lv_dup2_11 hx hb d hv hw (k H locs cells slots ls hR hc hs hl)
theorem s_goto {X : mX} {G : mG} {I : mI} (C : Cx X G I) {bc bs pc : Nat} (q : Nat) {L : List (Option Value)} {st : List Value} {M : mM} {off : Int} (d : decode I.2.1 pc = .ok (.goto off, 3)) (e : (pc : Int) + off = (q : Int)) (k : V X bc bs q L st M) : V X bc bs pc L st M := by
  obtain ⟨p, e0, R, s, m, args, below, meth, c, Q, mc, ms, G'⟩ := X
  obtain ⟨rfl, hx, hb, hml, hr, hlk, hown, hts, hK, hroom, hini, hS0⟩ := C
  intro H locs cells slots ls hR hc hs hl
  exact lv_goto hx hb d e (k H locs cells slots ls hR hc hs hl)
theorem s_icmp_lt {X : mX} {G : mG} {I : mI} (C : Cx X G I) {bc bs pc : Nat} (t q : Nat) {L : List (Option Value)} {st : List Value} {M : mM} {x y : Int32} {off : Int} (d : decode I.2.1 pc = .ok (.if_icmp .lt off, 3)) (e : (pc : Int) + off = (t : Int)) (e2 : pc + 3 = q)  (kt : x < y → V X bc bs t L st M) (kf : ¬ x < y → V X bc bs q L st M) : V X bc bs pc L (.int y :: .int x :: st) M := by
  obtain ⟨p, e0, R, s, m, args, below, meth, c, Q, mc, ms, G'⟩ := X
  obtain ⟨rfl, hx, hb, hml, hr, hlk, hown, hts, hK, hroom, hini, hS0⟩ := C
  subst e2
  intro H locs cells slots ls hR hc hs hl
  exact lv_icmp_lt hx hb d e (fun z => kt z H locs cells slots ls hR hc hs hl) (fun z => kf z H locs cells slots ls hR hc hs hl)
theorem s_if_lt {X : mX} {G : mG} {I : mI} (C : Cx X G I) {bc bs pc : Nat} (t q : Nat) {L : List (Option Value)} {st : List Value} {M : mM} {x : Int32} {off : Int} (d : decode I.2.1 pc = .ok (.ifCond .lt off, 3)) (e : (pc : Int) + off = (t : Int)) (e2 : pc + 3 = q)  (kt : x < 0 → V X bc bs t L st M) (kf : ¬ x < 0 → V X bc bs q L st M) : V X bc bs pc L (.int x :: st) M := by
  obtain ⟨p, e0, R, s, m, args, below, meth, c, Q, mc, ms, G'⟩ := X
  obtain ⟨rfl, hx, hb, hml, hr, hlk, hown, hts, hK, hroom, hini, hS0⟩ := C
  subst e2
  intro H locs cells slots ls hR hc hs hl
  exact lv_if_lt hx hb d e (fun z => kt z H locs cells slots ls hR hc hs hl) (fun z => kf z H locs cells slots ls hR hc hs hl)
theorem s_icmp_ge {X : mX} {G : mG} {I : mI} (C : Cx X G I) {bc bs pc : Nat} (t q : Nat) {L : List (Option Value)} {st : List Value} {M : mM} {x y : Int32} {off : Int} (d : decode I.2.1 pc = .ok (.if_icmp .ge off, 3)) (e : (pc : Int) + off = (t : Int)) (e2 : pc + 3 = q)  (kt : y ≤ x → V X bc bs t L st M) (kf : ¬ y ≤ x → V X bc bs q L st M) : V X bc bs pc L (.int y :: .int x :: st) M := by
  obtain ⟨p, e0, R, s, m, args, below, meth, c, Q, mc, ms, G'⟩ := X
  obtain ⟨rfl, hx, hb, hml, hr, hlk, hown, hts, hK, hroom, hini, hS0⟩ := C
  subst e2
  intro H locs cells slots ls hR hc hs hl
  exact lv_icmp_ge hx hb d e (fun z => kt z H locs cells slots ls hR hc hs hl) (fun z => kf z H locs cells slots ls hR hc hs hl)
theorem s_if_ge {X : mX} {G : mG} {I : mI} (C : Cx X G I) {bc bs pc : Nat} (t q : Nat) {L : List (Option Value)} {st : List Value} {M : mM} {x : Int32} {off : Int} (d : decode I.2.1 pc = .ok (.ifCond .ge off, 3)) (e : (pc : Int) + off = (t : Int)) (e2 : pc + 3 = q)  (kt : 0 ≤ x → V X bc bs t L st M) (kf : ¬ 0 ≤ x → V X bc bs q L st M) : V X bc bs pc L (.int x :: st) M := by
  obtain ⟨p, e0, R, s, m, args, below, meth, c, Q, mc, ms, G'⟩ := X
  obtain ⟨rfl, hx, hb, hml, hr, hlk, hown, hts, hK, hroom, hini, hS0⟩ := C
  subst e2
  intro H locs cells slots ls hR hc hs hl
  exact lv_if_ge hx hb d e (fun z => kt z H locs cells slots ls hR hc hs hl) (fun z => kf z H locs cells slots ls hR hc hs hl)
theorem s_icmp_gt {X : mX} {G : mG} {I : mI} (C : Cx X G I) {bc bs pc : Nat} (t q : Nat) {L : List (Option Value)} {st : List Value} {M : mM} {x y : Int32} {off : Int} (d : decode I.2.1 pc = .ok (.if_icmp .gt off, 3)) (e : (pc : Int) + off = (t : Int)) (e2 : pc + 3 = q)  (kt : y < x → V X bc bs t L st M) (kf : ¬ y < x → V X bc bs q L st M) : V X bc bs pc L (.int y :: .int x :: st) M := by
  obtain ⟨p, e0, R, s, m, args, below, meth, c, Q, mc, ms, G'⟩ := X
  obtain ⟨rfl, hx, hb, hml, hr, hlk, hown, hts, hK, hroom, hini, hS0⟩ := C
  subst e2
  intro H locs cells slots ls hR hc hs hl
  exact lv_icmp_gt hx hb d e (fun z => kt z H locs cells slots ls hR hc hs hl) (fun z => kf z H locs cells slots ls hR hc hs hl)
theorem s_if_gt {X : mX} {G : mG} {I : mI} (C : Cx X G I) {bc bs pc : Nat} (t q : Nat) {L : List (Option Value)} {st : List Value} {M : mM} {x : Int32} {off : Int} (d : decode I.2.1 pc = .ok (.ifCond .gt off, 3)) (e : (pc : Int) + off = (t : Int)) (e2 : pc + 3 = q)  (kt : 0 < x → V X bc bs t L st M) (kf : ¬ 0 < x → V X bc bs q L st M) : V X bc bs pc L (.int x :: st) M := by
  obtain ⟨p, e0, R, s, m, args, below, meth, c, Q, mc, ms, G'⟩ := X
  obtain ⟨rfl, hx, hb, hml, hr, hlk, hown, hts, hK, hroom, hini, hS0⟩ := C
  subst e2
  intro H locs cells slots ls hR hc hs hl
  exact lv_if_gt hx hb d e (fun z => kt z H locs cells slots ls hR hc hs hl) (fun z => kf z H locs cells slots ls hR hc hs hl)
theorem s_icmp_le {X : mX} {G : mG} {I : mI} (C : Cx X G I) {bc bs pc : Nat} (t q : Nat) {L : List (Option Value)} {st : List Value} {M : mM} {x y : Int32} {off : Int} (d : decode I.2.1 pc = .ok (.if_icmp .le off, 3)) (e : (pc : Int) + off = (t : Int)) (e2 : pc + 3 = q)  (kt : x ≤ y → V X bc bs t L st M) (kf : ¬ x ≤ y → V X bc bs q L st M) : V X bc bs pc L (.int y :: .int x :: st) M := by
  obtain ⟨p, e0, R, s, m, args, below, meth, c, Q, mc, ms, G'⟩ := X
  obtain ⟨rfl, hx, hb, hml, hr, hlk, hown, hts, hK, hroom, hini, hS0⟩ := C
  subst e2
  intro H locs cells slots ls hR hc hs hl
  exact lv_icmp_le hx hb d e (fun z => kt z H locs cells slots ls hR hc hs hl) (fun z => kf z H locs cells slots ls hR hc hs hl)
theorem s_if_le {X : mX} {G : mG} {I : mI} (C : Cx X G I) {bc bs pc : Nat} (t q : Nat) {L : List (Option Value)} {st : List Value} {M : mM} {x : Int32} {off : Int} (d : decode I.2.1 pc = .ok (.ifCond .le off, 3)) (e : (pc : Int) + off = (t : Int)) (e2 : pc + 3 = q)  (kt : x ≤ 0 → V X bc bs t L st M) (kf : ¬ x ≤ 0 → V X bc bs q L st M) : V X bc bs pc L (.int x :: st) M := by
  obtain ⟨p, e0, R, s, m, args, below, meth, c, Q, mc, ms, G'⟩ := X
  obtain ⟨rfl, hx, hb, hml, hr, hlk, hown, hts, hK, hroom, hini, hS0⟩ := C
  subst e2
  intro H locs cells slots ls hR hc hs hl
  exact lv_if_le hx hb d e (fun z => kt z H locs cells slots ls hR hc hs hl) (fun z => kf z H locs cells slots ls hR hc hs hl)
theorem s_icmp_eq {X : mX} {G : mG} {I : mI} (C : Cx X G I) {bc bs pc : Nat} (t q : Nat) {L : List (Option Value)} {st : List Value} {M : mM} {x y : Int32} {off : Int} (d : decode I.2.1 pc = .ok (.if_icmp .eq off, 3)) (e : (pc : Int) + off = (t : Int)) (e2 : pc + 3 = q)  (kt : x = y → V X bc bs t L st M) (kf : ¬ x = y → V X bc bs q L st M) : V X bc bs pc L (.int y :: .int x :: st) M := by
  obtain ⟨p, e0, R, s, m, args, below, meth, c, Q, mc, ms, G'⟩ := X
  obtain ⟨rfl, hx, hb, hml, hr, hlk, hown, hts, hK, hroom, hini, hS0⟩ := C
  subst e2
  intro H locs cells slots ls hR hc hs hl
  exact lv_icmp_eq hx hb d e (fun z => kt z H locs cells slots ls hR hc hs hl) (fun z => kf z H locs cells slots ls hR hc hs hl)
theorem s_if_eq {X : mX} {G : mG} {I : mI} (C : Cx X G I) {bc bs pc : Nat} (t q : Nat) {L : List (Option Value)} {st : List Value} {M : mM} {x : Int32} {off : Int} (d : decode I.2.1 pc = .ok (.ifCond .eq off, 3)) (e : (pc : Int) + off = (t : Int)) (e2 : pc + 3 = q)  (kt : x = 0 → V X bc bs t L st M) (kf : ¬ x = 0 → V X bc bs q L st M) : V X bc bs pc L (.int x :: st) M := by
  obtain ⟨p, e0, R, s, m, args, below, meth, c, Q, mc, ms, G'⟩ := X
  obtain ⟨rfl, hx, hb, hml, hr, hlk, hown, hts, hK, hroom, hini, hS0⟩ := C
  subst e2
  intro H locs cells slots ls hR hc hs hl
  exact lv_if_eq hx hb d e (fun z => kt z H locs cells slots ls hR hc hs hl) (fun z => kf z H locs cells slots ls hR hc hs hl)
theorem s_icmp_ne {X : mX} {G : mG} {I : mI} (C : Cx X G I) {bc bs pc : Nat} (t q : Nat) {L : List (Option Value)} {st : List Value} {M : mM} {x y : Int32} {off : Int} (d : decode I.2.1 pc = .ok (.if_icmp .ne off, 3)) (e : (pc : Int) + off = (t : Int)) (e2 : pc + 3 = q)  (kt : ¬ x = y → V X bc bs t L st M) (kf : x = y → V X bc bs q L st M) : V X bc bs pc L (.int y :: .int x :: st) M := by
  obtain ⟨p, e0, R, s, m, args, below, meth, c, Q, mc, ms, G'⟩ := X
  obtain ⟨rfl, hx, hb, hml, hr, hlk, hown, hts, hK, hroom, hini, hS0⟩ := C
  subst e2
  intro H locs cells slots ls hR hc hs hl
  exact lv_icmp_ne hx hb d e (fun z => kt z H locs cells slots ls hR hc hs hl) (fun z => kf z H locs cells slots ls hR hc hs hl)
theorem s_if_ne {X : mX} {G : mG} {I : mI} (C : Cx X G I) {bc bs pc : Nat} (t q : Nat) {L : List (Option Value)} {st : List Value} {M : mM} {x : Int32} {off : Int} (d : decode I.2.1 pc = .ok (.ifCond .ne off, 3)) (e : (pc : Int) + off = (t : Int)) (e2 : pc + 3 = q)  (kt : ¬ x = 0 → V X bc bs t L st M) (kf : x = 0 → V X bc bs q L st M) : V X bc bs pc L (.int x :: st) M := by
  obtain ⟨p, e0, R, s, m, args, below, meth, c, Q, mc, ms, G'⟩ := X
  obtain ⟨rfl, hx, hb, hml, hr, hlk, hown, hts, hK, hroom, hini, hS0⟩ := C
  subst e2
  intro H locs cells slots ls hR hc hs hl
  exact lv_if_ne hx hb d e (fun z => kt z H locs cells slots ls hR hc hs hl) (fun z => kf z H locs cells slots ls hR hc hs hl)
theorem s_icmp_ltN {X : mX} {G : mG} {I : mI} (C : Cx X G I) {bc bs pc : Nat} (t q : Nat) {L : List (Option Value)} {st : List Value} {M : mM} {a b : Nat} {off : Int} (d : decode I.2.1 pc = .ok (.if_icmp .lt off, 3)) (e : (pc : Int) + off = (t : Int)) (e2 : pc + 3 = q) (ha : a < 2 ^ 31) (hb2 : b < 2 ^ 31) (kt : a < b → V X bc bs t L st M) (kf : b ≤ a → V X bc bs q L st M) : V X bc bs pc L (.int (nI b) :: .int (nI a) :: st) M := by
  obtain ⟨p, e0, R, s, m, args, below, meth, c, Q, mc, ms, G'⟩ := X
  obtain ⟨rfl, hx, hb, hml, hr, hlk, hown, hts, hK, hroom, hini, hS0⟩ := C
  subst e2
  intro H locs cells slots ls hR hc hs hl
  exact lv_icmp_lt hx hb d e (fun z => kt ((nI_ltI ha hb2).mp z) H locs cells slots ls hR hc hs hl) (fun z => kf (Nat.le_of_not_lt (fun w => z ((nI_ltI ha hb2).mpr w))) H locs cells slots ls hR hc hs hl)
theorem s_icmp_geN {X : mX} {G : mG} {I : mI} (C : Cx X G I) {bc bs pc : Nat} (t q : Nat) {L : List (Option Value)} {st : List Value} {M : mM} {a b : Nat} {off : Int} (d : decode I.2.1 pc = .ok (.if_icmp .ge off, 3)) (e : (pc : Int) + off = (t : Int)) (e2 : pc + 3 = q) (ha : a < 2 ^ 31) (hb2 : b < 2 ^ 31) (kt : b ≤ a → V X bc bs t L st M) (kf : a < b → V X bc bs q L st M) : V X bc bs pc L (.int (nI b) :: .int (nI a) :: st) M := by
  obtain ⟨p, e0, R, s, m, args, below, meth, c, Q, mc, ms, G'⟩ := X
  obtain ⟨rfl, hx, hb, hml, hr, hlk, hown, hts, hK, hroom, hini, hS0⟩ := C
  subst e2
  intro H locs cells slots ls hR hc hs hl
  exact lv_icmp_ge hx hb d e (fun z => kt ((nI_leI hb2 ha).mp z) H locs cells slots ls hR hc hs hl) (fun z => kf (Nat.lt_of_not_le (fun w => z ((nI_leI hb2 ha).mpr w))) H locs cells slots ls hR hc hs hl)
theorem s_icmp_gtN {X : mX} {G : mG} {I : mI} (C : Cx X G I) {bc bs pc : Nat} (t q : Nat) {L : List (Option Value)} {st : List Value} {M : mM} {a b : Nat} {off : Int} (d : decode I.2.1 pc = .ok (.if_icmp .gt off, 3)) (e : (pc : Int) + off = (t : Int)) (e2 : pc + 3 = q) (ha : a < 2 ^ 31) (hb2 : b < 2 ^ 31) (kt : b < a → V X bc bs t L st M) (kf : a ≤ b → V X bc bs q L st M) : V X bc bs pc L (.int (nI b) :: .int (nI a) :: st) M := by
  obtain ⟨p, e0, R, s, m, args, below, meth, c, Q, mc, ms, G'⟩ := X
  obtain ⟨rfl, hx, hb, hml, hr, hlk, hown, hts, hK, hroom, hini, hS0⟩ := C
  subst e2
  intro H locs cells slots ls hR hc hs hl
  exact lv_icmp_gt hx hb d e (fun z => kt ((nI_ltI hb2 ha).mp z) H locs cells slots ls hR hc hs hl) (fun z => kf (Nat.le_of_not_lt (fun w => z ((nI_ltI hb2 ha).mpr w))) H locs cells slots ls hR hc hs hl)
theorem s_icmp_leN {X : mX} {G : mG} {I : mI} (C : Cx X G I) {bc bs pc : Nat} (t q : Nat) {L : List (Option Value)} {st : List Value} {M : mM} {a b : Nat} {off : Int} (d : decode I.2.1 pc = .ok (.if_icmp .le off, 3)) (e : (pc : Int) + off = (t : Int)) (e2 : pc + 3 = q) (ha : a < 2 ^ 31) (hb2 : b < 2 ^ 31) (kt : a ≤ b → V X bc bs t L st M) (kf : b < a → V X bc bs q L st M) : V X bc bs pc L (.int (nI b) :: .int (nI a) :: st) M := by
  obtain ⟨p, e0, R, s, m, args, below, meth, c, Q, mc, ms, G'⟩ := X
  obtain ⟨rfl, hx, hb, hml, hr, hlk, hown, hts, hK, hroom, hini, hS0⟩ := C
  subst e2
  intro H locs cells slots ls hR hc hs hl
  exact lv_icmp_le hx hb d e (fun z => kt ((nI_leI ha hb2).mp z) H locs cells slots ls hR hc hs hl) (fun z => kf (Nat.lt_of_not_le (fun w => z ((nI_leI ha hb2).mpr w))) H locs cells slots ls hR hc hs hl)
theorem s_icmp_eqN {X : mX} {G : mG} {I : mI} (C : Cx X G I) {bc bs pc : Nat} (t q : Nat) {L : List (Option Value)} {st : List Value} {M : mM} {a b : Nat} {off : Int} (d : decode I.2.1 pc = .ok (.if_icmp .eq off, 3)) (e : (pc : Int) + off = (t : Int)) (e2 : pc + 3 = q) (ha : a < 2 ^ 31) (hb2 : b < 2 ^ 31) (kt : a = b → V X bc bs t L st M) (kf : a ≠ b → V X bc bs q L st M) : V X bc bs pc L (.int (nI b) :: .int (nI a) :: st) M := by
  obtain ⟨p, e0, R, s, m, args, below, meth, c, Q, mc, ms, G'⟩ := X
  obtain ⟨rfl, hx, hb, hml, hr, hlk, hown, hts, hK, hroom, hini, hS0⟩ := C
  subst e2
  intro H locs cells slots ls hR hc hs hl
  exact lv_icmp_eq hx hb d e (fun z => kt ((nI_eq ha hb2).mp z) H locs cells slots ls hR hc hs hl) (fun z => kf (fun w => z ((nI_eq ha hb2).mpr w)) H locs cells slots ls hR hc hs hl)
theorem s_icmp_neN {X : mX} {G : mG} {I : mI} (C : Cx X G I) {bc bs pc : Nat} (t q : Nat) {L : List (Option Value)} {st : List Value} {M : mM} {a b : Nat} {off : Int} (d : decode I.2.1 pc = .ok (.if_icmp .ne off, 3)) (e : (pc : Int) + off = (t : Int)) (e2 : pc + 3 = q) (ha : a < 2 ^ 31) (hb2 : b < 2 ^ 31) (kt : a ≠ b → V X bc bs t L st M) (kf : a = b → V X bc bs q L st M) : V X bc bs pc L (.int (nI b) :: .int (nI a) :: st) M := by
  obtain ⟨p, e0, R, s, m, args, below, meth, c, Q, mc, ms, G'⟩ := X
  obtain ⟨rfl, hx, hb, hml, hr, hlk, hown, hts, hK, hroom, hini, hS0⟩ := C
  subst e2
  intro H locs cells slots ls hR hc hs hl
  exact lv_icmp_ne hx hb d e (fun z => kt (fun w => z ((nI_eq ha hb2).mpr w)) H locs cells slots ls hR hc hs hl) (fun z => kf ((nI_eq ha hb2).mp z) H locs cells slots ls hR hc hs hl)
theorem s_if_eqN {X : mX} {G : mG} {I : mI} (C : Cx X G I) {bc bs pc : Nat} (t q : Nat) {L : List (Option Value)} {st : List Value} {M : mM} {a : Nat} {off : Int} (d : decode I.2.1 pc = .ok (.ifCond .eq off, 3)) (e : (pc : Int) + off = (t : Int)) (e2 : pc + 3 = q) (ha : a < 2 ^ 31) (kt : a = 0 → V X bc bs t L st M) (kf : a ≠ 0 → V X bc bs q L st M) : V X bc bs pc L (.int (nI a) :: st) M := by
  obtain ⟨p, e0, R, s, m, args, below, meth, c, Q, mc, ms, G'⟩ := X
  obtain ⟨rfl, hx, hb, hml, hr, hlk, hown, hts, hK, hroom, hini, hS0⟩ := C
  subst e2
  intro H locs cells slots ls hR hc hs hl
  exact lv_if_eq hx hb d e (fun z => kt ((nI_eq ha (by omega)).mp (z.trans nI_0.symm)) H locs cells slots ls hR hc hs hl) (fun z => kf (fun w => z (by rw [w]; exact nI_0)) H locs cells slots ls hR hc hs hl)
theorem s_if_neN {X : mX} {G : mG} {I : mI} (C : Cx X G I) {bc bs pc : Nat} (t q : Nat) {L : List (Option Value)} {st : List Value} {M : mM} {a : Nat} {off : Int} (d : decode I.2.1 pc = .ok (.ifCond .ne off, 3)) (e : (pc : Int) + off = (t : Int)) (e2 : pc + 3 = q) (ha : a < 2 ^ 31) (kt : a ≠ 0 → V X bc bs t L st M) (kf : a = 0 → V X bc bs q L st M) : V X bc bs pc L (.int (nI a) :: st) M := by
  obtain ⟨p, e0, R, s, m, args, below, meth, c, Q, mc, ms, G'⟩ := X
  obtain ⟨rfl, hx, hb, hml, hr, hlk, hown, hts, hK, hroom, hini, hS0⟩ := C
  subst e2
  intro H locs cells slots ls hR hc hs hl
  exact lv_if_ne hx hb d e (fun z => kt (fun w => z (by rw [w]; exact nI_0)) H locs cells slots ls hR hc hs hl) (fun z => kf ((nI_eq ha (by omega)).mp (z.trans nI_0.symm)) H locs cells slots ls hR hc hs hl)
theorem s_if_gtN {X : mX} {G : mG} {I : mI} (C : Cx X G I) {bc bs pc : Nat} (t q : Nat) {L : List (Option Value)} {st : List Value} {M : mM} {a : Nat} {off : Int} (d : decode I.2.1 pc = .ok (.ifCond .gt off, 3)) (e : (pc : Int) + off = (t : Int)) (e2 : pc + 3 = q) (ha : a < 2 ^ 31) (kt : 0 < a → V X bc bs t L st M) (kf : a = 0 → V X bc bs q L st M) : V X bc bs pc L (.int (nI a) :: st) M := by
  obtain ⟨p, e0, R, s, m, args, below, meth, c, Q, mc, ms, G'⟩ := X
  obtain ⟨rfl, hx, hb, hml, hr, hlk, hown, hts, hK, hroom, hini, hS0⟩ := C
  subst e2
  intro H locs cells slots ls hR hc hs hl
  exact lv_if_gt hx hb d e (fun z => kt (Nat.pos_of_ne_zero (fun w => by rw [w, nI_0] at z; exact absurd z (by decide))) H locs cells slots ls hR hc hs hl) (fun z => kf (Nat.eq_zero_of_not_pos (fun w => z (by rw [← nI_0]; exact nI_lt w ha))) H locs cells slots ls hR hc hs hl)
theorem s_if_leN {X : mX} {G : mG} {I : mI} (C : Cx X G I) {bc bs pc : Nat} (t q : Nat) {L : List (Option Value)} {st : List Value} {M : mM} {a : Nat} {off : Int} (d : decode I.2.1 pc = .ok (.ifCond .le off, 3)) (e : (pc : Int) + off = (t : Int)) (e2 : pc + 3 = q) (ha : a < 2 ^ 31) (kt : a = 0 → V X bc bs t L st M) (kf : 0 < a → V X bc bs q L st M) : V X bc bs pc L (.int (nI a) :: st) M := by
  obtain ⟨p, e0, R, s, m, args, below, meth, c, Q, mc, ms, G'⟩ := X
  obtain ⟨rfl, hx, hb, hml, hr, hlk, hown, hts, hK, hroom, hini, hS0⟩ := C
  subst e2
  intro H locs cells slots ls hR hc hs hl
  exact lv_if_le hx hb d e (fun z => kt (Nat.eq_zero_of_not_pos (fun w => nI_nle w ha z)) H locs cells slots ls hR hc hs hl) (fun z => kf (Nat.pos_of_ne_zero (fun w => z (by rw [w, nI_0]; decide))) H locs cells slots ls hR hc hs hl)
theorem s_if_ltN {X : mX} {G : mG} {I : mI} (C : Cx X G I) {bc bs pc : Nat} (q : Nat) {L : List (Option Value)} {st : List Value} {M : mM} {a : Nat} {off : Int} {t : Nat} (d : decode I.2.1 pc = .ok (.ifCond .lt off, 3)) (e : (pc : Int) + off = (t : Int)) (e2 : pc + 3 = q) (ha : a < 2 ^ 31) (kf : V X bc bs q L st M) : V X bc bs pc L (.int (nI a) :: st) M := s_if_lt C t q d e e2 (fun z => absurd z (nI_pos ha)) (fun _ => kf)
theorem s_if_geN {X : mX} {G : mG} {I : mI} (C : Cx X G I) {bc bs pc : Nat} (t : Nat) {L : List (Option Value)} {st : List Value} {M : mM} {a : Nat} {off : Int} (d : decode I.2.1 pc = .ok (.ifCond .ge off, 3)) (e : (pc : Int) + off = (t : Int)) (ha : a < 2 ^ 31) (kt : V X bc bs t L st M) : V X bc bs pc L (.int (nI a) :: st) M := s_if_ge C t _ d e rfl (fun _ => kt) (fun z => absurd (nI_pos' ha) z)
def mB (b : Bool) : Int32 := cond b 1 0
theorem mB_0 {b : Bool} : mB b = 0 ↔ b = false := by cases b <;> decide
theorem mB_n {b : Bool} : ¬ mB b = 0 ↔ b = true := by cases b <;> decide
theorem mB_z (b : Bool) : narrow .boolean (.int (mB b)) = .int (mB b) := by cases b <;> decide
theorem s_if_eqB {X : mX} {G : mG} {I : mI} (C : Cx X G I) {bc bs pc : Nat} (t q : Nat) {L : List (Option Value)} {st : List Value} {M : mM} {b : Bool} {off : Int} (d : decode I.2.1 pc = .ok (.ifCond .eq off, 3)) (e : (pc : Int) + off = (t : Int)) (e2 : pc + 3 = q)  (kt : b = false → V X bc bs t L st M) (kf : b = true → V X bc bs q L st M) : V X bc bs pc L (.int (mB b) :: st) M := by
  obtain ⟨p, e0, R, s, m, args, below, meth, c, Q, mc, ms, G'⟩ := X
  obtain ⟨rfl, hx, hb, hml, hr, hlk, hown, hts, hK, hroom, hini, hS0⟩ := C
  subst e2
  intro H locs cells slots ls hR hc hs hl
  exact lv_if_eq hx hb d e (fun z => kt (mB_0.mp z) H locs cells slots ls hR hc hs hl) (fun z => kf (mB_n.mp z) H locs cells slots ls hR hc hs hl)
theorem s_if_neB {X : mX} {G : mG} {I : mI} (C : Cx X G I) {bc bs pc : Nat} (t q : Nat) {L : List (Option Value)} {st : List Value} {M : mM} {b : Bool} {off : Int} (d : decode I.2.1 pc = .ok (.ifCond .ne off, 3)) (e : (pc : Int) + off = (t : Int)) (e2 : pc + 3 = q)  (kt : b = true → V X bc bs t L st M) (kf : b = false → V X bc bs q L st M) : V X bc bs pc L (.int (mB b) :: st) M := by
  obtain ⟨p, e0, R, s, m, args, below, meth, c, Q, mc, ms, G'⟩ := X
  obtain ⟨rfl, hx, hb, hml, hr, hlk, hown, hts, hK, hroom, hini, hS0⟩ := C
  subst e2
  intro H locs cells slots ls hR hc hs hl
  exact lv_if_ne hx hb d e (fun z => kt (mB_n.mp z) H locs cells slots ls hR hc hs hl) (fun z => kf (mB_0.mp z) H locs cells slots ls hR hc hs hl)
theorem s_acmp_ne {X : mX} {G : mG} {I : mI} (C : Cx X G I) {bc bs pc : Nat} (t q : Nat) {L : List (Option Value)} {st : List Value} {M : mM} {x y : Nat} {off : Int} (d : decode I.2.1 pc = .ok (.if_acmp .ne off, 3)) (e : (pc : Int) + off = (t : Int)) (e2 : pc + 3 = q) (kt : ¬ x = y → V X bc bs t L st M) (kf : x = y → V X bc bs q L st M) : V X bc bs pc L (.ref y :: .ref x :: st) M := by
  obtain ⟨p, e0, R, s, m, args, below, meth, c, Q, mc, ms, G'⟩ := X
  obtain ⟨rfl, hx, hb, hml, hr, hlk, hown, hts, hK, hroom, hini, hS0⟩ := C
  subst e2
  intro H locs cells slots ls hR hc hs hl
  exact lv_acmp_ne (rx := some x) (ry := some y) hx hb d e (fun z => kt (fun w => z (by rw [w])) H locs cells slots ls hR hc hs hl) (fun z => kf (Option.some.inj z) H locs cells slots ls hR hc hs hl)
theorem s_istore_n {X : mX} {G : mG} {I : mI} (C : Cx X G I) {bc bs pc : Nat} (q : Nat) {L : List (Option Value)} {st : List Value} {M : mM} {k : Fin 4} {x : Int32} (d : decode I.2.1 pc = .ok (.istore_n k, 1)) (e : pc + 1 = q) (hk : mk2 L (k : Nat) = true) (hn0 : Nat.ble ((k : Nat) + 1) L.length = true) (k' : V X bc bs q (L.set (k : Nat) (some (.int x))) st M) : V X bc bs pc L (.int x :: st) M := by
  obtain ⟨p, e0, R, s, m, args, below, meth, c, Q, mc, ms, G'⟩ := X
  obtain ⟨rfl, hx, hb, hml, hr, hlk, hown, hts, hK, hroom, hini, hS0⟩ := C
  subst e
  intro H locs cells slots ls hR hc hs hl
  have hn := Nat.le_of_ble_eq_true hn0
  exact lv_istore_n hx hb d rfl hl hn rfl (fun ls' hl' => k' H locs cells slots ls' hR hc hs (mL_set hk hn hl'))
theorem s_istore {X : mX} {G : mG} {I : mI} (C : Cx X G I) {bc bs pc : Nat} (q : Nat) {L : List (Option Value)} {st : List Value} {M : mM} {i : Nat} {x : Int32} (d : decode I.2.1 pc = .ok (.istore i, 2)) (e : pc + 2 = q) (hk : mk2 L i = true) (hn0 : Nat.ble (i + 1) L.length = true) (k' : V X bc bs q (L.set i (some (.int x))) st M) : V X bc bs pc L (.int x :: st) M := by
  obtain ⟨p, e0, R, s, m, args, below, meth, c, Q, mc, ms, G'⟩ := X
  obtain ⟨rfl, hx, hb, hml, hr, hlk, hown, hts, hK, hroom, hini, hS0⟩ := C
  subst e
  intro H locs cells slots ls hR hc hs hl
  have hn := Nat.le_of_ble_eq_true hn0
  exact lv_istore hx hb d hl hn rfl (fun ls' hl' => k' H locs cells slots ls' hR hc hs (mL_set hk hn hl'))
theorem s_astore_n {X : mX} {G : mG} {I : mI} (C : Cx X G I) {bc bs pc : Nat} (q : Nat) {L : List (Option Value)} {st : List Value} {M : mM} {k : Fin 4} {x : Nat} (d : decode I.2.1 pc = .ok (.astore_n k, 1)) (e : pc + 1 = q) (hk : mk2 L (k : Nat) = true) (hn0 : Nat.ble ((k : Nat) + 1) L.length = true) (k' : V X bc bs q (L.set (k : Nat) (some (.ref x))) st M) : V X bc bs pc L (.ref x :: st) M := by
  obtain ⟨p, e0, R, s, m, args, below, meth, c, Q, mc, ms, G'⟩ := X
  obtain ⟨rfl, hx, hb, hml, hr, hlk, hown, hts, hK, hroom, hini, hS0⟩ := C
  subst e
  intro H locs cells slots ls hR hc hs hl
  have hn := Nat.le_of_ble_eq_true hn0
  exact lv_astore_n hx hb d rfl hl hn rfl (fun ls' hl' => k' H locs cells slots ls' hR hc hs (mL_set hk hn hl'))
theorem s_astore {X : mX} {G : mG} {I : mI} (C : Cx X G I) {bc bs pc : Nat} (q : Nat) {L : List (Option Value)} {st : List Value} {M : mM} {i : Nat} {x : Nat} (d : decode I.2.1 pc = .ok (.astore i, 2)) (e : pc + 2 = q) (hk : mk2 L i = true) (hn0 : Nat.ble (i + 1) L.length = true) (k' : V X bc bs q (L.set i (some (.ref x))) st M) : V X bc bs pc L (.ref x :: st) M := by
  obtain ⟨p, e0, R, s, m, args, below, meth, c, Q, mc, ms, G'⟩ := X
  obtain ⟨rfl, hx, hb, hml, hr, hlk, hown, hts, hK, hroom, hini, hS0⟩ := C
  subst e
  intro H locs cells slots ls hR hc hs hl
  have hn := Nat.le_of_ble_eq_true hn0
  exact lv_astore hx hb d hl hn rfl (fun ls' hl' => k' H locs cells slots ls' hR hc hs (mL_set hk hn hl'))
theorem s_lstore_n {X : mX} {G : mG} {I : mI} (C : Cx X G I) {bc bs pc : Nat} (q : Nat) {L : List (Option Value)} {st : List Value} {M : mM} {k : Fin 4} {x : Int64} (d : decode I.2.1 pc = .ok (.lstore_n k, 1)) (e : pc + 1 = q) (hk : mk2 L (k : Nat) = true) (hn0 : Nat.ble ((k : Nat) + 1 + 1) L.length = true) (k' : V X bc bs q ((L.set (k : Nat) (some (.long x))).set ((k : Nat) + 1) none) st M) : V X bc bs pc L (.long x :: st) M := by
  obtain ⟨p, e0, R, s, m, args, below, meth, c, Q, mc, ms, G'⟩ := X
  obtain ⟨rfl, hx, hb, hml, hr, hlk, hown, hts, hK, hroom, hini, hS0⟩ := C
  subst e
  intro H locs cells slots ls hR hc hs hl
  have hn := Nat.le_of_ble_eq_true hn0
  exact lv_lstore_n hx hb d rfl hl hn rfl (fun ls' hl' => k' H locs cells slots ls' hR hc hs (mL_set2 hk hn hl'))
theorem s_lstore {X : mX} {G : mG} {I : mI} (C : Cx X G I) {bc bs pc : Nat} (q : Nat) {L : List (Option Value)} {st : List Value} {M : mM} {i : Nat} {x : Int64} (d : decode I.2.1 pc = .ok (.lstore i, 2)) (e : pc + 2 = q) (hk : mk2 L i = true) (hn0 : Nat.ble (i + 1 + 1) L.length = true) (k' : V X bc bs q ((L.set i (some (.long x))).set (i + 1) none) st M) : V X bc bs pc L (.long x :: st) M := by
  obtain ⟨p, e0, R, s, m, args, below, meth, c, Q, mc, ms, G'⟩ := X
  obtain ⟨rfl, hx, hb, hml, hr, hlk, hown, hts, hK, hroom, hini, hS0⟩ := C
  subst e
  intro H locs cells slots ls hR hc hs hl
  have hn := Nat.le_of_ble_eq_true hn0
  exact lv_lstore hx hb d hl hn rfl (fun ls' hl' => k' H locs cells slots ls' hR hc hs (mL_set2 hk hn hl'))
theorem s_iinc {X : mX} {G : mG} {I : mI} (C : Cx X G I) {bc bs pc : Nat} (q : Nat) {L : List (Option Value)} {st : List Value} {M : mM} {i : Nat} {n : Int} {x : Int32} (v : Int32) (d : decode I.2.1 pc = .ok (.iinc i n, 3)) (e : pc + 3 = q) (hg : L[i]? = some (some (.int x))) (hv : x + Int32.ofInt n = v) (hk : mk2 L i = true) (k' : V X bc bs q (L.set i (some (.int v))) st M) : V X bc bs pc L st M := by
  obtain ⟨p, e0, R, s, m, args, below, meth, c, Q, mc, ms, G'⟩ := X
  obtain ⟨rfl, hx, hb, hml, hr, hlk, hown, hts, hK, hroom, hini, hS0⟩ := C
  subst e
  intro H locs cells slots ls hR hc hs hl
  have hn : i < L.length := (List.getElem?_eq_some_iff.mp hg).1
  obtain ⟨j, hj⟩ := List.mem_iff_getElem?.mp (mP_mem.mpr hg)
  exact lv_iinc hx hb d hl hj hv hn rfl (fun ls' hl' => k' H locs cells slots ls' hR hc hs (mL_set hk hn hl'))
theorem s_vret {X : mX} {G : mG} {I : mI} (C : Cx X G I) {bc bs pc : Nat} {L : List (Option Value)} {M : mM}  (d : decode I.2.1 pc = .ok (.return_, 1)) {post : Option Value → mM → Prop} (T : Rt X post) (hty : I.2.2.2.1 = none) (h : post (none) M) : V X bc bs pc L [] M := by
  obtain ⟨p, e0, R, s, m, args, below, meth, c, Q, mc, ms, G'⟩ := X
  obtain ⟨rfl, hx, hb, hml, hr, hlk, hown, hts, hK, hroom, hini, hS0⟩ := C
  have T : Q = _ := T
  subst T
  intro H locs cells slots ls hR hc hs hl
  refine W.widen (k := mc) (n := ms) (by omega) (by omega) ?_
  exact W.vret hx hb (hr.trans hty) (fun t ht _ => ⟨_, M, rfl, h, by rw [ht]; exact hR.ret⟩) hR.2.2.2.2 d hlk
theorem s_iret {X : mX} {G : mG} {I : mI} (C : Cx X G I) {bc bs pc : Nat} {L : List (Option Value)} {M : mM} {v : Int32} (d : decode I.2.1 pc = .ok (.ireturn, 1)) {post : Option Value → mM → Prop} (T : Rt X post) (hty : I.2.2.2.1 = some .int) (h : post (some (.int v)) M) : V X bc bs pc L [.int v] M := by
  obtain ⟨p, e0, R, s, m, args, below, meth, c, Q, mc, ms, G'⟩ := X
  obtain ⟨rfl, hx, hb, hml, hr, hlk, hown, hts, hK, hroom, hini, hS0⟩ := C
  have T : Q = _ := T
  subst T
  intro H locs cells slots ls hR hc hs hl
  refine W.widen (k := mc) (n := ms) (by omega) (by omega) ?_
  exact W.iret hx hb (hr.trans hty) (fun t ht _ => ⟨_, M, rfl, h, by rw [ht]; exact hR.ret⟩) hR.2.2.2.2 d hlk
theorem s_zret {X : mX} {G : mG} {I : mI} (C : Cx X G I) {bc bs pc : Nat} {L : List (Option Value)} {M : mM} {v : Int32} {ty : FieldType} (d : decode I.2.1 pc = .ok (.ireturn, 1)) {post : Option Value → mM → Prop} (T : Rt X post) (hty : I.2.2.2.1 = some ty) (hn : narrow ty (.int v) = .int v) (h : post (some (.int v)) M) : V X bc bs pc L [.int v] M := by
  obtain ⟨p, e0, R, s, m, args, below, meth, c, Q, mc, ms, G'⟩ := X
  obtain ⟨rfl, hx, hb, hml, hr, hlk, hown, hts, hK, hroom, hini, hS0⟩ := C
  have T : Q = _ := T
  subst T
  intro H locs cells slots ls hR hc hs hl
  refine W.widen (k := mc) (n := ms) (by omega) (by omega) ?_
  exact W.zret hx hb (hr.trans hty) hn (fun t ht _ => ⟨_, M, rfl, h, by rw [ht]; exact hR.ret⟩) hR.2.2.2.2 d hlk
theorem s_lret {X : mX} {G : mG} {I : mI} (C : Cx X G I) {bc bs pc : Nat} {L : List (Option Value)} {M : mM} {v : Int64} (d : decode I.2.1 pc = .ok (.lreturn, 1)) {post : Option Value → mM → Prop} (T : Rt X post) (hty : I.2.2.2.1 = some .long) (h : post (some (.long v)) M) : V X bc bs pc L [.long v] M := by
  obtain ⟨p, e0, R, s, m, args, below, meth, c, Q, mc, ms, G'⟩ := X
  obtain ⟨rfl, hx, hb, hml, hr, hlk, hown, hts, hK, hroom, hini, hS0⟩ := C
  have T : Q = _ := T
  subst T
  intro H locs cells slots ls hR hc hs hl
  refine W.widen (k := mc) (n := ms) (by omega) (by omega) ?_
  exact W.lret hx hb (hr.trans hty) (fun t ht _ => ⟨_, M, rfl, h, by rw [ht]; exact hR.ret⟩) hR.2.2.2.2 d hlk
theorem s_aret {X : mX} {G : mG} {I : mI} (C : Cx X G I) {bc bs pc : Nat} {L : List (Option Value)} {M : mM} {a : Nat} {ty : FieldType} (d : decode I.2.1 pc = .ok (.areturn, 1)) {post : Option Value → mM → Prop} (T : Rt X post) (hty : I.2.2.2.1 = some ty) (hrt : (∃ n, ty = .object n) ∨ ∃ t, ty = .array t) (h : post (some (.ref a)) M) : V X bc bs pc L [.ref a] M := by
  obtain ⟨p, e0, R, s, m, args, below, meth, c, Q, mc, ms, G'⟩ := X
  obtain ⟨rfl, hx, hb, hml, hr, hlk, hown, hts, hK, hroom, hini, hS0⟩ := C
  have T : Q = _ := T
  subst T
  intro H locs cells slots ls hR hc hs hl
  refine W.widen (k := mc) (n := ms) (by omega) (by omega) ?_
  exact W.aret hx hb (hr.trans hty) hrt (Or.inr ⟨a, rfl⟩) (fun t ht _ => ⟨_, M, rfl, h, by rw [ht]; exact hR.ret⟩) hR.2.2.2.2 d hlk
end RWS
/-! memory rows -/
/-- a field of the classes here, as a class of ours links it -/
def mF (own : String) (idx ci k : Nat) : Prop := ∃ r : vw_C, vwCl[ci]? = some r ∧ k < r.2.2 ∧ (∀ w ∈ u_ws r.1 r.2.1 r.2.2, w ∈ BIG) ∧ ∃ ref, Cond.fieldLink own idx ref (r.2.1 k).2.1 (r.2.1 k).2.2.1 ∈ BIG ∧ (ref = (r.2.1 k).1 ∨ Cond.sameField ref (r.2.1 k).1 (r.2.1 k).2.1 (r.2.1 k).2.2.1 ∈ BIG)
theorem mF_same {ref o n d : String} {s : State} {args : Array Value} (hts : ∀ w ∈ BIG, w.before args s = true) (h : ref = o ∨ Cond.sameField ref o n d ∈ BIG) : ∀ x, s.fieldFound? o n d = some x → s.fieldFound? ref n d = some x := by
  rcases h with rfl | h
  · exact fun _ h9 => h9
  · exact fun x hx => u_same (hts _ h) x hx
theorem s_getf {X : mX} {G : mG} {I : mI} (C : Cx X G I) {bc bs pc : Nat} (q : Nat) {L : List (Option Value)} {st : List Value} {M : mM} {idx ci k a t : Nat} {fs : List Value} {v : Value} (d : decode I.2.1 pc = .ok (.getfield idx, 3)) (e : pc + 3 = q) (hf : mF I.1.cls idx ci k) (hM : M a = some (t, .inl (ci, fs))) (hv : fs[k]? = some v) (h : V X bc bs q L (v :: st) M) : V X bc bs pc L (.ref a :: st) M := by
  obtain ⟨p, e0, R, s, m, args, below, meth, c, Q, mc, ms, G'⟩ := X
  obtain ⟨rfl, hx, hb, hml, hr, hlk, hown, hts, hK, hroom, hini, hS0⟩ := C
  obtain ⟨r, h1, h2, h3, ref, h4, h4s⟩ := hf
  subst e
  intro H locs cells slots ls hR hc hs hl
  exact va_get (ws := [(a, .inr (ci, fs))]) hx hb hts h3 hown hK.1 (fun k q hq => by
    cases k with
    | zero => cases hq; exact (hR.1 a t _ hM).o
    | succ k => cases hq) 0 rfl h1 k h2 (hts _ h4) (mF_same hts h4s) hv d (h H locs cells slots ls hR hc hs hl)
/-- a field that may be written: of type ty -/
def mFp (own : String) (idx ci k : Nat) (ty : FieldType) (fin : Bool) : Prop := ∃ (r : vw_C) (ty0 : Nat → FieldType), vwCl[ci]? = some r ∧ k < r.2.2 ∧ (∀ w ∈ u_ws r.1 r.2.1 r.2.2, w ∈ BIG) ∧ (∃ ref, Cond.fieldLink own idx ref (r.2.1 k).2.1 (r.2.1 k).2.2.1 ∈ BIG ∧ (ref = (r.2.1 k).1 ∨ Cond.sameField ref (r.2.1 k).1 (r.2.1 k).2.1 (r.2.1 k).2.2.1 ∈ BIG)) ∧ (∀ k, k < r.2.2 → parseFieldDescriptor (r.2.1 k).2.2.1 = some (ty0 k)) ∧ (∀ a, a < r.2.2 → ∀ b, b < r.2.2 → a ≠ b → (r.2.1 a).2.1 ≠ (r.2.1 b).2.1) ∧ ty0 k = ty ∧ (r.2.1 k).2.2.2 = fin ∧ (fin = true → (r.2.1 k).1 = own)
theorem s_putf {X : mX} {G : mG} {I : mI} (C : Cx X G I) {bc bs pc : Nat} (q : Nat) {L : List (Option Value)} {st : List Value} {M : mM} {idx ci k a t : Nat} {ty : FieldType} {fs : List Value} {v : Value} (d : decode I.2.1 pc = .ok (.putfield idx, 3)) (e : pc + 3 = q) (hf : mFp I.1.cls idx ci k ty false) (hM : M a = some (t, .inl (ci, fs))) (ht : t ≠ 0) (hn : narrow ty v = v) (hfit : fits ty v = true) (hlen0 : Nat.ble (k + 1) fs.length = true) (h : V X bc bs q L st (mup M a (t, .inl (ci, fs.set k v)))) : V X bc bs pc L (v :: .ref a :: st) M := by
  obtain ⟨p, e0, R, s, m, args, below, meth, c, Q, mc, ms, G'⟩ := X
  obtain ⟨rfl, hx, hb, hml, hr, hlk, hown, hts, hK, hroom, hini, hS0⟩ := C
  obtain ⟨r, ty0, h1, h2, h3, ⟨ref, h4, h4s⟩, h5, h6, h7, h8, -⟩ := hf
  have hlen := Nat.le_of_ble_eq_true hlen0
  subst e
  subst h7
  intro H locs cells slots ls hR hc hs hl
  refine va_put (ws := (a, .inr (ci, fs)) :: mWx G' M H a) hx hb hts h3 ty0 h5 h6 hown hK.1 (mWx_P hR hM ht) (mWx_D hR hM ht _) hR.2.2 0 rfl h1 k h2 (hts _ h4) (mF_same hts h4s) h8 (h5 k h2) hn hfit hlen d (fun H1 locs1 hP _ hS => ?_)
  exact h H1 locs1 cells slots ls (mR_put (e' := .inl (ci, fs.set k v)) hR hM ht hP hS) hc hs hl
theorem s_putF {X : mX} {G : mG} {I : mI} (C : Cx X G I) {bc bs pc : Nat} (q : Nat) {L : List (Option Value)} {st : List Value} {M : mM} {idx ci k a t : Nat} {ty : FieldType} {fs : List Value} {v : Value} (d : decode I.2.1 pc = .ok (.putfield idx, 3)) (e : pc + 3 = q) (hf : mFp I.1.cls idx ci k ty true) (hI : I.1.name = "<init>") (hM : M a = some (t, .inl (ci, fs))) (ht : t ≠ 0) (hn : narrow ty v = v) (hfit : fits ty v = true) (hlen0 : Nat.ble (k + 1) fs.length = true) (h : V X bc bs q L st (mup M a (t, .inl (ci, fs.set k v)))) : V X bc bs pc L (v :: .ref a :: st) M := by
  obtain ⟨p, e0, R, s, m, args, below, meth, c, Q, mc, ms, G'⟩ := X
  obtain ⟨rfl, hx, hb, hml, hr, hlk, hown, hts, hK, hroom, hini, hS0⟩ := C
  obtain ⟨r, ty0, h1, h2, h3, ⟨ref, h4, h4s⟩, h5, h6, h7, h8, h9⟩ := hf
  have hlen := Nat.le_of_ble_eq_true hlen0
  subst e
  subst h7
  intro H locs cells slots ls hR hc hs hl
  refine va_putF (ws := (a, .inr (ci, fs)) :: mWx G' M H a) hx hb hts h3 ty0 h5 h6 hown hK.1 (mWx_P hR hM ht) (mWx_D hR hM ht _) hR.2.2 0 rfl h1 k h2 (hts _ h4) (mF_same hts h4s) h8 (hini hI) (h9 rfl) (h5 k h2) hn hfit hlen d (fun H1 locs1 hP _ hS => ?_)
  exact h H1 locs1 cells slots ls (mR_put (e' := .inl (ci, fs.set k v)) hR hM ht hP hS) hc hs hl
/-- reading rows of ints (kind 0) and of chars (kind 1) -/
theorem s_iald {X : mX} {G : mG} {I : mI} (C : Cx X G I) {bc bs pc : Nat} (q : Nat) {L : List (Option Value)} {st : List Value} {M : mM} {a t n : Nat} {f : Nat → Int32} {i : Nat} (d : decode I.2.1 pc = .ok (.iaload, 1)) (e : pc + 1 = q) (hM : M a = some (t, .inr (0, n, .inl f))) (hi : i < n) (hn : n < 2 ^ 31) (h : V X bc bs q L (.int (f i) :: st) M) : V X bc bs pc L (.int (nI i) :: .ref a :: st) M := by
  obtain ⟨p, e0, R, s, m, args, below, meth, c, Q, mc, ms, G'⟩ := X
  obtain ⟨rfl, hx, hb, hml, hr, hlk, hown, hts, hK, hroom, hini, hS0⟩ := C
  subst e
  intro H locs cells slots ls hR hc hs hl
  refine va_iald (ws := [(a, .inl (G'.2.2.2.1 0, n, .inl f))]) hx hb hK.1 (fun k q hq => by
    cases k with
    | zero => cases hq; exact (hR.1 a t _ hM).f.2
    | succ k => cases hq) 0 0 rfl rfl (vp_in_nI hi hn) d ?_
  rw [nI_clamp (by omega)]
  exact h H locs cells slots ls hR hc hs hl
theorem s_cald {X : mX} {G : mG} {I : mI} (C : Cx X G I) {bc bs pc : Nat} (q : Nat) {L : List (Option Value)} {st : List Value} {M : mM} {a t n : Nat} {f : Nat → Int32} {i : Nat} (d : decode I.2.1 pc = .ok (.caload, 1)) (e : pc + 1 = q) (hM : M a = some (t, .inr (1, n, .inl f))) (hi : i < n) (hn : n < 2 ^ 31) (h : V X bc bs q L (.int (f i) :: st) M) : V X bc bs pc L (.int (nI i) :: .ref a :: st) M := by
  obtain ⟨p, e0, R, s, m, args, below, meth, c, Q, mc, ms, G'⟩ := X
  obtain ⟨rfl, hx, hb, hml, hr, hlk, hown, hts, hK, hroom, hini, hS0⟩ := C
  subst e
  intro H locs cells slots ls hR hc hs hl
  refine va_cald (ws := [(a, .inl (G'.2.2.2.1 1, n, .inl f))]) hx hb hK.1 (fun k q hq => by
    cases k with
    | zero => cases hq; exact (hR.1 a t _ hM).f.2
    | succ k => cases hq) 0 1 rfl rfl (vp_in_nI hi hn) d ?_
  rw [nI_clamp (by omega)]
  exact h H locs cells slots ls hR hc hs hl
/-- reading rows of references: of objects (kinds 2, 3), of rows (kind 4) -/
theorem s_aald {X : mX} {G : mG} {I : mI} (C : Cx X G I) {bc bs pc : Nat} (q : Nat) {L : List (Option Value)} {st : List Value} {M : mM} {a t n kd : Nat} {f : Nat → Option Nat} {i : Nat} (d : decode I.2.1 pc = .ok (.aaload, 1)) (e : pc + 1 = q) (hM : M a = some (t, .inr (kd, n, .inr f))) (hkd : kd = 2 ∨ kd = 3 ∨ kd = 4) (hi : i < n) (hn : n < 2 ^ 31) (h : V X bc bs q L (va_rf (f i) :: st) M) : V X bc bs pc L (.int (nI i) :: .ref a :: st) M := by
  obtain ⟨p, e0, R, s, m, args, below, meth, c, Q, mc, ms, G'⟩ := X
  obtain ⟨rfl, hx, hb, hml, hr, hlk, hown, hts, hK, hroom, hini, hS0⟩ := C
  subst e
  intro H locs cells slots ls hR hc hs hl
  have hcell : H[a]? = some (vp_cell (G'.2.2.2.1 kd) (n, .inr (.inr (.inr (.inr f))))) := by
    have hb5 : Nat.beq kd 5 = false := by rcases hkd with rfl | rfl | rfl <;> rfl
    rcases hR.1 a t _ hM with ⟨-, h⟩ | ⟨-, g0, c0, e0', -⟩
    · rw [mv_r hb5] at h
      exact h
    · cases e0'
      exact absurd hi (Nat.not_lt_zero _)
  have hv : (f (nI i).toNatClampNeg) = f i := by rw [nI_clamp (by omega)]
  have hlt : (nI i).toNatClampNeg < n := by rw [nI_clamp (by omega)]; exact hi
  have go : ∀ (ty : FieldType), ArrOfT s (G'.2.2.2.1 kd) ty → ty.isReference = true → W p G'.1 e0 R s m args below meth c H locs cells slots Q (F0 m pc ls (.int (nI i) :: .ref a :: st)) := by
    intro ty hA hty
    exact W.aald (v := va_rf (f i)) (ty := ty) hx hb hcell (hA n (fun j => va_rf (f j))) hty (fun q => by cases q) (by show ¬ (nI i < 0 ∨ (arrV _ _ _).slots.size ≤ _); rw [arrV_size]; exact vp_in_nI hi hn) (by show (arrV _ _ _).slots[_]? = _; rw [arrV_read _ _ hlt, hv]) rfl rfl d (h H locs cells slots ls hR hc hs hl)
  rcases hkd with rfl | rfl | rfl
  · exact go (.object "java/lang/Object") (hK.1.2 2 _ rfl).1 rfl
  · exact go (.object "TitleFinder$State") (hK.1.2 3 _ rfl).1 rfl
  · exact go (.array .int) (hK.1.2 4 _ rfl).1 rfl
theorem s_alen {X : mX} {G : mG} {I : mI} (C : Cx X G I) {bc bs pc : Nat} (q : Nat) {L : List (Option Value)} {st : List Value} {M : mM} {a t n kd : Nat} {f : (Nat → Int32) ⊕ (Nat → Option Nat)} (d : decode I.2.1 pc = .ok (.arraylength, 1)) (e : pc + 1 = q) (hM : M a = some (t, .inr (kd, n, f))) (hkd : kd < 5) (h : V X bc bs q L (.int (nI n) :: st) M) : V X bc bs pc L (.ref a :: st) M := by
  obtain ⟨p, e0, R, s, m, args, below, meth, c, Q, mc, ms, G'⟩ := X
  obtain ⟨rfl, hx, hb, hml, hr, hlk, hown, hts, hK, hroom, hini, hS0⟩ := C
  subst e
  intro H locs cells slots ls hR hc hs hl
  have hty : ∃ ty, (tysK G'.2.2.2.1)[kd]? = some (G'.2.2.2.1 kd, ty) := by
    match kd, hkd with
    | 0, _ => exact ⟨_, rfl⟩
    | 1, _ => exact ⟨_, rfl⟩
    | 2, _ => exact ⟨_, rfl⟩
    | 3, _ => exact ⟨_, rfl⟩
    | 4, _ => exact ⟨_, rfl⟩
  obtain ⟨ty, hty⟩ := hty
  have hb5 : Nat.beq kd 5 = false := by
    match kd, hkd with
    | 0, _ => rfl
    | 1, _ => rfl
    | 2, _ => rfl
    | 3, _ => rfl
    | 4, _ => rfl
  cases f with
  | inl f =>
    exact va_alen (ws := [(a, .inl (G'.2.2.2.1 kd, n, .inl f))]) hx hb hK.1 (fun k q hq => by
      cases k with
      | zero => cases hq; exact (hR.1 a t _ hM).f.2
      | succ k => cases hq) 0 kd rfl hty rfl d (h H locs cells slots ls hR hc hs hl)
  | inr f =>
    rcases hR.1 a t _ hM with ⟨-, hA⟩ | ⟨-, g0, c0, e0', k1, k2, k3, k4, -⟩
    · rw [mv_r hb5] at hA
      exact va_alen (ws := [(a, .inl (G'.2.2.2.1 kd, n, .inr (.inr (.inr (.inr f)))))]) hx hb hK.1 (fun k q hq => by
        cases k with
        | zero => cases hq; exact hA
        | succ k => cases hq) 0 kd rfl hty rfl d (h H locs cells slots ls hR hc hs hl)
    · cases e0'
      obtain ⟨-, kk, hkk, comp, hkind⟩ := (hK.1.2 2 _ rfl).1 0 (fun _ => .null)
      exact W.alen (n := nI 0) hx hb k1 ⟨fun z hz => (by rw [hz] at k4; cases k4), kk, (by rw [k2]; exact hkk), comp, hkind⟩ (by rw [k3]; rfl) rfl rfl d (h H locs cells slots ls hR hc hs hl)
theorem s_iast {X : mX} {G : mG} {I : mI} (C : Cx X G I) {bc bs pc : Nat} (q : Nat) {L : List (Option Value)} {st : List Value} {M : mM} {a t n : Nat} {f : Nat → Int32} {i : Nat} {x : Int32} (d : decode I.2.1 pc = .ok (.iastore, 1)) (e : pc + 1 = q) (hM : M a = some (t, .inr (0, n, .inl f))) (ht : t ≠ 0) (hi : i < n) (hn : n < 2 ^ 31) (h : V X bc bs q L st (mup M a (t, .inr (0, n, .inl (upd f i x))))) : V X bc bs pc L (.int x :: .int (nI i) :: .ref a :: st) M := by
  obtain ⟨p, e0, R, s, m, args, below, meth, c, Q, mc, ms, G'⟩ := X
  obtain ⟨rfl, hx, hb, hml, hr, hlk, hown, hts, hK, hroom, hini, hS0⟩ := C
  subst e
  intro H locs cells slots ls hR hc hs hl
  refine va_iast (ws := (a, .inl (G'.2.2.2.1 0, n, .inl f)) :: mWx G' M H a) hx hb hK.1 (mWx_P hR hM ht) (mWx_D hR hM ht _) hR.2.2 0 0 rfl rfl (vp_in_nI hi hn) d (fun H1 locs1 hP _ hS => ?_)
  rw [nI_clamp (by omega)] at hP
  exact h H1 locs1 cells slots ls (mR_put (e' := .inr (0, n, .inl (upd f i x))) hR hM ht hP hS) hc hs hl
theorem s_cast {X : mX} {G : mG} {I : mI} (C : Cx X G I) {bc bs pc : Nat} (q : Nat) {L : List (Option Value)} {st : List Value} {M : mM} {a t n : Nat} {f : Nat → Int32} {i : Nat} {x : Int32} (d : decode I.2.1 pc = .ok (.castore, 1)) (e : pc + 1 = q) (hM : M a = some (t, .inr (1, n, .inl f))) (ht : t ≠ 0) (hi : i < n) (hn : n < 2 ^ 31) (hx0 : vp_nar .char x = x) (h : V X bc bs q L st (mup M a (t, .inr (1, n, .inl (upd f i x))))) : V X bc bs pc L (.int x :: .int (nI i) :: .ref a :: st) M := by
  obtain ⟨p, e0, R, s, m, args, below, meth, c, Q, mc, ms, G'⟩ := X
  obtain ⟨rfl, hx, hb, hml, hr, hlk, hown, hts, hK, hroom, hini, hS0⟩ := C
  subst e
  intro H locs cells slots ls hR hc hs hl
  refine va_cast (ws := (a, .inl (G'.2.2.2.1 1, n, .inl f)) :: mWx G' M H a) hx hb hK.1 (mWx_P hR hM ht) (mWx_D hR hM ht _) hR.2.2 0 1 rfl rfl (vp_in_nI hi hn) d (fun H1 locs1 hP _ hS => ?_)
  rw [nI_clamp (by omega), hx0] at hP
  exact h H1 locs1 cells slots ls (mR_put (e' := .inr (1, n, .inl (upd f i x))) hR hM ht hP hS) hc hs hl
/-- an object (class cv) into a row of objects of class E -/
theorem s_aast {X : mX} {G : mG} {I : mI} (C : Cx X G I) {bc bs pc : Nat} (q : Nat) {L : List (Option Value)} {st : List Value} {M : mM} {a t n kd v tv ci : Nat} {f : Nat → Option Nat} {vs : List Value} {i : Nat} {E : String} {r : vw_C} (d : decode I.2.1 pc = .ok (.aastore, 1)) (e : pc + 1 = q) (hM : M a = some (t, .inr (kd, n, .inr f))) (ht : t ≠ 0) (hkd : kd = 2 ∧ E = "java/lang/Object" ∨ kd = 3 ∧ E = "TitleFinder$State") (hv : M v = some (tv, .inl (ci, vs))) (hci : vwCl[ci]? = some r) (hcs : r.1 = "TitleFinder$Title" ∧ E = "java/lang/Object" ∨ r.1 = E) (hi : i < n) (hn : n < 2 ^ 31) (h : V X bc bs q L st (mup M a (t, .inr (kd, n, .inr (va_up f i (some v)))))) : V X bc bs pc L (.ref v :: .int (nI i) :: .ref a :: st) M := by
  obtain ⟨p, e0, R, s, m, args, below, meth, c, Q, mc, ms, G'⟩ := X
  obtain ⟨rfl, hx, hb, hml, hr, hlk, hown, hts, hK, hroom, hini, hS0⟩ := C
  subst e
  intro H locs cells slots ls hR hc hs hl
  have hva : a ≠ v := by
    intro h
    subst h
    rw [hM] at hv
    cases hv
  have hvt : tv ≠ 0 ∨ tv = 0 := (Classical.em _).symm
  obtain ⟨r', hr', cellV, g1, g2, g3, -⟩ := (hR.1 v tv _ hv).o
  have : r' = r := Option.some.inj (hr'.symm.trans hci)
  subst this
  have hcls := (hK.1.1 ci r' hci).2
  have hAny : va_Any E s H v := by
    obtain ⟨kC, hkC, -⟩ := hcls.2
    refine ⟨cellV, g1, by rw [g3]; rfl, ⟨kC, by rw [g2]; exact hkC⟩, fun comp hcomp => ?_⟩
    rw [g2]
    rcases hcs with ⟨e1, e2⟩ | e1
    · have hn := hK.2.2.2.2.2.2.2.2.2.2.1
      rw [← e1, ← e2] at hn
      unfold va_Nw at hn
      simp [Cond.before, Cond.holds, Cond.value, hcls.1, hcomp] at hn
      exact hn
    · rw [← e1] at hcomp
      have : comp = G'.2.2.1.1 ci := Option.some.inj (hcomp.symm.trans hcls.1)
      rw [this]
      exact va_assign hcls
  rcases hkd with ⟨rfl, rfl⟩ | ⟨rfl, rfl⟩
  · refine va_astqM (ws := (a, .inl (G'.2.2.2.1 2, n, .inr (.inr (.inr (.inr f))))) :: mWx G' M H a) hx hb hK.1 (mWx_P hR hM ht) (mWx_D hR hM ht _) hR.2.2 0 2 rfl rfl hAny (vp_in_nI hi hn) d (fun H1 locs1 hP _ hS => ?_)
    rw [nI_clamp (by omega)] at hP
    exact h H1 locs1 cells slots ls (mR_put (e' := .inr (2, n, .inr (va_up f i (some v)))) hR hM ht hP hS) hc hs hl
  · refine va_astqM (ws := (a, .inl (G'.2.2.2.1 3, n, .inr (.inr (.inr (.inr f))))) :: mWx G' M H a) hx hb hK.1 (mWx_P hR hM ht) (mWx_D hR hM ht _) hR.2.2 0 3 rfl rfl hAny (vp_in_nI hi hn) d (fun H1 locs1 hP _ hS => ?_)
    rw [nI_clamp (by omega)] at hP
    exact h H1 locs1 cells slots ls (mR_put (e' := .inr (3, n, .inr (va_up f i (some v)))) hR hM ht hP hS) hc hs hl
/-- null into a row of objects -/
theorem s_aastN {X : mX} {G : mG} {I : mI} (C : Cx X G I) {bc bs pc : Nat} (q : Nat) {L : List (Option Value)} {st : List Value} {M : mM} {a t n : Nat} {f : Nat → Option Nat} {i : Nat} (d : decode I.2.1 pc = .ok (.aastore, 1)) (e : pc + 1 = q) (hM : M a = some (t, .inr (2, n, .inr f))) (ht : t ≠ 0) (hi : i < n) (hn : n < 2 ^ 31) (h : V X bc bs q L st (mup M a (t, .inr (2, n, .inr (va_up f i none))))) : V X bc bs pc L (.null :: .int (nI i) :: .ref a :: st) M := by
  obtain ⟨p, e0, R, s, m, args, below, meth, c, Q, mc, ms, G'⟩ := X
  obtain ⟨rfl, hx, hb, hml, hr, hlk, hown, hts, hK, hroom, hini, hS0⟩ := C
  subst e
  intro H locs cells slots ls hR hc hs hl
  refine va_astqN (ws := (a, .inl (G'.2.2.2.1 2, n, .inr (.inr (.inr (.inr f))))) :: mWx G' M H a) hx hb hK.1 (mWx_P hR hM ht) (mWx_D hR hM ht _) hR.2.2 0 2 rfl rfl (vp_in_nI hi hn) d (fun H1 locs1 hP _ hS => ?_)
  rw [nI_clamp (by omega)] at hP
  exact h H1 locs1 cells slots ls (mR_put (e' := .inr (2, n, .inr (va_up f i none))) hR hM ht hP hS) hc hs hl
/-- making an object -/
def mN (own : String) (idx ci : Nat) (fs : List Value) : Prop := ∃ (r : vw_C) (ty0 : Nat → FieldType), vwCl[ci]? = some r ∧ (∀ w ∈ u_ws r.1 r.2.1 r.2.2, w ∈ BIG) ∧ (∀ k, k < r.2.2 → parseFieldDescriptor (r.2.1 k).2.2.1 = some (ty0 k)) ∧ Cond.classLink own idx r.1 ∈ BIG ∧ Cond.instantiable r.1 r.2.2 ∈ BIG ∧ Cond.initialized r.1 ∈ BIG ∧ (∀ j, j < r.2.2 → defaultValue (ty0 j) = vp_V fs j) ∧ r.2.2 = fs.length
theorem s_new {X : mX} {G : mG} {I : mI} (C : Cx X G I) {bc bs pc : Nat} (q bc' bs' tag : Nat) {L : List (Option Value)} {st : List Value} {M : mM} {idx ci : Nat} {fs : List Value} (d : decode I.2.1 pc = .ok (.new idx, 3)) (e : pc + 3 = q) (hn : mN I.1.cls idx ci fs) (ht : tag ≠ 0) (hbc : bc' + 1 ≤ bc) (hbs : bs' + fs.length ≤ bs) (h : ∀ a, M a = none → G.2.1.size ≤ a → V X bc' bs' q L (.ref a :: st) (mup M a (tag, .inl (ci, fs)))) : V X bc bs pc L st M := by
  obtain ⟨p, e0, R, s, m, args, below, meth, c, Q, mc, ms, G'⟩ := X
  obtain ⟨rfl, hx, hb, hml, hr, hlk, hown, hts, hK, hroom, hini, hS0⟩ := C
  obtain ⟨r, ty0, h1, h2, h3, h4, h5, h6, h7, h8⟩ := hn
  subst e
  intro H locs cells slots ls hR hc hs hl
  refine va_new (ws := mW G'.2.2.2.1 M H.size (fun _ => true)) (fs := fs) hx hb hts h2 ty0 h3 hown (hts _ h4) (hts _ h5) (hts _ h6) hK.1 (mW_P hR) (mW_D hR) hR.2.2 (fun q h => h) h1 h7 (by omega) (by omega) d (fun a H1 hP hD hS => ?_)
  obtain ⟨g1, g2, g3⟩ := mR_new (e := .inl (ci, fs)) hR ht hP hD hS
  exact h a g1 g2 H1 locs _ _ ls g3 (by omega) (by omega) hl
/-- making a row of ints or of chars -/
theorem s_newa {X : mX} {G : mG} {I : mI} (C : Cx X G I) {bc bs pc : Nat} (q bc' bs' tag : Nat) {L : List (Option Value)} {st : List Value} {M : mM} {at0 : ArrayType} {kd n : Nat} (d : decode I.2.1 pc = .ok (.newarray at0, 2)) (e : pc + 2 = q) (hkd : at0 = .int ∧ kd = 0 ∧ Cond.arrayClass .int ∈ BIG ∨ at0 = .char ∧ kd = 1 ∧ Cond.arrayClass .char ∈ BIG) (hn : n ≤ 100000) (ht : tag ≠ 0) (hbc : bc' + 1 ≤ bc) (hbs : bs' + n ≤ bs) (h : ∀ a, M a = none → G.2.1.size ≤ a → V X bc' bs' q L (.ref a :: st) (mup M a (tag, .inr (kd, n, .inl (fun _ => 0))))) : V X bc bs pc L (.int (nI n) :: st) M := by
  obtain ⟨p, e0, R, s, m, args, below, meth, c, Q, mc, ms, G'⟩ := X
  obtain ⟨rfl, hx, hb, hml, hr, hlk, hown, hts, hK, hroom, hini, hS0⟩ := C
  subst e
  intro H locs cells slots ls hR hc hs hl
  have hz : (nI n).toNatClampNeg = n := nI_clamp (by omega)
  rcases hkd with ⟨rfl, rfl, hw⟩ | ⟨rfl, rfl, hw⟩
  · refine va_newaK hx hb (atype := .int) (hts _ hw) rfl d rfl (nI_pos (by omega)) hz (by show n * 4 ≤ _; omega) (by omega) (by omega) rfl (fun H1 cA e1 z1 o1 hAr hNm => ?_)
    have hcA : cA = G'.2.2.2.1 0 := Option.some.inj (hNm.symm.trans (hK.1.2 0 _ rfl).2)
    subst hcA
    have hk : ∀ (k : Nat) (x : Nat × va_E), (mW G'.2.2.2.1 M H.size (fun _ => true))[k]? = some x → H1[x.1]? = H[x.1]? := fun k x hx => o1 x.1 ((mW_P hR k x hx).lt)
    obtain ⟨g1, g2, g3⟩ := mR_new (q := H.size) (e := .inr (0, n, .inl (fun _ => 0))) hR ht (((mW_P hR).kept hk).app (fun k x hx => by
      cases k with
      | zero => cases hx; exact e1
      | succ k => cases hx)) ((mW_D hR).push (mW_P hR) rfl hR.2.2.1) ⟨Nat.le_trans hR.2.2.1 (by omega), fun x h1 h2 => (o1 x (Nat.lt_of_lt_of_le h1 hR.2.2.1)).trans (hR.2.2.2.1 x h1 h2), hR.2.2.2.2⟩
    exact h H.size g1 g2 H1 locs _ _ ls g3 (by omega) (by omega) hl
  · refine va_newaK hx hb (atype := .char) (hts _ hw) rfl d rfl (nI_pos (by omega)) hz (by show n * 2 ≤ _; omega) (by omega) (by omega) rfl (fun H1 cA e1 z1 o1 hAr hNm => ?_)
    have hcA : cA = G'.2.2.2.1 1 := Option.some.inj (hNm.symm.trans (hK.1.2 1 _ rfl).2)
    subst hcA
    have hk : ∀ (k : Nat) (x : Nat × va_E), (mW G'.2.2.2.1 M H.size (fun _ => true))[k]? = some x → H1[x.1]? = H[x.1]? := fun k x hx => o1 x.1 ((mW_P hR k x hx).lt)
    obtain ⟨g1, g2, g3⟩ := mR_new (q := H.size) (e := .inr (1, n, .inl (fun _ => 0))) hR ht (((mW_P hR).kept hk).app (fun k x hx => by
      cases k with
      | zero => cases hx; exact e1
      | succ k => cases hx)) ((mW_D hR).push (mW_P hR) rfl hR.2.2.1) ⟨Nat.le_trans hR.2.2.1 (by omega), fun x h1 h2 => (o1 x (Nat.lt_of_lt_of_le h1 hR.2.2.1)).trans (hR.2.2.2.1 x h1 h2), hR.2.2.2.2⟩
    exact h H.size g1 g2 H1 locs _ _ ls g3 (by omega) (by omega) hl
/-- a ghost tag changes -/
theorem s_tag {X : mX} {bc bs pc : Nat} {L : List (Option Value)} {st : List Value} {M : mM} (a t t' : Nat) {e : mE} (ha : M a = some (t, e)) (ht : t ≠ 0) (ht' : t' ≠ 0) (h : V X bc bs pc L st (mup M a (t', e))) : V X bc bs pc L st M := by
  obtain ⟨p, e0, R, s, m, args, below, meth, c, Q, mc, ms, G⟩ := X
  intro H locs cells slots ls hR hc hs hl
  exact h H locs cells slots ls (mR_tag hR ha ht ht') hc hs hl
/-! calls -/
/-- who may be called on: an object of class cls -/
def mRv (G : mG) (M : mM) (cls : String) (b : Nat) : Prop := ∀ (s : State) (H : Heap) (locs : List Loc), mK G s → mR G M H locs → ∃ cellB : Cell, H[b]? = some cellB ∧ cellB.vm.isStatics = false ∧ s.vm.findClass cls = some cellB.cls
theorem mRv_of {G : mG} {M : mM} {b t ci : Nat} {fs : List Value} {cls : String} (hM : M b = some (t, .inl (ci, fs))) (hc : (vwCl[ci]?).map (fun r => r.1) = some cls) : mRv G M cls b := by
  intro s H locs hK hR
  obtain ⟨r, h1, cell, g1, g2, g3, -⟩ := (hR.1 b t _ hM).o
  have h1 : vwCl[ci]? = some r := h1
  rw [h1] at hc
  have hc : r.1 = cls := Option.some.inj hc
  subst hc
  exact ⟨cell, g1, by rw [g3]; rfl, by rw [g2]; exact (hK.1.1 ci r h1).2.1⟩
def mCB (own : String) (idx : Nat) (J : mI) (n : Nat) : Prop := Cond.code J.1 J.2.1 J.2.2.1 J.2.2.2.1 ∈ BIG ∧ Cond.initialized J.1.cls ∈ BIG ∧ (J.1.cls ≠ "java/lang/invoke/MethodHandle" ∧ J.1.cls ≠ "java/lang/invoke/VarHandle") ∧ (parseMethodDescriptor J.1.desc).map (fun d => d.parameters.length) = some n
/-- a call of a method on an object, of a static method, of a constructor, of a nest mate's constructor -/
def mCv (own : String) (idx : Nat) (J : mI) (n : Nat) : Prop := mCB own idx J n ∧ Cond.methodLink own idx J.1 ∈ BIG ∧ Cond.instanceMethod J.1 ∈ BIG ∧ Cond.selects J.1.cls J.1 J.1 ∈ BIG
def mCs (own : String) (idx : Nat) (J : mI) (n : Nat) : Prop := mCB own idx J n ∧ Cond.methodLink own idx J.1 ∈ BIG ∧ Cond.static J.1 ∈ BIG
def mCi (own : String) (idx : Nat) (J : mI) (n : Nat) : Prop := mCB own idx J n ∧ Cond.methodLink own idx J.1 ∈ BIG ∧ Cond.instanceMethod J.1 ∈ BIG ∧ J.1.name = "<init>" ∧ J.2.2.2.1 = none
def mCn (own : String) (idx : Nat) (J : mI) (n : Nat) : Prop := mCB own idx J n ∧ (∃ host, Cond.methodLinkNest own idx J.1 host ∈ mNest) ∧ Cond.instanceMethod J.1 ∈ BIG ∧ J.1.name = "<init>" ∧ J.2.2.2.1 = none
/-- the callee's room lies in the caller's -/
def mH (I J : mI) : Prop := J.2.2.2.2 + 1 ≤ I.2.2.2.2 ∧ 8 + (J.2.2.1 + 11) + 37 * J.2.2.2.2 ≤ 37 * I.2.2.2.2
theorem mblind {G : mG} {M : mM} {As : List Value} : FrameBlind (fun v U => v = As.toArray ∧ mR G M U.heap [] ∧ mK G U) := fun a U g mk h => ⟨h.1, h.2.1, mK.same (u := U) (U := U.calling g mk a) rfl h.2.2⟩
theorem V_back {p : Program} {e0 : Env} {R : Room} {s : State} {m : MethodId} {args : Array Value} {below : List Frame} {meth : Method} {c : Code} {Q : State → Prop} {mc ms : Nat} {G : mG} {H : Heap} {locs : List Loc} {cells slots mc' ms' bc' bs' pc : Nat} {ls : Array Slot} {L : List (Option Value)} {st rest : List Value} {post : Option Value → mM → Prop}
    (hS : va_S (mAf G.2.1) G.2.1 H locs) (hc : cells + mc' + bc' ≤ mc) (hs : slots + ms' + bs' ≤ ms) (hl : mL ls L)
    (hr : va_Run p G.1 e0 R s m args below meth c H locs cells slots mc' ms' (F0 m pc ls st) rest (fun _ o t => ∃ r M', o = .returned r ∧ post r M' ∧ mR G M' t.heap []) (mAf G.2.1))
    (k : ∀ r M', post r M' → V (p, e0, R, s, m, args, below, meth, c, Q, mc, ms, G) bc' bs' (pc + 3) L (r.toList ++ rest) M') : W p G.1 e0 R s m args below meth c H locs cells slots Q (F0 m pc ls st) := by
  intro T hT X0
  obtain ⟨v, st₀, t, T', Lc, h0, X', hL, e1, e2, ⟨r, M', hv, hp, hm⟩, stp⟩ := hr T hT X0
  cases hv
  have hR' : mR G M' T'.heap (locs ++ Lc) := by
    rw [e1]
    refine ⟨hm.1, hm.2.1, hm.2.2.1, hm.2.2.2.1, fun l hl => ?_⟩
    rcases List.mem_append.mp hl with h | h
    · exact hS.2.2 l h
    · exact hL l h
  obtain ⟨t2, a1, b1⟩ := k v M' hp T'.heap (locs ++ Lc) (cells + mc') (slots + ms') ls hR' hc hs hl T' rfl X'
  exact ⟨t2, stp t2 a1, b1⟩
theorem s_invV {X : mX} {G : mG} {I : mI} (C : Cx X G I) {bc bs pc : Nat} (q bc' bs' : Nat) {L : List (Option Value)} {st : List Value} (rest : List Value) {M : mM} {idx mc' ms' : Nat} {J : mI} {post : Option Value → mM → Prop} {n : Nat} {As : List Value} {b : Nat} (hrv : mRv G M J.1.cls b) (d : decode I.2.1 pc = .ok (.invokevirtual idx, 3)) (e : pc + 3 = q) (hm : mCv I.1.cls idx J n) (hct : CC G J mc' ms' (.ref b :: As) M post) (hst : st = As.reverse ++ .ref b :: rest) (hn : As.length = n) (hL : L.length = I.2.2.1) (hh : mH I J) (hw : (rest.map fun v => v.category).sum ≤ 8) (hbc : bc' + mc' ≤ bc) (hbs : bs' + ms' ≤ bs) (k : ∀ r M', post r M' → V X bc' bs' q L (r.toList ++ rest) M') : V X bc bs pc L st M := by
  obtain ⟨p, e0, R, s, m, args, below, meth, c, Q, mc, ms, G'⟩ := X
  obtain ⟨rfl, hx, hb, hml, hr, hlk, hown, hts, hK, hroom, hini, hS0⟩ := C
  obtain ⟨⟨w1, w2, w3, w4⟩, CC0⟩ := hm
  subst e
  intro H locs cells slots ls hR hc hs hl
  have hCB : ∀ w ∈ (Cond.code J.1 J.2.1 J.2.2.1 J.2.2.2.1 :: BIG), ∀ (a' : Array Value) (U : State), s.WarmedH U.vm → w.before a' U = true := by
    intro w hw a' U hW
    have hw : w ∈ BIG := (List.mem_cons.mp hw).elim (fun e => by rw [e]; exact w1) id
    exact word_at hW (big_good w hw) (hts w hw)
  have hsig : ∀ sig, parseMethodDescriptor J.1.desc = some sig → n = sig.parameters.length := by
    intro sig h
    rw [h] at w4
    exact (Option.some.inj w4).symm
  have hro : (mRoom J.2.2.2.2 mc' ms').frames + 1 ≤ R.frames ∧ 8 + (J.2.2.1 + 11) + (mRoom J.2.2.2.2 mc' ms').locals ≤ R.locals := ⟨Nat.le_trans hh.1 hroom.1, Nat.le_trans hh.2 hroom.2.1⟩
  obtain ⟨w5, w6, w7⟩ := CC0
  exact V_back hR.2.2 (by omega) (by omega) hl (va_runV (As := As) (rest := rest) ⟨hx, hb, hml, hown, hts⟩ hct ⟨⟨rfl, rfl, hro.1, hro.2, hCB, List.mem_cons_self, hts _ w1, hts _ w2, w3, hsig, hts _ w5⟩, hts _ w6, hts _ w7⟩ ⟨mblind, hrv s H locs hK hR, fun U hU hW => ⟨rfl, by rw [hU]; exact hR.ret, mK.warm hW hK⟩⟩ rfl hn (hl.1.trans hL) hst (lv_room hw) d ⟨by omega, by omega⟩) k
theorem s_invS {X : mX} {G : mG} {I : mI} (C : Cx X G I) {bc bs pc : Nat} (q bc' bs' : Nat) {L : List (Option Value)} {st : List Value} (rest : List Value) {M : mM} {idx mc' ms' : Nat} {J : mI} {post : Option Value → mM → Prop} {n : Nat} {As : List Value}  (d : decode I.2.1 pc = .ok (.invokestatic idx, 3)) (e : pc + 3 = q) (hm : mCs I.1.cls idx J n) (hct : CC G J mc' ms' (As) M post) (hst : st = As.reverse ++ rest) (hn : As.length = n) (hL : L.length = I.2.2.1) (hh : mH I J) (hw : (rest.map fun v => v.category).sum ≤ 8) (hbc : bc' + mc' ≤ bc) (hbs : bs' + ms' ≤ bs) (k : ∀ r M', post r M' → V X bc' bs' q L (r.toList ++ rest) M') : V X bc bs pc L st M := by
  obtain ⟨p, e0, R, s, m, args, below, meth, c, Q, mc, ms, G'⟩ := X
  obtain ⟨rfl, hx, hb, hml, hr, hlk, hown, hts, hK, hroom, hini, hS0⟩ := C
  obtain ⟨⟨w1, w2, w3, w4⟩, CC0⟩ := hm
  subst e
  intro H locs cells slots ls hR hc hs hl
  have hCB : ∀ w ∈ (Cond.code J.1 J.2.1 J.2.2.1 J.2.2.2.1 :: BIG), ∀ (a' : Array Value) (U : State), s.WarmedH U.vm → w.before a' U = true := by
    intro w hw a' U hW
    have hw : w ∈ BIG := (List.mem_cons.mp hw).elim (fun e => by rw [e]; exact w1) id
    exact word_at hW (big_good w hw) (hts w hw)
  have hsig : ∀ sig, parseMethodDescriptor J.1.desc = some sig → n = sig.parameters.length := by
    intro sig h
    rw [h] at w4
    exact (Option.some.inj w4).symm
  have hro : (mRoom J.2.2.2.2 mc' ms').frames + 1 ≤ R.frames ∧ 8 + (J.2.2.1 + 11) + (mRoom J.2.2.2.2 mc' ms').locals ≤ R.locals := ⟨Nat.le_trans hh.1 hroom.1, Nat.le_trans hh.2 hroom.2.1⟩
  obtain ⟨w5, w6⟩ := CC0
  exact V_back hR.2.2 (by omega) (by omega) hl (va_runS (As := As) (rest := rest) ⟨hx, hb, hml, hown, hts⟩ hct ⟨⟨rfl, rfl, hro.1, hro.2, hCB, List.mem_cons_self, hts _ w1, hts _ w2, w3, hsig, hts _ w5⟩, hts _ w6⟩ ⟨mblind, fun U hU hW => ⟨rfl, by rw [hU]; exact hR.ret, mK.warm hW hK⟩⟩ rfl hn (hl.1.trans hL) hst (lv_room hw) d ⟨by omega, by omega⟩) k
theorem s_invI {X : mX} {G : mG} {I : mI} (C : Cx X G I) {bc bs pc : Nat} (q bc' bs' : Nat) {L : List (Option Value)} {st : List Value} (rest : List Value) {M : mM} {idx mc' ms' : Nat} {J : mI} {post : Option Value → mM → Prop} {n : Nat} {As : List Value} {b : Nat} (d : decode I.2.1 pc = .ok (.invokespecial idx, 3)) (e : pc + 3 = q) (hm : mCi I.1.cls idx J n) (hct : CC G J mc' ms' (.ref b :: As) M post) (hst : st = As.reverse ++ .ref b :: rest) (hn : As.length = n) (hL : L.length = I.2.2.1) (hh : mH I J) (hw : (rest.map fun v => v.category).sum ≤ 8) (hbc : bc' + mc' ≤ bc) (hbs : bs' + ms' ≤ bs) (k : ∀ r M', post r M' → V X bc' bs' q L (r.toList ++ rest) M') : V X bc bs pc L st M := by
  obtain ⟨p, e0, R, s, m, args, below, meth, c, Q, mc, ms, G'⟩ := X
  obtain ⟨rfl, hx, hb, hml, hr, hlk, hown, hts, hK, hroom, hini, hS0⟩ := C
  obtain ⟨⟨w1, w2, w3, w4⟩, CC0⟩ := hm
  subst e
  intro H locs cells slots ls hR hc hs hl
  have hCB : ∀ w ∈ (Cond.code J.1 J.2.1 J.2.2.1 J.2.2.2.1 :: BIG), ∀ (a' : Array Value) (U : State), s.WarmedH U.vm → w.before a' U = true := by
    intro w hw a' U hW
    have hw : w ∈ BIG := (List.mem_cons.mp hw).elim (fun e => by rw [e]; exact w1) id
    exact word_at hW (big_good w hw) (hts w hw)
  have hsig : ∀ sig, parseMethodDescriptor J.1.desc = some sig → n = sig.parameters.length := by
    intro sig h
    rw [h] at w4
    exact (Option.some.inj w4).symm
  have hro : (mRoom J.2.2.2.2 mc' ms').frames + 1 ≤ R.frames ∧ 8 + (J.2.2.1 + 11) + (mRoom J.2.2.2.2 mc' ms').locals ≤ R.locals := ⟨Nat.le_trans hh.1 hroom.1, Nat.le_trans hh.2 hroom.2.1⟩
  obtain ⟨w5, w6, w7, w8⟩ := CC0
  rw [CC] at hct
  rw [w8] at hct hCB w1
  exact V_back hR.2.2 (by omega) (by omega) hl (va_runI (As := As) (rest := rest) ⟨hx, hb, hml, hown, hts⟩ hct ⟨⟨rfl, rfl, hro.1, hro.2, hCB, List.mem_cons_self, hts _ w1, hts _ w2, w3, hsig, hts _ w5⟩, w7, hts _ w6⟩ ⟨mblind, fun U hU hW => ⟨rfl, by rw [hU]; exact hR.ret, mK.warm hW hK⟩⟩ rfl hn (hl.1.trans hL) hst (lv_room hw) d ⟨by omega, by omega⟩) k
theorem s_invN {X : mX} {G : mG} {I : mI} (C : Cx X G I) {bc bs pc : Nat} (q bc' bs' : Nat) {L : List (Option Value)} {st : List Value} (rest : List Value) {M : mM} {idx mc' ms' : Nat} {J : mI} {post : Option Value → mM → Prop} {n : Nat} {As : List Value} {b : Nat} (d : decode I.2.1 pc = .ok (.invokespecial idx, 3)) (e : pc + 3 = q) (hm : mCn I.1.cls idx J n) (hct : CC G J mc' ms' (.ref b :: As) M post) (hst : st = As.reverse ++ .ref b :: rest) (hn : As.length = n) (hL : L.length = I.2.2.1) (hh : mH I J) (hw : (rest.map fun v => v.category).sum ≤ 8) (hbc : bc' + mc' ≤ bc) (hbs : bs' + ms' ≤ bs) (k : ∀ r M', post r M' → V X bc' bs' q L (r.toList ++ rest) M') : V X bc bs pc L st M := by
  obtain ⟨p, e0, R, s, m, args, below, meth, c, Q, mc, ms, G'⟩ := X
  obtain ⟨rfl, hx, hb, hml, hr, hlk, hown, hts, hK, hroom, hini, hS0⟩ := C
  obtain ⟨⟨w1, w2, w3, w4⟩, CC0⟩ := hm
  subst e
  intro H locs cells slots ls hR hc hs hl
  have hCB : ∀ w ∈ (Cond.code J.1 J.2.1 J.2.2.1 J.2.2.2.1 :: BIG), ∀ (a' : Array Value) (U : State), s.WarmedH U.vm → w.before a' U = true := by
    intro w hw a' U hW
    have hw : w ∈ BIG := (List.mem_cons.mp hw).elim (fun e => by rw [e]; exact w1) id
    exact word_at hW (big_good w hw) (hts w hw)
  have hsig : ∀ sig, parseMethodDescriptor J.1.desc = some sig → n = sig.parameters.length := by
    intro sig h
    rw [h] at w4
    exact (Option.some.inj w4).symm
  have hro : (mRoom J.2.2.2.2 mc' ms').frames + 1 ≤ R.frames ∧ 8 + (J.2.2.1 + 11) + (mRoom J.2.2.2.2 mc' ms').locals ≤ R.locals := ⟨Nat.le_trans hh.1 hroom.1, Nat.le_trans hh.2 hroom.2.1⟩
  obtain ⟨⟨host, w5⟩, w6, w7, w8⟩ := CC0
  rw [CC] at hct
  rw [w8] at hct hCB w1
  have hnw : va_Nw (.methodLinkNest I.1.cls idx J.1 host) s := hK.2.2.2.2.2.2.2.2.2.1 _ w5
  exact V_back hR.2.2 (by omega) (by omega) hl (va_runIN (As := As) (rest := rest) ⟨hx, hb, hml, hown, hts⟩ hct ⟨va_cnB n hts (ws' := BIG) (fun w hw => ⟨(List.mem_cons.mp hw).elim (fun e => by rw [e]; exact w1) id, big_good w ((List.mem_cons.mp hw).elim (fun e => by rw [e]; exact w1) id)⟩) rfl rfl rfl hnw (hts _ w2) ⟨w3.1, w3.2, w4⟩ hro, w7, hts _ w6⟩ ⟨mblind, fun U hU hW => ⟨rfl, by rw [hU]; exact hR.ret, mK.warm hW hK⟩⟩ rfl hn (hl.1.trans hL) hst (lv_room hw) d ⟨by omega, by omega⟩) k
/-! more rows -/
theorem s_ldc2 {X : mX} {G : mG} {I : mI} (C : Cx X G I) {bc bs pc : Nat} (q : Nat) {L : List (Option Value)} {st : List Value} {M : mM} {idx : Nat} (v : Int64) (d : decode I.2.1 pc = .ok (.ldc2_w idx, 3)) (e : pc + 3 = q) (hc : Cond.constantLong I.1.cls idx v ∈ BIG) (k : V X bc bs q L (.long v :: st) M) : V X bc bs pc L st M := by
  obtain ⟨p, e0, R, s, m, args, below, meth, c, Q, mc, ms, G'⟩ := X
  obtain ⟨rfl, hx, hb, hml, hr, hlk, hown, hts, hK, hroom, hini, hS0⟩ := C
  subst e
  intro H locs cells slots ls hR hc' hs hl
  exact lv_ldc2 hx hb hown (hts _ hc) d (k H locs cells slots ls hR hc' hs hl)
theorem s_ldci {X : mX} {G : mG} {I : mI} (C : Cx X G I) {bc bs pc : Nat} (q : Nat) {L : List (Option Value)} {st : List Value} {M : mM} {idx : Nat} (v : Int32) (d : decode I.2.1 pc = .ok (.ldc idx, 2)) (e : pc + 2 = q) (hc : Cond.constant I.1.cls idx v ∈ BIG) (k : V X bc bs q L (.int v :: st) M) : V X bc bs pc L st M := by
  obtain ⟨p, e0, R, s, m, args, below, meth, c, Q, mc, ms, G'⟩ := X
  obtain ⟨rfl, hx, hb, hml, hr, hlk, hown, hts, hK, hroom, hini, hS0⟩ := C
  subst e
  intro H locs cells slots ls hR hc' hs hl
  exact lv_ldc hx hb hown (hts _ hc) d (k H locs cells slots ls hR hc' hs hl)
theorem s_tabI {X : mX} {G : mG} {I : mI} (C : Cx X G I) {bc bs pc : Nat} (t : Nat) {L : List (Option Value)} {st : List Value} {M : mM} {dflt lo hi off : Int} {offs : Array Int} {len : Nat} {x : Int32} (d : decode I.2.1 pc = .ok (.tableswitch dflt lo hi offs, len)) (h1 : ¬ x.toInt < lo) (h2 : ¬ hi < x.toInt) (ho : offs[(x.toInt - lo).toNat]? = some off) (ht : (pc : Int) + off = (t : Int)) (k : V X bc bs t L st M) : V X bc bs pc L (.int x :: st) M := by
  obtain ⟨p, e0, R, s, m, args, below, meth, c, Q, mc, ms, G'⟩ := X
  obtain ⟨rfl, hx, hb, hml, hr, hlk, hown, hts, hK, hroom, hini, hS0⟩ := C
  intro H locs cells slots ls hR hc' hs hl
  exact lv_tableIn hx hb d h1 h2 ho ht (k H locs cells slots ls hR hc' hs hl)
theorem s_tabO {X : mX} {G : mG} {I : mI} (C : Cx X G I) {bc bs pc : Nat} (t : Nat) {L : List (Option Value)} {st : List Value} {M : mM} {dflt lo hi : Int} {offs : Array Int} {len : Nat} {x : Int32} (d : decode I.2.1 pc = .ok (.tableswitch dflt lo hi offs, len)) (h : x.toInt < lo ∨ hi < x.toInt) (ht : (pc : Int) + dflt = (t : Int)) (k : V X bc bs t L st M) : V X bc bs pc L (.int x :: st) M := by
  obtain ⟨p, e0, R, s, m, args, below, meth, c, Q, mc, ms, G'⟩ := X
  obtain ⟨rfl, hx, hb, hml, hr, hlk, hown, hts, hK, hroom, hini, hS0⟩ := C
  intro H locs cells slots ls hR hc' hs hl
  exact lv_tableOut hx hb d h ht (k H locs cells slots ls hR hc' hs hl)
theorem s_look {X : mX} {G : mG} {I : mI} (C : Cx X G I) {bc bs pc : Nat} (t : Nat) {L : List (Option Value)} {st : List Value} {M : mM} {dflt off : Int} {ps : Array (Int × Int)} {len : Nat} {x : Int32} (d : decode I.2.1 pc = .ok (.lookupswitch dflt ps, len)) (hp : (ps.toList.zip (ps.toList.drop 1)).all (fun (a, next) => a.1 < next.1) = true) (ho : Op.lookupswitch.offset ps.toList dflt x.toInt = off) (ht : (pc : Int) + off = (t : Int)) (k : V X bc bs t L st M) : V X bc bs pc L (.int x :: st) M := by
  obtain ⟨p, e0, R, s, m, args, below, meth, c, Q, mc, ms, G'⟩ := X
  obtain ⟨rfl, hx, hb, hml, hr, hlk, hown, hts, hK, hroom, hini, hS0⟩ := C
  intro H locs cells slots ls hR hc' hs hl
  exact lv_lookup hx hb d hp ho ht (k H locs cells slots ls hR hc' hs hl)
/-- Math.max, Math.min -/
def mMath (own : String) (idx : Nat) (y : MethodName) (b : ByteArray) : Prop := Cond.methodLink own idx y ∈ BIG ∧ Cond.static y ∈ BIG ∧ Cond.initialized "java/lang/Math" ∈ BIG ∧ Cond.code y b 2 (some .int) ∈ BIG
theorem s_max {X : mX} {G : mG} {I : mI} (C : Cx X G I) {bc bs pc : Nat} (q : Nat) {L : List (Option Value)} {st : List Value} {M : mM} {idx : Nat} {x y : Int32} (d : decode I.2.1 pc = .ok (.invokestatic idx, 3)) (e : pc + 3 = q) (hm : mMath I.1.cls idx Lib.Math.max.name Lib.Math.max.code) (hL : L.length = I.2.2.1) (hI : 1 ≤ I.2.2.2.2) (hw : (st.map fun v => v.category).sum ≤ 8) (k : V X bc bs q L (.int (if x < y then y else x) :: st) M) : V X bc bs pc L (.int y :: .int x :: st) M := by
  obtain ⟨p, e0, R, s, m, args, below, meth, c, Q, mc, ms, G'⟩ := X
  obtain ⟨rfl, hx, hb, hml, hr, hlk, hown, hts, hK, hroom, hini, hS0⟩ := C
  obtain ⟨w1, w2, w3, w4⟩ := hm
  subst e
  intro H locs cells slots ls hR hc' hs hl
  exact va_mmax hx hb (hml.trans (hL.symm.trans hl.1.symm)) hown (hts _ w1) (hts _ w2) (hts _ w3) (hts _ w4) (by omega) (by omega) (by omega) (by omega) d (k H locs cells slots ls hR hc' hs hl)
theorem s_min {X : mX} {G : mG} {I : mI} (C : Cx X G I) {bc bs pc : Nat} (q : Nat) {L : List (Option Value)} {st : List Value} {M : mM} {idx : Nat} {x y : Int32} (d : decode I.2.1 pc = .ok (.invokestatic idx, 3)) (e : pc + 3 = q) (hm : mMath I.1.cls idx Lib.Math.min.name Lib.Math.min.code) (hL : L.length = I.2.2.1) (hI : 1 ≤ I.2.2.2.2) (hw : (st.map fun v => v.category).sum ≤ 8) (k : V X bc bs q L (.int (if y < x then y else x) :: st) M) : V X bc bs pc L (.int y :: .int x :: st) M := by
  obtain ⟨p, e0, R, s, m, args, below, meth, c, Q, mc, ms, G'⟩ := X
  obtain ⟨rfl, hx, hb, hml, hr, hlk, hown, hts, hK, hroom, hini, hS0⟩ := C
  obtain ⟨w1, w2, w3, w4⟩ := hm
  subst e
  intro H locs cells slots ls hR hc' hs hl
  exact va_mmin hx hb (hml.trans (hL.symm.trans hl.1.symm)) hown (hts _ w1) (hts _ w2) (hts _ w3) (hts _ w4) (by omega) (by omega) (by omega) (by omega) d (k H locs cells slots ls hR hc' hs hl)
theorem s_maxN {X : mX} {G : mG} {I : mI} (C : Cx X G I) {bc bs pc : Nat} (q : Nat) {L : List (Option Value)} {st : List Value} {M : mM} {idx : Nat} {x y : Nat} (d : decode I.2.1 pc = .ok (.invokestatic idx, 3)) (e : pc + 3 = q) (hm : mMath I.1.cls idx Lib.Math.max.name Lib.Math.max.code) (hL : L.length = I.2.2.1) (hI : 1 ≤ I.2.2.2.2) (hw : (st.map fun v => v.category).sum ≤ 8) (hx0 : x < 2 ^ 31) (hy0 : y < 2 ^ 31) (k : V X bc bs q L (.int (nI (max x y)) :: st) M) : V X bc bs pc L (.int (nI y) :: .int (nI x) :: st) M := by
  refine s_max C q d e hm hL hI hw ?_
  have : (if nI x < nI y then nI y else nI x) = nI (max x y) := by
    by_cases h : x < y
    · rw [if_pos ((nI_ltI hx0 hy0).mpr h), Nat.max_eq_right (by omega)]
    · rw [if_neg (fun z => h ((nI_ltI hx0 hy0).mp z)), Nat.max_eq_left (by omega)]
  rw [this]
  exact k
theorem s_minN {X : mX} {G : mG} {I : mI} (C : Cx X G I) {bc bs pc : Nat} (q : Nat) {L : List (Option Value)} {st : List Value} {M : mM} {idx : Nat} {x y : Nat} (d : decode I.2.1 pc = .ok (.invokestatic idx, 3)) (e : pc + 3 = q) (hm : mMath I.1.cls idx Lib.Math.min.name Lib.Math.min.code) (hL : L.length = I.2.2.1) (hI : 1 ≤ I.2.2.2.2) (hw : (st.map fun v => v.category).sum ≤ 8) (hx0 : x < 2 ^ 31) (hy0 : y < 2 ^ 31) (k : V X bc bs q L (.int (nI (min x y)) :: st) M) : V X bc bs pc L (.int (nI y) :: .int (nI x) :: st) M := by
  refine s_min C q d e hm hL hI hw ?_
  have : (if nI y < nI x then nI y else nI x) = nI (min x y) := by
    by_cases h : y < x
    · rw [if_pos ((nI_ltI hy0 hx0).mpr h), Nat.min_eq_right (by omega)]
    · rw [if_neg (fun z => h ((nI_ltI hy0 hx0).mp z)), Nat.min_eq_left (by omega)]
  rw [this]
  exact k
/-- a cast of an object to its own class -/
theorem s_castT {X : mX} {G : mG} {I : mI} (C : Cx X G I) {bc bs pc : Nat} (q : Nat) {L : List (Option Value)} {st : List Value} {M : mM} {idx a t ci : Nat} {fs : List Value} {r : vw_C} (d : decode I.2.1 pc = .ok (.checkcast idx, 3)) (e : pc + 3 = q) (hM : M a = some (t, .inl (ci, fs))) (hci : vwCl[ci]? = some r) (hc : Cond.classLink I.1.cls idx r.1 ∈ BIG) (k : V X bc bs q L (.ref a :: st) M) : V X bc bs pc L (.ref a :: st) M := by
  obtain ⟨p, e0, R, s, m, args, below, meth, c, Q, mc, ms, G'⟩ := X
  obtain ⟨rfl, hx, hb, hml, hr, hlk, hown, hts, hK, hroom, hini, hS0⟩ := C
  subst e
  intro H locs cells slots ls hR hc' hs hl
  obtain ⟨r', h1, cell, g1, g2, g3, -⟩ := (hR.1 a t _ hM).o
  have : r' = r := Option.some.inj (h1.symm.trans hci)
  subst this
  have hcls := (hK.1.1 ci r' hci).2
  have hnw : va_Nw (.castable r'.1 r'.1) s := by
    unfold va_Nw
    simp [Cond.before, Cond.holds, Cond.value, hcls.1, va_assign hcls]
  exact va_castY hx hb hown (hts _ hc) hnw ⟨cell, g1, by rw [g3]; rfl, by rw [g2]; exact hcls.1⟩ d (k H locs cells slots ls hR hc' hs hl)
end
section
abbrev iX0_init : mI := (yX0_init, cX0_init, 2, none, 5)
abbrev iX0_save : mI := (yX0_save, cX0_save, 2, none, 8)
abbrev iX1_init : mI := (yX1_init, cX1_init, 1, none, 1)
abbrev iX1_rank : mI := (yX1_rank, cX1_rank, 4, none, 6)
abbrev iX1_insert : mI := (yX1_insert, cX1_insert, 5, none, 5)
abbrev iX1_has : mI := (yX1_has, cX1_has, 2, (some .boolean), 0)
abbrev iX1_titleAt : mI := (yX1_titleAt, cX1_titleAt, 2, (some .int), 1)
abbrev iX1_placeAt : mI := (yX1_placeAt, cX1_placeAt, 2, (some .int), 1)
abbrev iX2_init : mI := (yX2_init, cX2_init, 1, none, 4)
abbrev iX2_copyFrom : mI := (yX2_copyFrom, cX2_copyFrom, 3, none, 7)
abbrev iX2_has : mI := (yX2_has, cX2_has, 2, (some .boolean), 1)
abbrev iX2_refusal : mI := (yX2_refusal, cX2_refusal, 3, (some .int), 4)
abbrev iX2_appendToQuery : mI := (yX2_appendToQuery, cX2_appendToQuery, 2, none, 0)
abbrev iX2_queryEndsWithLetter : mI := (yX2_queryEndsWithLetter, cX2_queryEndsWithLetter, 1, (some .boolean), 0)
abbrev iX2_placeOfMatch : mI := (yX2_placeOfMatch, cX2_placeOfMatch, 3, (some .int), 4)
abbrev iX2_comesBefore : mI := (yX2_comesBefore, cX2_comesBefore, 7, (some .boolean), 4)
abbrev iX3_init : mI := (yX3_init, cX3_init, 1, none, 1)
abbrev iX3_look : mI := (yX3_look, cX3_look, 6, none, 7)
abbrev iX3_hasKey : mI := (yX3_hasKey, cX3_hasKey, 1, (some .boolean), 0)
abbrev iX3_hasShortcut : mI := (yX3_hasShortcut, cX3_hasShortcut, 1, (some .boolean), 0)
abbrev iX3_lookAtPiecesFrom : mI := (yX3_lookAtPiecesFrom, cX3_lookAtPiecesFrom, 7, none, 6)
abbrev iX3_longestWanted : mI := (yX3_longestWanted, cX3_longestWanted, 1, (some .int), 1)
abbrev iX3_findPlaces : mI := (yX3_findPlaces, cX3_findPlaces, 10, none, 1)
abbrev iX3_isKnownBy : mI := (yX3_isKnownBy, cX3_isKnownBy, 5, (some .boolean), 1)
abbrev iX3_isFirstFor : mI := (yX3_isFirstFor, cX3_isFirstFor, 7, (some .boolean), 5)
abbrev iX3_placeOf : mI := (yX3_placeOf, cX3_placeOf, 3, (some .int), 0)
abbrev iX4_init : mI := (yX4_init, cX4_init, 1, none, 1)
abbrev iX4_append : mI := (yX4_append, cX4_append, 2, (some .boolean), 0)
abbrev iX4_makeEmpty : mI := (yX4_makeEmpty, cX4_makeEmpty, 1, none, 0)
abbrev iX4_rewind : mI := (yX4_rewind, cX4_rewind, 1, none, 0)
abbrev iX4_isTitle : mI := (yX4_isTitle, cX4_isTitle, 1, (some .boolean), 3)
abbrev iX4_passTitle : mI := (yX4_passTitle, cX4_passTitle, 4, (some .boolean), 2)
abbrev iX4_hasSign : mI := (yX4_hasSign, cX4_hasSign, 1, (some .boolean), 0)
abbrev iX4_isLetter : mI := (yX4_isLetter, cX4_isLetter, 1, (some .boolean), 1)
abbrev iX4_isDigit : mI := (yX4_isDigit, cX4_isDigit, 1, (some .boolean), 0)
abbrev iX4_passedTitle : mI := (yX4_passedTitle, cX4_passedTitle, 3, (some (.object "TitleFinder$Title")), 3)
abbrev iX5_init : mI := (yX5_init, cX5_init, 4, none, 1)
abbrev iX5_unused : mI := (yX5_unused, cX5_unused, 1, (some (.object "TitleFinder$Title")), 2)
abbrev iX5_initialsOf : mI := (yX5_initialsOf, cX5_initialsOf, 4, (some (.array .char)), 1)
abbrev iX5_wordCount : mI := (yX5_wordCount, cX5_wordCount, 3, (some .int), 0)
abbrev iX5_usedOnceMore : mI := (yX5_usedOnceMore, cX5_usedOnceMore, 1, (some (.object "TitleFinder$Title")), 2)
abbrev iX5_run : mI := (yX5_run, cX5_run, 2, (some (.array .char)), 0)
abbrev iX5_startsPiece : mI := (yX5_startsPiece, cX5_startsPiece, 3, (some .boolean), 0)
abbrev iX5_placeOf : mI := (yX5_placeOf, cX5_placeOf, 6, (some .int), 1)
abbrev iX5_commonRun : mI := (yX5_commonRun, cX5_commonRun, 5, (some .int), 1)
abbrev iX5_hasLettersOf : mI := (yX5_hasLettersOf, cX5_hasLettersOf, 2, (some .boolean), 1)
abbrev iX5_comesByNameBefore : mI := (yX5_comesByNameBefore, cX5_comesByNameBefore, 3, (some .boolean), 0)
abbrev iX5_sameLength : mI := (yX5_sameLength, cX5_sameLength, 6, (some .int), 0)
abbrev iX6_init : mI := (yX6_init, cX6_init, 1, none, 6)
abbrev iX6_type : mI := (yX6_type, cX6_type, 2, (some .int), 1)
abbrev iX6_clearText : mI := (yX6_clearText, cX6_clearText, 2, (some .int), 1)
abbrev iX6_add : mI := (yX6_add, cX6_add, 3, (some .int), 9)
abbrev iX6_addIfPossible : mI := (yX6_addIfPossible, cX6_addIfPossible, 3, (some .int), 7)
abbrev iX6_drop : mI := (yX6_drop, cX6_drop, 2, (some .int), 9)
abbrev iX6_dropIfThere : mI := (yX6_dropIfThere, cX6_dropIfThere, 2, (some .boolean), 4)
abbrev iX6_titles : mI := (yX6_titles, cX6_titles, 1, (some .int), 1)
abbrev iX6_character : mI := (yX6_character, cX6_character, 4, (some .int), 4)
abbrev iX6_of : mI := (yX6_of, cX6_of, 3, (some .int), 8)
abbrev iX6_studiedNumber : mI := (yX6_studiedNumber, cX6_studiedNumber, 3, (some .int), 1)
abbrev iX6_common : mI := (yX6_common, cX6_common, 3, (some .int), 4)
abbrev iX6_closest : mI := (yX6_closest, cX6_closest, 7, (some .int), 4)
abbrev iX6_unknown : mI := (yX6_unknown, cX6_unknown, 3, (some .int), 8)
abbrev iX6_hardest : mI := (yX6_hardest, cX6_hardest, 4, (some .int), 8)
abbrev iX6_ifAdded : mI := (yX6_ifAdded, cX6_ifAdded, 5, (some .int), 9)
abbrev iX6_keyWouldChange : mI := (yX6_keyWouldChange, cX6_keyWouldChange, 4, (some .boolean), 8)
abbrev iX6_setMode : mI := (yX6_setMode, cX6_setMode, 3, (some .int), 9)
abbrev iX6_setOrder : mI := (yX6_setOrder, cX6_setOrder, 3, (some .int), 9)
abbrev iX6_mode : mI := (yX6_mode, cX6_mode, 1, (some .int), 0)
abbrev iX6_order : mI := (yX6_order, cX6_order, 1, (some .int), 0)
abbrev iX6_ask : mI := (yX6_ask, cX6_ask, 2, (some .int), 9)
abbrev iX6_erase : mI := (yX6_erase, cX6_erase, 1, (some .int), 9)
abbrev iX6_queryLength : mI := (yX6_queryLength, cX6_queryLength, 1, (some .int), 0)
abbrev iX6_queryCharacter : mI := (yX6_queryCharacter, cX6_queryCharacter, 2, (some .int), 0)
abbrev iX6_results : mI := (yX6_results, cX6_results, 1, (some .int), 7)
abbrev iX6_result : mI := (yX6_result, cX6_result, 2, (some .int), 7)
abbrev iX6_matchPlace : mI := (yX6_matchPlace, cX6_matchPlace, 2, (some .int), 7)
abbrev iX6_pick : mI := (yX6_pick, cX6_pick, 2, (some .int), 9)
abbrev iX6_pickIfThere : mI := (yX6_pickIfThere, cX6_pickIfThere, 3, (some .int), 7)
abbrev iJ9_max_7cf53 : mI := (yJ9_max_7cf53, cJ9_max_7cf53, 2, (some .int), 0)
abbrev iJ9_min_7cf53 : mI := (yJ9_min_7cf53, cJ9_min_7cf53, 2, (some .int), 0)
abbrev iJxa1e45_init_da8c8 : mI := (yJxa1e45_init_da8c8, cJxa1e45_init_da8c8, 1, none, 1)
abbrev iJxc12de_init_da8c8 : mI := (yJxc12de_init_da8c8, cJxc12de_init_da8c8, 1, none, 2)
abbrev iJx4a65c_init_da8c8 : mI := (yJx4a65c_init_da8c8, cJx4a65c_init_da8c8, 1, none, 3)
abbrev iJx4a65c_grow_92f84 : mI := (yJx4a65c_grow_92f84, cJx4a65c_grow_92f84, 4, (some (.array (.object "java/lang/Object"))), 3)
abbrev iJx4a65c_grow_d5877 : mI := (yJx4a65c_grow_d5877, cJx4a65c_grow_d5877, 1, (some (.array (.object "java/lang/Object"))), 4)
abbrev iJx4a65c_size_8abf5 : mI := (yJx4a65c_size_8abf5, cJx4a65c_size_8abf5, 1, (some .int), 0)
abbrev iJx4a65c_elementData_915e3 : mI := (yJx4a65c_elementData_915e3, cJx4a65c_elementData_915e3, 2, (some (.object "java/lang/Object")), 0)
abbrev iJx4a65c_get_915e3 : mI := (yJx4a65c_get_915e3, cJx4a65c_get_915e3, 2, (some (.object "java/lang/Object")), 3)
abbrev iJx4a65c_set_bcc79 : mI := (yJx4a65c_set_bcc79, cJx4a65c_set_bcc79, 4, (some (.object "java/lang/Object")), 3)
abbrev iJx4a65c_add_72be8 : mI := (yJx4a65c_add_72be8, cJx4a65c_add_72be8, 4, none, 5)
abbrev iJx4a65c_add_9ea2d : mI := (yJx4a65c_add_9ea2d, cJx4a65c_add_9ea2d, 2, (some .boolean), 6)
abbrev iJx4a65c_remove_915e3 : mI := (yJx4a65c_remove_915e3, cJx4a65c_remove_915e3, 4, (some (.object "java/lang/Object")), 3)
abbrev iJx4a65c_fastRemove_b59b0 : mI := (yJx4a65c_fastRemove_b59b0, cJx4a65c_fastRemove_b59b0, 4, none, 1)
abbrev iJx4a65c_clear_da8c8 : mI := (yJx4a65c_clear_da8c8, cJx4a65c_clear_da8c8, 4, none, 0)
abbrev iJ7_copyOf_1904c : mI := (yJ7_copyOf_1904c, cJ7_copyOf_1904c, 2, (some (.array (.object "java/lang/Object"))), 2)
abbrev iJ7_copyOf_6403c : mI := (yJ7_copyOf_6403c, cJ7_copyOf_6403c, 4, (some (.array (.object "java/lang/Object"))), 1)
abbrev iJ15_checkIndex_7cf53 : mI := (yJ15_checkIndex_7cf53, cJ15_checkIndex_7cf53, 2, (some .int), 2)
abbrev iJ8_newLength_cabcc : mI := (yJ8_newLength_cabcc, cJ8_newLength_cabcc, 4, (some .int), 2)
abbrev iJ8_hugeLength_7cf53 : mI := (yJ8_hugeLength_7cf53, cJ8_hugeLength_7cf53, 3, (some .int), 1)
abbrev iJ3_checkIndex_8e157 : mI := (yJ3_checkIndex_8e157, cJ3_checkIndex_8e157, 3, (some .int), 1)
abbrev iL_cell : mI := (yL_cell, cL_cell, 2, (some .int), 0)
abbrev iL_low : mI := (yL_low, cL_low, 2, (some .int), 0)
abbrev iL_code : mI := (yL_code, cL_code, 1, (some .int), 0)
abbrev iL_at : mI := (yL_at, cL_at, 3, (some .int), 0)
abbrev iL_size : mI := (yL_size, cL_size, 3, (some .int), 1)
abbrev iL_from : mI := (yL_from, cL_from, 7, (some .long), 2)
abbrev iL_piece : mI := (yL_piece, cL_piece, 5, (some .long), 2)
abbrev iL_place : mI := (yL_place, cL_place, 8, (some .int), 3)
abbrev iL_named : mI := (yL_named, cL_named, 5, (some .boolean), 1)
abbrev iL_ahead : mI := (yL_ahead, cL_ahead, 8, (some .boolean), 4)
abbrev iL_best : mI := (yL_best, cL_best, 12, (some .int), 5)
abbrev iL_common : mI := (yL_common, cL_common, 8, (some .int), 2)
abbrev iL_cut : mI := (yL_cut, cL_cut, 3, (some .long), 2)
abbrev iL_ranked : mI := (yL_ranked, cL_ranked, 10, (some .int), 5)
abbrev iL_same : mI := (yL_same, cL_same, 16, (some .boolean), 9)
abbrev iL_made : mI := (yL_made, cL_made, 9, (some .long), 1)
end
section
set_option maxRecDepth 20000 in
theorem cw_Jx4a65c : ∀ w ∈ u_ws RJx4a65c TJx4a65c 3, w ∈ BIG := by
  intro w hw
  obtain ⟨k, hk, rfl⟩ := List.mem_map.mp hw
  have hk := List.mem_range.mp hk
  match k, hk with
  | 0, _ => exact bw 71 (by decide +kernel) rfl
  | 1, _ => exact bw 67 (by decide +kernel) rfl
  | 2, _ => exact bw 69 (by decide +kernel) rfl
set_option maxRecDepth 20000 in
theorem cw_X0 : ∀ w ∈ u_ws RX0 TX0 3, w ∈ BIG := by
  intro w hw
  obtain ⟨k, hk, rfl⟩ := List.mem_map.mp hw
  have hk := List.mem_range.mp hk
  match k, hk with
  | 0, _ => exact bw 111 (by decide +kernel) rfl
  | 1, _ => exact bw 113 (by decide +kernel) rfl
  | 2, _ => exact bw 115 (by decide +kernel) rfl
set_option maxRecDepth 20000 in
theorem cw_X1 : ∀ w ∈ u_ws RX1 TX1 3, w ∈ BIG := by
  intro w hw
  obtain ⟨k, hk, rfl⟩ := List.mem_map.mp hw
  have hk := List.mem_range.mp hk
  match k, hk with
  | 0, _ => exact bw 155 (by decide +kernel) rfl
  | 1, _ => exact bw 157 (by decide +kernel) rfl
  | 2, _ => exact bw 159 (by decide +kernel) rfl
set_option maxRecDepth 20000 in
theorem cw_X2 : ∀ w ∈ u_ws RX2 TX2 5, w ∈ BIG := by
  intro w hw
  obtain ⟨k, hk, rfl⟩ := List.mem_map.mp hw
  have hk := List.mem_range.mp hk
  match k, hk with
  | 0, _ => exact bw 87 (by decide +kernel) rfl
  | 1, _ => exact bw 89 (by decide +kernel) rfl
  | 2, _ => exact bw 91 (by decide +kernel) rfl
  | 3, _ => exact bw 93 (by decide +kernel) rfl
  | 4, _ => exact bw 95 (by decide +kernel) rfl
set_option maxRecDepth 20000 in
theorem cw_X3 : ∀ w ∈ u_ws RX3 TX3 5, w ∈ BIG := by
  intro w hw
  obtain ⟨k, hk, rfl⟩ := List.mem_map.mp hw
  have hk := List.mem_range.mp hk
  match k, hk with
  | 0, _ => exact bw 180 (by decide +kernel) rfl
  | 1, _ => exact bw 182 (by decide +kernel) rfl
  | 2, _ => exact bw 184 (by decide +kernel) rfl
  | 3, _ => exact bw 186 (by decide +kernel) rfl
  | 4, _ => exact bw 188 (by decide +kernel) rfl
set_option maxRecDepth 20000 in
theorem cw_X4 : ∀ w ∈ u_ws RX4 TX4 7, w ∈ BIG := by
  intro w hw
  obtain ⟨k, hk, rfl⟩ := List.mem_map.mp hw
  have hk := List.mem_range.mp hk
  match k, hk with
  | 0, _ => exact bw 130 (by decide +kernel) rfl
  | 1, _ => exact bw 132 (by decide +kernel) rfl
  | 2, _ => exact bw 134 (by decide +kernel) rfl
  | 3, _ => exact bw 136 (by decide +kernel) rfl
  | 4, _ => exact bw 138 (by decide +kernel) rfl
  | 5, _ => exact bw 140 (by decide +kernel) rfl
  | 6, _ => exact bw 142 (by decide +kernel) rfl
set_option maxRecDepth 20000 in
theorem cw_X5 : ∀ w ∈ u_ws RX5 TX5 3, w ∈ BIG := by
  intro w hw
  obtain ⟨k, hk, rfl⟩ := List.mem_map.mp hw
  have hk := List.mem_range.mp hk
  match k, hk with
  | 0, _ => exact bw 282 (by decide +kernel) rfl
  | 1, _ => exact bw 284 (by decide +kernel) rfl
  | 2, _ => exact bw 286 (by decide +kernel) rfl
set_option maxRecDepth 20000 in
theorem cw_X6 : ∀ w ∈ u_ws RX6 TX6 6, w ∈ BIG := by
  intro w hw
  obtain ⟨k, hk, rfl⟩ := List.mem_map.mp hw
  have hk := List.mem_range.mp hk
  match k, hk with
  | 0, _ => exact bw 197 (by decide +kernel) rfl
  | 1, _ => exact bw 199 (by decide +kernel) rfl
  | 2, _ => exact bw 201 (by decide +kernel) rfl
  | 3, _ => exact bw 203 (by decide +kernel) rfl
  | 4, _ => exact bw 205 (by decide +kernel) rfl
  | 5, _ => exact bw 207 (by decide +kernel) rfl
set_option maxRecDepth 20000 in
theorem f_Jx4a65c_9 : mF RJx4a65c 9 0 1 := ⟨_, rfl, by decide, cw_Jx4a65c, "java/util/ArrayList", bw 62 (by decide +kernel) rfl, Or.inl rfl⟩
set_option maxRecDepth 20000 in
theorem p_Jx4a65c_9 : mFp RJx4a65c 9 0 1 (.array (.object "java/lang/Object")) false := ⟨_, tyJx4a65c, rfl, by decide, cw_Jx4a65c, ⟨"java/util/ArrayList", bw 62 (by decide +kernel) rfl, Or.inl rfl⟩, tyJx4a65c_ok, nmJx4a65c, rfl, rfl, fun h => by first | rfl | exact absurd h (by decide)⟩
set_option maxRecDepth 20000 in
theorem f_Jx4a65c_48 : mF RJx4a65c 48 0 2 := ⟨_, rfl, by decide, cw_Jx4a65c, "java/util/ArrayList", bw 63 (by decide +kernel) rfl, Or.inl rfl⟩
set_option maxRecDepth 20000 in
theorem p_Jx4a65c_48 : mFp RJx4a65c 48 0 2 (.int) false := ⟨_, tyJx4a65c, rfl, by decide, cw_Jx4a65c, ⟨"java/util/ArrayList", bw 63 (by decide +kernel) rfl, Or.inl rfl⟩, tyJx4a65c_ok, nmJx4a65c, rfl, rfl, fun h => by first | rfl | exact absurd h (by decide)⟩
set_option maxRecDepth 20000 in
theorem f_Jx4a65c_63 : mF RJx4a65c 63 0 0 := ⟨_, rfl, by decide, cw_Jx4a65c, "java/util/ArrayList", bw 65 (by decide +kernel) rfl, Or.inr (bw 66 (by decide +kernel) rfl)⟩
set_option maxRecDepth 20000 in
theorem p_Jx4a65c_63 : mFp RJx4a65c 63 0 0 (.int) false := ⟨_, tyJx4a65c, rfl, by decide, cw_Jx4a65c, ⟨"java/util/ArrayList", bw 65 (by decide +kernel) rfl, Or.inr (bw 66 (by decide +kernel) rfl)⟩, tyJx4a65c_ok, nmJx4a65c, rfl, rfl, fun h => by first | rfl | exact absurd h (by decide)⟩
set_option maxRecDepth 20000 in
theorem p_Jxc12de_7 : mFp RJxc12de 7 0 0 (.int) false := ⟨_, tyJx4a65c, rfl, by decide, cw_Jx4a65c, ⟨"java/util/AbstractList", bw 64 (by decide +kernel) rfl, Or.inl rfl⟩, tyJx4a65c_ok, nmJx4a65c, rfl, rfl, fun h => by first | rfl | exact absurd h (by decide)⟩
set_option maxRecDepth 20000 in
theorem f_X0_11 : mF RX0 11 1 0 := ⟨_, rfl, by decide, cw_X0, "TitleFinder$History", bw 108 (by decide +kernel) rfl, Or.inl rfl⟩
set_option maxRecDepth 20000 in
theorem p_X0_11 : mFp RX0 11 1 0 (.array (.object "TitleFinder$State")) true := ⟨_, tyX0, rfl, by decide, cw_X0, ⟨"TitleFinder$History", bw 108 (by decide +kernel) rfl, Or.inl rfl⟩, tyX0_ok, nmX0, rfl, rfl, fun h => by first | rfl | exact absurd h (by decide)⟩
set_option maxRecDepth 20000 in
theorem f_X0_18 : mF RX0 18 1 1 := ⟨_, rfl, by decide, cw_X0, "TitleFinder$History", bw 109 (by decide +kernel) rfl, Or.inl rfl⟩
set_option maxRecDepth 20000 in
theorem p_X0_18 : mFp RX0 18 1 1 (.int) false := ⟨_, tyX0, rfl, by decide, cw_X0, ⟨"TitleFinder$History", bw 109 (by decide +kernel) rfl, Or.inl rfl⟩, tyX0_ok, nmX0, rfl, rfl, fun h => by first | rfl | exact absurd h (by decide)⟩
set_option maxRecDepth 20000 in
theorem f_X0_26 : mF RX0 26 1 2 := ⟨_, rfl, by decide, cw_X0, "TitleFinder$History", bw 110 (by decide +kernel) rfl, Or.inl rfl⟩
set_option maxRecDepth 20000 in
theorem p_X0_26 : mFp RX0 26 1 2 (.int) false := ⟨_, tyX0, rfl, by decide, cw_X0, ⟨"TitleFinder$History", bw 110 (by decide +kernel) rfl, Or.inl rfl⟩, tyX0_ok, nmX0, rfl, rfl, fun h => by first | rfl | exact absurd h (by decide)⟩
set_option maxRecDepth 20000 in
theorem f_X1_9 : mF RX1 9 2 0 := ⟨_, rfl, by decide, cw_X1, "TitleFinder$Ranking", bw 151 (by decide +kernel) rfl, Or.inl rfl⟩
set_option maxRecDepth 20000 in
theorem p_X1_9 : mFp RX1 9 2 0 (.array .int) true := ⟨_, tyX1, rfl, by decide, cw_X1, ⟨"TitleFinder$Ranking", bw 151 (by decide +kernel) rfl, Or.inl rfl⟩, tyX1_ok, nmX1, rfl, rfl, fun h => by first | rfl | exact absurd h (by decide)⟩
set_option maxRecDepth 20000 in
theorem f_X1_15 : mF RX1 15 2 1 := ⟨_, rfl, by decide, cw_X1, "TitleFinder$Ranking", bw 152 (by decide +kernel) rfl, Or.inl rfl⟩
set_option maxRecDepth 20000 in
theorem p_X1_15 : mFp RX1 15 2 1 (.array .int) true := ⟨_, tyX1, rfl, by decide, cw_X1, ⟨"TitleFinder$Ranking", bw 152 (by decide +kernel) rfl, Or.inl rfl⟩, tyX1_ok, nmX1, rfl, rfl, fun h => by first | rfl | exact absurd h (by decide)⟩
set_option maxRecDepth 20000 in
theorem f_X1_18 : mF RX1 18 2 2 := ⟨_, rfl, by decide, cw_X1, "TitleFinder$Ranking", bw 153 (by decide +kernel) rfl, Or.inl rfl⟩
set_option maxRecDepth 20000 in
theorem p_X1_18 : mFp RX1 18 2 2 (.int) false := ⟨_, tyX1, rfl, by decide, cw_X1, ⟨"TitleFinder$Ranking", bw 153 (by decide +kernel) rfl, Or.inl rfl⟩, tyX1_ok, nmX1, rfl, rfl, fun h => by first | rfl | exact absurd h (by decide)⟩
set_option maxRecDepth 20000 in
theorem f_X1_22 : mF RX1 22 3 0 := ⟨_, rfl, by decide, cw_X2, "TitleFinder$State", bw 75 (by decide +kernel) rfl, Or.inl rfl⟩
set_option maxRecDepth 20000 in
theorem f_X2_12 : mF RX2 12 3 0 := ⟨_, rfl, by decide, cw_X2, "TitleFinder$State", bw 74 (by decide +kernel) rfl, Or.inl rfl⟩
set_option maxRecDepth 20000 in
theorem p_X2_12 : mFp RX2 12 3 0 (.object "java/util/ArrayList") true := ⟨_, tyX2, rfl, by decide, cw_X2, ⟨"TitleFinder$State", bw 74 (by decide +kernel) rfl, Or.inl rfl⟩, tyX2_ok, nmX2, rfl, rfl, fun h => by first | rfl | exact absurd h (by decide)⟩
set_option maxRecDepth 20000 in
theorem f_X2_18 : mF RX2 18 3 1 := ⟨_, rfl, by decide, cw_X2, "TitleFinder$State", bw 78 (by decide +kernel) rfl, Or.inl rfl⟩
set_option maxRecDepth 20000 in
theorem p_X2_18 : mFp RX2 18 3 1 (.array .char) true := ⟨_, tyX2, rfl, by decide, cw_X2, ⟨"TitleFinder$State", bw 78 (by decide +kernel) rfl, Or.inl rfl⟩, tyX2_ok, nmX2, rfl, rfl, fun h => by first | rfl | exact absurd h (by decide)⟩
set_option maxRecDepth 20000 in
theorem f_X2_39 : mF RX2 39 3 2 := ⟨_, rfl, by decide, cw_X2, "TitleFinder$State", bw 80 (by decide +kernel) rfl, Or.inl rfl⟩
set_option maxRecDepth 20000 in
theorem p_X2_39 : mFp RX2 39 3 2 (.int) false := ⟨_, tyX2, rfl, by decide, cw_X2, ⟨"TitleFinder$State", bw 80 (by decide +kernel) rfl, Or.inl rfl⟩, tyX2_ok, nmX2, rfl, rfl, fun h => by first | rfl | exact absurd h (by decide)⟩
set_option maxRecDepth 20000 in
theorem f_X2_43 : mF RX2 43 3 3 := ⟨_, rfl, by decide, cw_X2, "TitleFinder$State", bw 83 (by decide +kernel) rfl, Or.inl rfl⟩
set_option maxRecDepth 20000 in
theorem p_X2_43 : mFp RX2 43 3 3 (.int) false := ⟨_, tyX2, rfl, by decide, cw_X2, ⟨"TitleFinder$State", bw 83 (by decide +kernel) rfl, Or.inl rfl⟩, tyX2_ok, nmX2, rfl, rfl, fun h => by first | rfl | exact absurd h (by decide)⟩
set_option maxRecDepth 20000 in
theorem f_X2_46 : mF RX2 46 3 4 := ⟨_, rfl, by decide, cw_X2, "TitleFinder$State", bw 85 (by decide +kernel) rfl, Or.inl rfl⟩
set_option maxRecDepth 20000 in
theorem p_X2_46 : mFp RX2 46 3 4 (.int) false := ⟨_, tyX2, rfl, by decide, cw_X2, ⟨"TitleFinder$State", bw 85 (by decide +kernel) rfl, Or.inl rfl⟩, tyX2_ok, nmX2, rfl, rfl, fun h => by first | rfl | exact absurd h (by decide)⟩
set_option maxRecDepth 20000 in
theorem f_X2_64 : mF RX2 64 6 2 := ⟨_, rfl, by decide, cw_X5, "TitleFinder$Title", bw 280 (by decide +kernel) rfl, Or.inl rfl⟩
set_option maxRecDepth 20000 in
theorem f_X2_67 : mF RX2 67 6 0 := ⟨_, rfl, by decide, cw_X5, "TitleFinder$Title", bw 275 (by decide +kernel) rfl, Or.inl rfl⟩
set_option maxRecDepth 20000 in
theorem f_X3_11 : mF RX3 11 4 0 := ⟨_, rfl, by decide, cw_X3, "TitleFinder$Study", bw 171 (by decide +kernel) rfl, Or.inl rfl⟩
set_option maxRecDepth 20000 in
theorem p_X3_11 : mFp RX3 11 4 0 (.array (.array .int)) true := ⟨_, tyX3, rfl, by decide, cw_X3, ⟨"TitleFinder$Study", bw 171 (by decide +kernel) rfl, Or.inl rfl⟩, tyX3_ok, nmX3, rfl, rfl, fun h => by first | rfl | exact absurd h (by decide)⟩
set_option maxRecDepth 20000 in
theorem p_X3_16 : mFp RX3 16 4 1 (.int) false := ⟨_, tyX3, rfl, by decide, cw_X3, ⟨"TitleFinder$Study", bw 172 (by decide +kernel) rfl, Or.inl rfl⟩, tyX3_ok, nmX3, rfl, rfl, fun h => by first | rfl | exact absurd h (by decide)⟩
set_option maxRecDepth 20000 in
theorem f_X3_20 : mF RX3 20 4 2 := ⟨_, rfl, by decide, cw_X3, "TitleFinder$Study", bw 174 (by decide +kernel) rfl, Or.inl rfl⟩
set_option maxRecDepth 20000 in
theorem p_X3_20 : mFp RX3 20 4 2 (.int) false := ⟨_, tyX3, rfl, by decide, cw_X3, ⟨"TitleFinder$Study", bw 174 (by decide +kernel) rfl, Or.inl rfl⟩, tyX3_ok, nmX3, rfl, rfl, fun h => by first | rfl | exact absurd h (by decide)⟩
set_option maxRecDepth 20000 in
theorem p_X3_23 : mFp RX3 23 4 3 (.int) false := ⟨_, tyX3, rfl, by decide, cw_X3, ⟨"TitleFinder$Study", bw 176 (by decide +kernel) rfl, Or.inl rfl⟩, tyX3_ok, nmX3, rfl, rfl, fun h => by first | rfl | exact absurd h (by decide)⟩
set_option maxRecDepth 20000 in
theorem f_X3_26 : mF RX3 26 4 4 := ⟨_, rfl, by decide, cw_X3, "TitleFinder$Study", bw 178 (by decide +kernel) rfl, Or.inl rfl⟩
set_option maxRecDepth 20000 in
theorem p_X3_26 : mFp RX3 26 4 4 (.int) false := ⟨_, tyX3, rfl, by decide, cw_X3, ⟨"TitleFinder$Study", bw 178 (by decide +kernel) rfl, Or.inl rfl⟩, tyX3_ok, nmX3, rfl, rfl, fun h => by first | rfl | exact absurd h (by decide)⟩
set_option maxRecDepth 20000 in
theorem f_X3_35 : mF RX3 35 3 0 := ⟨_, rfl, by decide, cw_X2, "TitleFinder$State", bw 76 (by decide +kernel) rfl, Or.inl rfl⟩
set_option maxRecDepth 20000 in
theorem f_X3_47 : mF RX3 47 3 3 := ⟨_, rfl, by decide, cw_X2, "TitleFinder$State", bw 82 (by decide +kernel) rfl, Or.inl rfl⟩
set_option maxRecDepth 20000 in
theorem f_X4_9 : mF RX4 9 5 0 := ⟨_, rfl, by decide, cw_X4, "TitleFinder$Text", bw 124 (by decide +kernel) rfl, Or.inl rfl⟩
set_option maxRecDepth 20000 in
theorem p_X4_9 : mFp RX4 9 5 0 (.array .char) true := ⟨_, tyX4, rfl, by decide, cw_X4, ⟨"TitleFinder$Text", bw 124 (by decide +kernel) rfl, Or.inl rfl⟩, tyX4_ok, nmX4, rfl, rfl, fun h => by first | rfl | exact absurd h (by decide)⟩
set_option maxRecDepth 20000 in
theorem f_X4_15 : mF RX4 15 5 1 := ⟨_, rfl, by decide, cw_X4, "TitleFinder$Text", bw 125 (by decide +kernel) rfl, Or.inl rfl⟩
set_option maxRecDepth 20000 in
theorem p_X4_15 : mFp RX4 15 5 1 (.int) false := ⟨_, tyX4, rfl, by decide, cw_X4, ⟨"TitleFinder$Text", bw 125 (by decide +kernel) rfl, Or.inl rfl⟩, tyX4_ok, nmX4, rfl, rfl, fun h => by first | rfl | exact absurd h (by decide)⟩
set_option maxRecDepth 20000 in
theorem f_X4_19 : mF RX4 19 5 2 := ⟨_, rfl, by decide, cw_X4, "TitleFinder$Text", bw 127 (by decide +kernel) rfl, Or.inl rfl⟩
set_option maxRecDepth 20000 in
theorem p_X4_19 : mFp RX4 19 5 2 (.int) false := ⟨_, tyX4, rfl, by decide, cw_X4, ⟨"TitleFinder$Text", bw 127 (by decide +kernel) rfl, Or.inl rfl⟩, tyX4_ok, nmX4, rfl, rfl, fun h => by first | rfl | exact absurd h (by decide)⟩
set_option maxRecDepth 20000 in
theorem f_X4_52 : mF RX4 52 5 5 := ⟨_, rfl, by decide, cw_X4, "TitleFinder$Text", bw 128 (by decide +kernel) rfl, Or.inl rfl⟩
set_option maxRecDepth 20000 in
theorem p_X4_52 : mFp RX4 52 5 5 (.int) false := ⟨_, tyX4, rfl, by decide, cw_X4, ⟨"TitleFinder$Text", bw 128 (by decide +kernel) rfl, Or.inl rfl⟩, tyX4_ok, nmX4, rfl, rfl, fun h => by first | rfl | exact absurd h (by decide)⟩
set_option maxRecDepth 20000 in
theorem f_X4_59 : mF RX4 59 5 6 := ⟨_, rfl, by decide, cw_X4, "TitleFinder$Text", bw 129 (by decide +kernel) rfl, Or.inl rfl⟩
set_option maxRecDepth 20000 in
theorem p_X4_59 : mFp RX4 59 5 6 (.int) false := ⟨_, tyX4, rfl, by decide, cw_X4, ⟨"TitleFinder$Text", bw 129 (by decide +kernel) rfl, Or.inl rfl⟩, tyX4_ok, nmX4, rfl, rfl, fun h => by first | rfl | exact absurd h (by decide)⟩
end
section
set_option maxRecDepth 20000 in
theorem f_X5_9 : mF RX5 9 6 0 := ⟨_, rfl, by decide, cw_X5, "TitleFinder$Title", bw 274 (by decide +kernel) rfl, Or.inl rfl⟩
set_option maxRecDepth 20000 in
theorem p_X5_9 : mFp RX5 9 6 0 (.array .char) true := ⟨_, tyX5, rfl, by decide, cw_X5, ⟨"TitleFinder$Title", bw 274 (by decide +kernel) rfl, Or.inl rfl⟩, tyX5_ok, nmX5, rfl, rfl, fun h => by first | rfl | exact absurd h (by decide)⟩
set_option maxRecDepth 20000 in
theorem f_X5_15 : mF RX5 15 6 1 := ⟨_, rfl, by decide, cw_X5, "TitleFinder$Title", bw 277 (by decide +kernel) rfl, Or.inl rfl⟩
set_option maxRecDepth 20000 in
theorem p_X5_15 : mFp RX5 15 6 1 (.array .char) true := ⟨_, tyX5, rfl, by decide, cw_X5, ⟨"TitleFinder$Title", bw 277 (by decide +kernel) rfl, Or.inl rfl⟩, tyX5_ok, nmX5, rfl, rfl, fun h => by first | rfl | exact absurd h (by decide)⟩
set_option maxRecDepth 20000 in
theorem f_X5_18 : mF RX5 18 6 2 := ⟨_, rfl, by decide, cw_X5, "TitleFinder$Title", bw 279 (by decide +kernel) rfl, Or.inl rfl⟩
set_option maxRecDepth 20000 in
theorem p_X5_18 : mFp RX5 18 6 2 (.int) true := ⟨_, tyX5, rfl, by decide, cw_X5, ⟨"TitleFinder$Title", bw 279 (by decide +kernel) rfl, Or.inl rfl⟩, tyX5_ok, nmX5, rfl, rfl, fun h => by first | rfl | exact absurd h (by decide)⟩
set_option maxRecDepth 20000 in
theorem f_X6_10 : mF RX6 10 7 0 := ⟨_, rfl, by decide, cw_X6, "TitleFinder", bw 191 (by decide +kernel) rfl, Or.inl rfl⟩
set_option maxRecDepth 20000 in
theorem p_X6_10 : mFp RX6 10 7 0 (.object "TitleFinder$State") true := ⟨_, tyX6, rfl, by decide, cw_X6, ⟨"TitleFinder", bw 191 (by decide +kernel) rfl, Or.inl rfl⟩, tyX6_ok, nmX6, rfl, rfl, fun h => by first | rfl | exact absurd h (by decide)⟩
set_option maxRecDepth 20000 in
theorem f_X6_16 : mF RX6 16 7 1 := ⟨_, rfl, by decide, cw_X6, "TitleFinder", bw 192 (by decide +kernel) rfl, Or.inl rfl⟩
set_option maxRecDepth 20000 in
theorem p_X6_16 : mFp RX6 16 7 1 (.object "TitleFinder$State") true := ⟨_, tyX6, rfl, by decide, cw_X6, ⟨"TitleFinder", bw 192 (by decide +kernel) rfl, Or.inl rfl⟩, tyX6_ok, nmX6, rfl, rfl, fun h => by first | rfl | exact absurd h (by decide)⟩
set_option maxRecDepth 20000 in
theorem f_X6_22 : mF RX6 22 7 2 := ⟨_, rfl, by decide, cw_X6, "TitleFinder", bw 193 (by decide +kernel) rfl, Or.inl rfl⟩
set_option maxRecDepth 20000 in
theorem p_X6_22 : mFp RX6 22 7 2 (.object "TitleFinder$History") true := ⟨_, tyX6, rfl, by decide, cw_X6, ⟨"TitleFinder", bw 193 (by decide +kernel) rfl, Or.inl rfl⟩, tyX6_ok, nmX6, rfl, rfl, fun h => by first | rfl | exact absurd h (by decide)⟩
set_option maxRecDepth 20000 in
theorem f_X6_29 : mF RX6 29 7 3 := ⟨_, rfl, by decide, cw_X6, "TitleFinder", bw 194 (by decide +kernel) rfl, Or.inl rfl⟩
set_option maxRecDepth 20000 in
theorem p_X6_29 : mFp RX6 29 7 3 (.object "TitleFinder$Text") true := ⟨_, tyX6, rfl, by decide, cw_X6, ⟨"TitleFinder", bw 194 (by decide +kernel) rfl, Or.inl rfl⟩, tyX6_ok, nmX6, rfl, rfl, fun h => by first | rfl | exact absurd h (by decide)⟩
set_option maxRecDepth 20000 in
theorem f_X6_36 : mF RX6 36 7 4 := ⟨_, rfl, by decide, cw_X6, "TitleFinder", bw 195 (by decide +kernel) rfl, Or.inl rfl⟩
set_option maxRecDepth 20000 in
theorem p_X6_36 : mFp RX6 36 7 4 (.object "TitleFinder$Ranking") true := ⟨_, tyX6, rfl, by decide, cw_X6, ⟨"TitleFinder", bw 195 (by decide +kernel) rfl, Or.inl rfl⟩, tyX6_ok, nmX6, rfl, rfl, fun h => by first | rfl | exact absurd h (by decide)⟩
set_option maxRecDepth 20000 in
theorem f_X6_43 : mF RX6 43 7 5 := ⟨_, rfl, by decide, cw_X6, "TitleFinder", bw 196 (by decide +kernel) rfl, Or.inl rfl⟩
set_option maxRecDepth 20000 in
theorem p_X6_43 : mFp RX6 43 7 5 (.object "TitleFinder$Study") true := ⟨_, tyX6, rfl, by decide, cw_X6, ⟨"TitleFinder", bw 196 (by decide +kernel) rfl, Or.inl rfl⟩, tyX6_ok, nmX6, rfl, rfl, fun h => by first | rfl | exact absurd h (by decide)⟩
set_option maxRecDepth 20000 in
theorem f_X6_51 : mF RX6 51 5 1 := ⟨_, rfl, by decide, cw_X4, "TitleFinder$Text", bw 126 (by decide +kernel) rfl, Or.inl rfl⟩
set_option maxRecDepth 20000 in
theorem f_X6_97 : mF RX6 97 3 3 := ⟨_, rfl, by decide, cw_X2, "TitleFinder$State", bw 84 (by decide +kernel) rfl, Or.inl rfl⟩
set_option maxRecDepth 20000 in
theorem p_X6_97 : mFp RX6 97 3 3 (.int) false := ⟨_, tyX2, rfl, by decide, cw_X2, ⟨"TitleFinder$State", bw 84 (by decide +kernel) rfl, Or.inl rfl⟩, tyX2_ok, nmX2, rfl, rfl, fun h => by first | rfl | exact absurd h (by decide)⟩
set_option maxRecDepth 20000 in
theorem f_X6_100 : mF RX6 100 3 4 := ⟨_, rfl, by decide, cw_X2, "TitleFinder$State", bw 86 (by decide +kernel) rfl, Or.inl rfl⟩
set_option maxRecDepth 20000 in
theorem p_X6_100 : mFp RX6 100 3 4 (.int) false := ⟨_, tyX2, rfl, by decide, cw_X2, ⟨"TitleFinder$State", bw 86 (by decide +kernel) rfl, Or.inl rfl⟩, tyX2_ok, nmX2, rfl, rfl, fun h => by first | rfl | exact absurd h (by decide)⟩
set_option maxRecDepth 20000 in
theorem f_X6_110 : mF RX6 110 3 2 := ⟨_, rfl, by decide, cw_X2, "TitleFinder$State", bw 81 (by decide +kernel) rfl, Or.inl rfl⟩
set_option maxRecDepth 20000 in
theorem p_X6_110 : mFp RX6 110 3 2 (.int) false := ⟨_, tyX2, rfl, by decide, cw_X2, ⟨"TitleFinder$State", bw 81 (by decide +kernel) rfl, Or.inl rfl⟩, tyX2_ok, nmX2, rfl, rfl, fun h => by first | rfl | exact absurd h (by decide)⟩
set_option maxRecDepth 20000 in
theorem f_X6_119 : mF RX6 119 3 0 := ⟨_, rfl, by decide, cw_X2, "TitleFinder$State", bw 77 (by decide +kernel) rfl, Or.inl rfl⟩
set_option maxRecDepth 20000 in
theorem f_X6_144 : mF RX6 144 6 0 := ⟨_, rfl, by decide, cw_X5, "TitleFinder$Title", bw 276 (by decide +kernel) rfl, Or.inl rfl⟩
set_option maxRecDepth 20000 in
theorem f_X6_156 : mF RX6 156 6 1 := ⟨_, rfl, by decide, cw_X5, "TitleFinder$Title", bw 278 (by decide +kernel) rfl, Or.inl rfl⟩
set_option maxRecDepth 20000 in
theorem f_X6_159 : mF RX6 159 6 2 := ⟨_, rfl, by decide, cw_X5, "TitleFinder$Title", bw 281 (by decide +kernel) rfl, Or.inl rfl⟩
set_option maxRecDepth 20000 in
theorem f_X6_165 : mF RX6 165 4 1 := ⟨_, rfl, by decide, cw_X3, "TitleFinder$Study", bw 173 (by decide +kernel) rfl, Or.inl rfl⟩
set_option maxRecDepth 20000 in
theorem f_X6_168 : mF RX6 168 4 2 := ⟨_, rfl, by decide, cw_X3, "TitleFinder$Study", bw 175 (by decide +kernel) rfl, Or.inl rfl⟩
set_option maxRecDepth 20000 in
theorem f_X6_174 : mF RX6 174 4 3 := ⟨_, rfl, by decide, cw_X3, "TitleFinder$Study", bw 177 (by decide +kernel) rfl, Or.inl rfl⟩
set_option maxRecDepth 20000 in
theorem f_X6_177 : mF RX6 177 4 4 := ⟨_, rfl, by decide, cw_X3, "TitleFinder$Study", bw 179 (by decide +kernel) rfl, Or.inl rfl⟩
set_option maxRecDepth 20000 in
theorem f_X6_202 : mF RX6 202 3 1 := ⟨_, rfl, by decide, cw_X2, "TitleFinder$State", bw 79 (by decide +kernel) rfl, Or.inl rfl⟩
set_option maxRecDepth 20000 in
theorem f_X6_208 : mF RX6 208 2 2 := ⟨_, rfl, by decide, cw_X1, "TitleFinder$Ranking", bw 154 (by decide +kernel) rfl, Or.inl rfl⟩
set_option maxRecDepth 20000 in
theorem n_X0_9 : mN RX0 9 3 [.null, .null, .int 0, .int 0, .int 0] := ⟨_, tyX2, rfl, cw_X2, tyX2_ok, bw 105 (by decide +kernel) rfl, bw 43 (by decide +kernel) rfl, bw 19 (by decide +kernel) rfl, by decide +kernel, rfl⟩
set_option maxRecDepth 20000 in
theorem n_X2_9 : mN RX2 9 0 [.int 0, .null, .int 0] := ⟨_, tyJx4a65c, rfl, cw_Jx4a65c, tyJx4a65c_ok, bw 48 (by decide +kernel) rfl, bw 49 (by decide +kernel) rfl, bw 22 (by decide +kernel) rfl, by decide +kernel, rfl⟩
set_option maxRecDepth 20000 in
theorem n_X5_10 : mN RX5 10 6 [.null, .null, .int 0] := ⟨_, tyX5, rfl, cw_X5, tyX5_ok, bw 262 (by decide +kernel) rfl, bw 263 (by decide +kernel) rfl, bw 28 (by decide +kernel) rfl, by decide +kernel, rfl⟩
set_option maxRecDepth 20000 in
theorem n_X6_7 : mN RX6 7 3 [.null, .null, .int 0, .int 0, .int 0] := ⟨_, tyX2, rfl, cw_X2, tyX2_ok, bw 42 (by decide +kernel) rfl, bw 43 (by decide +kernel) rfl, bw 19 (by decide +kernel) rfl, by decide +kernel, rfl⟩
set_option maxRecDepth 20000 in
theorem n_X6_19 : mN RX6 19 1 [.null, .int 0, .int 0] := ⟨_, tyX0, rfl, cw_X0, tyX0_ok, bw 99 (by decide +kernel) rfl, bw 100 (by decide +kernel) rfl, bw 23 (by decide +kernel) rfl, by decide +kernel, rfl⟩
set_option maxRecDepth 20000 in
theorem n_X6_26 : mN RX6 26 5 [.null, .int 0, .int 0, .int 0, .int 0, .int 0, .int 0] := ⟨_, tyX4, rfl, cw_X4, tyX4_ok, bw 118 (by decide +kernel) rfl, bw 119 (by decide +kernel) rfl, bw 24 (by decide +kernel) rfl, by decide +kernel, rfl⟩
set_option maxRecDepth 20000 in
theorem n_X6_33 : mN RX6 33 2 [.null, .null, .int 0] := ⟨_, tyX1, rfl, cw_X1, tyX1_ok, bw 145 (by decide +kernel) rfl, bw 146 (by decide +kernel) rfl, bw 25 (by decide +kernel) rfl, by decide +kernel, rfl⟩
set_option maxRecDepth 20000 in
theorem n_X6_40 : mN RX6 40 4 [.null, .int 0, .int 0, .int 0, .int 0] := ⟨_, tyX3, rfl, cw_X3, tyX3_ok, bw 163 (by decide +kernel) rfl, bw 164 (by decide +kernel) rfl, bw 26 (by decide +kernel) rfl, by decide +kernel, rfl⟩
set_option maxRecDepth 20000 in
theorem n_L_46 : mN RL 46 7 [.null, .null, .null, .null, .null, .null] := ⟨_, tyX6, rfl, cw_X6, tyX6_ok, bw 34 (by decide +kernel) rfl, bw 35 (by decide +kernel) rfl, bw 18 (by decide +kernel) rfl, by decide +kernel, rfl⟩
set_option maxRecDepth 20000 in
theorem m_X0_17 : mCn RX0 17 iX2_init 0 := ⟨⟨bw 46 (by decide +kernel) rfl, bw 19 (by decide +kernel) rfl, ⟨by decide +kernel, by decide +kernel⟩, by decide +kernel⟩, ⟨"TitleFinder", by decide +kernel⟩, bw 45 (by decide +kernel) rfl, rfl, rfl⟩
set_option maxRecDepth 20000 in
theorem m_X0_22 : mCv RX0 22 iX2_copyFrom 1 := ⟨⟨bw 326 (by decide +kernel) rfl, bw 19 (by decide +kernel) rfl, ⟨by decide +kernel, by decide +kernel⟩, by decide +kernel⟩, bw 323 (by decide +kernel) rfl, bw 324 (by decide +kernel) rfl, bw 325 (by decide +kernel) rfl⟩
set_option maxRecDepth 20000 in
theorem m_X1_28 : mCv RX1 28 iJx4a65c_size_8abf5 0 := ⟨⟨bw 296 (by decide +kernel) rfl, bw 22 (by decide +kernel) rfl, ⟨by decide +kernel, by decide +kernel⟩, by decide +kernel⟩, bw 508 (by decide +kernel) rfl, bw 294 (by decide +kernel) rfl, bw 295 (by decide +kernel) rfl⟩
set_option maxRecDepth 20000 in
theorem m_X1_34 : mCv RX1 34 iX2_placeOfMatch 1 := ⟨⟨bw 512 (by decide +kernel) rfl, bw 19 (by decide +kernel) rfl, ⟨by decide +kernel, by decide +kernel⟩, by decide +kernel⟩, bw 509 (by decide +kernel) rfl, bw 510 (by decide +kernel) rfl, bw 511 (by decide +kernel) rfl⟩
set_option maxRecDepth 20000 in
theorem m_X1_38 : mCv RX1 38 iX1_insert 3 := ⟨⟨bw 523 (by decide +kernel) rfl, bw 25 (by decide +kernel) rfl, ⟨by decide +kernel, by decide +kernel⟩, by decide +kernel⟩, bw 520 (by decide +kernel) rfl, bw 522 (by decide +kernel) rfl, bw 14 (by decide +kernel) rfl⟩
set_option maxRecDepth 20000 in
theorem m_X1_42 : mCv RX1 42 iX2_comesBefore 4 := ⟨⟨bw 474 (by decide +kernel) rfl, bw 19 (by decide +kernel) rfl, ⟨by decide +kernel, by decide +kernel⟩, by decide +kernel⟩, bw 524 (by decide +kernel) rfl, bw 472 (by decide +kernel) rfl, bw 473 (by decide +kernel) rfl⟩
set_option maxRecDepth 20000 in
theorem m_X1_46 : mCv RX1 46 iX1_has 1 := ⟨⟨bw 536 (by decide +kernel) rfl, bw 25 (by decide +kernel) rfl, ⟨by decide +kernel, by decide +kernel⟩, by decide +kernel⟩, bw 545 (by decide +kernel) rfl, bw 534 (by decide +kernel) rfl, bw 535 (by decide +kernel) rfl⟩
set_option maxRecDepth 20000 in
theorem m_X2_11 : mCi RX2 11 iJx4a65c_init_da8c8 0 := ⟨⟨bw 52 (by decide +kernel) rfl, bw 22 (by decide +kernel) rfl, ⟨by decide +kernel, by decide +kernel⟩, by decide +kernel⟩, bw 50 (by decide +kernel) rfl, bw 51 (by decide +kernel) rfl, rfl, rfl⟩
set_option maxRecDepth 20000 in
theorem m_X2_22 : mCv RX2 22 iJx4a65c_clear_da8c8 0 := ⟨⟨bw 330 (by decide +kernel) rfl, bw 22 (by decide +kernel) rfl, ⟨by decide +kernel, by decide +kernel⟩, by decide +kernel⟩, bw 327 (by decide +kernel) rfl, bw 328 (by decide +kernel) rfl, bw 329 (by decide +kernel) rfl⟩
set_option maxRecDepth 20000 in
theorem m_X2_25 : mCv RX2 25 iJx4a65c_size_8abf5 0 := ⟨⟨bw 296 (by decide +kernel) rfl, bw 22 (by decide +kernel) rfl, ⟨by decide +kernel, by decide +kernel⟩, by decide +kernel⟩, bw 293 (by decide +kernel) rfl, bw 294 (by decide +kernel) rfl, bw 295 (by decide +kernel) rfl⟩
set_option maxRecDepth 20000 in
theorem m_X2_29 : mCv RX2 29 iJx4a65c_get_915e3 1 := ⟨⟨bw 300 (by decide +kernel) rfl, bw 22 (by decide +kernel) rfl, ⟨by decide +kernel, by decide +kernel⟩, by decide +kernel⟩, bw 297 (by decide +kernel) rfl, bw 298 (by decide +kernel) rfl, bw 299 (by decide +kernel) rfl⟩
set_option maxRecDepth 20000 in
theorem m_X2_35 : mCv RX2 35 iJx4a65c_add_9ea2d 1 := ⟨⟨bw 334 (by decide +kernel) rfl, bw 22 (by decide +kernel) rfl, ⟨by decide +kernel, by decide +kernel⟩, by decide +kernel⟩, bw 331 (by decide +kernel) rfl, bw 332 (by decide +kernel) rfl, bw 333 (by decide +kernel) rfl⟩
set_option maxRecDepth 20000 in
theorem m_X2_49 : mCv RX2 49 iX5_hasLettersOf 1 := ⟨⟨bw 315 (by decide +kernel) rfl, bw 28 (by decide +kernel) rfl, ⟨by decide +kernel, by decide +kernel⟩, by decide +kernel⟩, bw 312 (by decide +kernel) rfl, bw 313 (by decide +kernel) rfl, bw 314 (by decide +kernel) rfl⟩
set_option maxRecDepth 20000 in
theorem m_X2_53 : mCv RX2 53 iX2_queryEndsWithLetter 0 := ⟨⟨bw 495 (by decide +kernel) rfl, bw 19 (by decide +kernel) rfl, ⟨by decide +kernel, by decide +kernel⟩, by decide +kernel⟩, bw 513 (by decide +kernel) rfl, bw 493 (by decide +kernel) rfl, bw 494 (by decide +kernel) rfl⟩
set_option maxRecDepth 20000 in
theorem m_X2_57 : mCv RX2 57 iX5_placeOf 3 := ⟨⟨bw 517 (by decide +kernel) rfl, bw 28 (by decide +kernel) rfl, ⟨by decide +kernel, by decide +kernel⟩, by decide +kernel⟩, bw 514 (by decide +kernel) rfl, bw 515 (by decide +kernel) rfl, bw 516 (by decide +kernel) rfl⟩
set_option maxRecDepth 20000 in
theorem m_X2_61 : mCv RX2 61 iX5_comesByNameBefore 1 := ⟨⟨bw 478 (by decide +kernel) rfl, bw 28 (by decide +kernel) rfl, ⟨by decide +kernel, by decide +kernel⟩, by decide +kernel⟩, bw 475 (by decide +kernel) rfl, bw 476 (by decide +kernel) rfl, bw 477 (by decide +kernel) rfl⟩
set_option maxRecDepth 20000 in
theorem m_X3_29 : mCv RX3 29 iX2_has 1 := ⟨⟨bw 398 (by decide +kernel) rfl, bw 19 (by decide +kernel) rfl, ⟨by decide +kernel, by decide +kernel⟩, by decide +kernel⟩, bw 425 (by decide +kernel) rfl, bw 396 (by decide +kernel) rfl, bw 397 (by decide +kernel) rfl⟩
set_option maxRecDepth 20000 in
theorem m_X3_39 : mCv RX3 39 iJx4a65c_get_915e3 1 := ⟨⟨bw 300 (by decide +kernel) rfl, bw 22 (by decide +kernel) rfl, ⟨by decide +kernel, by decide +kernel⟩, by decide +kernel⟩, bw 426 (by decide +kernel) rfl, bw 298 (by decide +kernel) rfl, bw 299 (by decide +kernel) rfl⟩
set_option maxRecDepth 20000 in
theorem m_X3_50 : mCv RX3 50 iX5_run 1 := ⟨⟨bw 431 (by decide +kernel) rfl, bw 28 (by decide +kernel) rfl, ⟨by decide +kernel, by decide +kernel⟩, by decide +kernel⟩, bw 428 (by decide +kernel) rfl, bw 429 (by decide +kernel) rfl, bw 430 (by decide +kernel) rfl⟩
set_option maxRecDepth 20000 in
theorem m_X3_54 : mCv RX3 54 iX5_startsPiece 2 := ⟨⟨bw 435 (by decide +kernel) rfl, bw 28 (by decide +kernel) rfl, ⟨by decide +kernel, by decide +kernel⟩, by decide +kernel⟩, bw 432 (by decide +kernel) rfl, bw 433 (by decide +kernel) rfl, bw 434 (by decide +kernel) rfl⟩
set_option maxRecDepth 20000 in
theorem m_X3_58 : mCv RX3 58 iX3_lookAtPiecesFrom 4 := ⟨⟨bw 439 (by decide +kernel) rfl, bw 26 (by decide +kernel) rfl, ⟨by decide +kernel, by decide +kernel⟩, by decide +kernel⟩, bw 436 (by decide +kernel) rfl, bw 438 (by decide +kernel) rfl, bw 9 (by decide +kernel) rfl⟩
set_option maxRecDepth 20000 in
theorem m_X3_62 : mCv RX3 62 iX3_longestWanted 0 := ⟨⟨bw 443 (by decide +kernel) rfl, bw 26 (by decide +kernel) rfl, ⟨by decide +kernel, by decide +kernel⟩, by decide +kernel⟩, bw 440 (by decide +kernel) rfl, bw 442 (by decide +kernel) rfl, bw 10 (by decide +kernel) rfl⟩
set_option maxRecDepth 20000 in
theorem m_X3_72 : mCv RX3 72 iJx4a65c_size_8abf5 0 := ⟨⟨bw 296 (by decide +kernel) rfl, bw 22 (by decide +kernel) rfl, ⟨by decide +kernel, by decide +kernel⟩, by decide +kernel⟩, bw 454 (by decide +kernel) rfl, bw 294 (by decide +kernel) rfl, bw 295 (by decide +kernel) rfl⟩
set_option maxRecDepth 20000 in
theorem m_X3_75 : mCs RX3 75 iX3_findPlaces 6 := ⟨⟨bw 457 (by decide +kernel) rfl, bw 26 (by decide +kernel) rfl, ⟨by decide +kernel, by decide +kernel⟩, by decide +kernel⟩, bw 455 (by decide +kernel) rfl, bw 456 (by decide +kernel) rfl⟩
set_option maxRecDepth 20000 in
theorem m_X3_79 : mCv RX3 79 iX3_hasKey 0 := ⟨⟨bw 447 (by decide +kernel) rfl, bw 26 (by decide +kernel) rfl, ⟨by decide +kernel, by decide +kernel⟩, by decide +kernel⟩, bw 444 (by decide +kernel) rfl, bw 445 (by decide +kernel) rfl, bw 446 (by decide +kernel) rfl⟩
set_option maxRecDepth 20000 in
theorem m_X3_83 : mCv RX3 83 iX3_isKnownBy 3 := ⟨⟨bw 462 (by decide +kernel) rfl, bw 26 (by decide +kernel) rfl, ⟨by decide +kernel, by decide +kernel⟩, by decide +kernel⟩, bw 459 (by decide +kernel) rfl, bw 461 (by decide +kernel) rfl, bw 11 (by decide +kernel) rfl⟩
set_option maxRecDepth 20000 in
theorem m_X3_87 : mCv RX3 87 iX3_hasShortcut 0 := ⟨⟨bw 451 (by decide +kernel) rfl, bw 26 (by decide +kernel) rfl, ⟨by decide +kernel, by decide +kernel⟩, by decide +kernel⟩, bw 448 (by decide +kernel) rfl, bw 449 (by decide +kernel) rfl, bw 450 (by decide +kernel) rfl⟩
set_option maxRecDepth 20000 in
theorem m_X3_90 : mCv RX3 90 iX3_isFirstFor 3 := ⟨⟨bw 470 (by decide +kernel) rfl, bw 26 (by decide +kernel) rfl, ⟨by decide +kernel, by decide +kernel⟩, by decide +kernel⟩, bw 467 (by decide +kernel) rfl, bw 469 (by decide +kernel) rfl, bw 13 (by decide +kernel) rfl⟩
set_option maxRecDepth 20000 in
theorem m_X3_96 : mCs RX3 96 iX5_sameLength 5 := ⟨⟨bw 318 (by decide +kernel) rfl, bw 28 (by decide +kernel) rfl, ⟨by decide +kernel, by decide +kernel⟩, by decide +kernel⟩, bw 458 (by decide +kernel) rfl, bw 317 (by decide +kernel) rfl⟩
set_option maxRecDepth 20000 in
theorem m_X3_100 : mCv RX3 100 iX3_placeOf 2 := ⟨⟨bw 466 (by decide +kernel) rfl, bw 26 (by decide +kernel) rfl, ⟨by decide +kernel, by decide +kernel⟩, by decide +kernel⟩, bw 463 (by decide +kernel) rfl, bw 465 (by decide +kernel) rfl, bw 12 (by decide +kernel) rfl⟩
set_option maxRecDepth 20000 in
theorem m_X3_103 : mCv RX3 103 iX2_comesBefore 4 := ⟨⟨bw 474 (by decide +kernel) rfl, bw 19 (by decide +kernel) rfl, ⟨by decide +kernel, by decide +kernel⟩, by decide +kernel⟩, bw 471 (by decide +kernel) rfl, bw 472 (by decide +kernel) rfl, bw 473 (by decide +kernel) rfl⟩
set_option maxRecDepth 20000 in
theorem m_X4_22 : mCv RX4 22 iX4_rewind 0 := ⟨⟨bw 237 (by decide +kernel) rfl, bw 24 (by decide +kernel) rfl, ⟨by decide +kernel, by decide +kernel⟩, by decide +kernel⟩, bw 234 (by decide +kernel) rfl, bw 235 (by decide +kernel) rfl, bw 236 (by decide +kernel) rfl⟩
set_option maxRecDepth 20000 in
theorem m_X4_32 : mCv RX4 32 iX4_passTitle 0 := ⟨⟨bw 241 (by decide +kernel) rfl, bw 24 (by decide +kernel) rfl, ⟨by decide +kernel, by decide +kernel⟩, by decide +kernel⟩, bw 238 (by decide +kernel) rfl, bw 240 (by decide +kernel) rfl, bw 0 (by decide +kernel) rfl⟩
set_option maxRecDepth 20000 in
theorem m_X4_49 : mCv RX4 49 iX4_hasSign 0 := ⟨⟨bw 245 (by decide +kernel) rfl, bw 24 (by decide +kernel) rfl, ⟨by decide +kernel, by decide +kernel⟩, by decide +kernel⟩, bw 242 (by decide +kernel) rfl, bw 244 (by decide +kernel) rfl, bw 1 (by decide +kernel) rfl⟩
set_option maxRecDepth 20000 in
theorem m_X4_55 : mCs RX4 55 iX4_isLetter 1 := ⟨⟨bw 248 (by decide +kernel) rfl, bw 24 (by decide +kernel) rfl, ⟨by decide +kernel, by decide +kernel⟩, by decide +kernel⟩, bw 246 (by decide +kernel) rfl, bw 247 (by decide +kernel) rfl⟩
set_option maxRecDepth 20000 in
theorem m_X4_65 : mCs RX4 65 iX4_isDigit 1 := ⟨⟨bw 251 (by decide +kernel) rfl, bw 24 (by decide +kernel) rfl, ⟨by decide +kernel, by decide +kernel⟩, by decide +kernel⟩, bw 249 (by decide +kernel) rfl, bw 250 (by decide +kernel) rfl⟩
set_option maxRecDepth 20000 in
theorem m_X4_119 : mCs RX4 119 iX5_unused 1 := ⟨⟨bw 261 (by decide +kernel) rfl, bw 28 (by decide +kernel) rfl, ⟨by decide +kernel, by decide +kernel⟩, by decide +kernel⟩, bw 259 (by decide +kernel) rfl, bw 260 (by decide +kernel) rfl⟩
set_option maxRecDepth 20000 in
theorem m_X5_22 : mCs RX5 22 iX5_initialsOf 1 := ⟨⟨bw 266 (by decide +kernel) rfl, bw 28 (by decide +kernel) rfl, ⟨by decide +kernel, by decide +kernel⟩, by decide +kernel⟩, bw 264 (by decide +kernel) rfl, bw 265 (by decide +kernel) rfl⟩
set_option maxRecDepth 20000 in
theorem m_X5_26 : mCi RX5 26 iX5_init 3 := ⟨⟨bw 272 (by decide +kernel) rfl, bw 28 (by decide +kernel) rfl, ⟨by decide +kernel, by decide +kernel⟩, by decide +kernel⟩, bw 270 (by decide +kernel) rfl, bw 271 (by decide +kernel) rfl, rfl, rfl⟩
set_option maxRecDepth 20000 in
theorem m_X5_29 : mCs RX5 29 iX5_wordCount 1 := ⟨⟨bw 269 (by decide +kernel) rfl, bw 28 (by decide +kernel) rfl, ⟨by decide +kernel, by decide +kernel⟩, by decide +kernel⟩, bw 267 (by decide +kernel) rfl, bw 268 (by decide +kernel) rfl⟩
set_option maxRecDepth 20000 in
theorem m_X5_33 : mCv RX5 33 iX5_run 1 := ⟨⟨bw 431 (by decide +kernel) rfl, bw 28 (by decide +kernel) rfl, ⟨by decide +kernel, by decide +kernel⟩, by decide +kernel⟩, bw 518 (by decide +kernel) rfl, bw 429 (by decide +kernel) rfl, bw 430 (by decide +kernel) rfl⟩
set_option maxRecDepth 20000 in
theorem m_X5_37 : mCv RX5 37 iX5_startsPiece 2 := ⟨⟨bw 435 (by decide +kernel) rfl, bw 28 (by decide +kernel) rfl, ⟨by decide +kernel, by decide +kernel⟩, by decide +kernel⟩, bw 519 (by decide +kernel) rfl, bw 433 (by decide +kernel) rfl, bw 434 (by decide +kernel) rfl⟩
set_option maxRecDepth 20000 in
theorem m_X5_41 : mCs RX5 41 iX5_sameLength 5 := ⟨⟨bw 318 (by decide +kernel) rfl, bw 28 (by decide +kernel) rfl, ⟨by decide +kernel, by decide +kernel⟩, by decide +kernel⟩, bw 316 (by decide +kernel) rfl, bw 317 (by decide +kernel) rfl⟩
set_option maxRecDepth 20000 in
theorem m_X6_9 : mCn RX6 9 iX2_init 0 := ⟨⟨bw 46 (by decide +kernel) rfl, bw 19 (by decide +kernel) rfl, ⟨by decide +kernel, by decide +kernel⟩, by decide +kernel⟩, ⟨"TitleFinder", by decide +kernel⟩, bw 45 (by decide +kernel) rfl, rfl, rfl⟩
set_option maxRecDepth 20000 in
theorem m_X6_21 : mCi RX6 21 iX0_init 0 := ⟨⟨bw 103 (by decide +kernel) rfl, bw 23 (by decide +kernel) rfl, ⟨by decide +kernel, by decide +kernel⟩, by decide +kernel⟩, bw 101 (by decide +kernel) rfl, bw 102 (by decide +kernel) rfl, rfl, rfl⟩
set_option maxRecDepth 20000 in
theorem m_X6_28 : mCn RX6 28 iX4_init 0 := ⟨⟨bw 122 (by decide +kernel) rfl, bw 24 (by decide +kernel) rfl, ⟨by decide +kernel, by decide +kernel⟩, by decide +kernel⟩, ⟨"TitleFinder", by decide +kernel⟩, bw 121 (by decide +kernel) rfl, rfl, rfl⟩
set_option maxRecDepth 20000 in
theorem m_X6_35 : mCn RX6 35 iX1_init 0 := ⟨⟨bw 149 (by decide +kernel) rfl, bw 25 (by decide +kernel) rfl, ⟨by decide +kernel, by decide +kernel⟩, by decide +kernel⟩, ⟨"TitleFinder", by decide +kernel⟩, bw 148 (by decide +kernel) rfl, rfl, rfl⟩
set_option maxRecDepth 20000 in
theorem m_X6_42 : mCn RX6 42 iX3_init 0 := ⟨⟨bw 167 (by decide +kernel) rfl, bw 26 (by decide +kernel) rfl, ⟨by decide +kernel, by decide +kernel⟩, by decide +kernel⟩, ⟨"TitleFinder", by decide +kernel⟩, bw 166 (by decide +kernel) rfl, rfl, rfl⟩
set_option maxRecDepth 20000 in
theorem m_X6_47 : mCv RX6 47 iX4_append 1 := ⟨⟨bw 217 (by decide +kernel) rfl, bw 24 (by decide +kernel) rfl, ⟨by decide +kernel, by decide +kernel⟩, by decide +kernel⟩, bw 214 (by decide +kernel) rfl, bw 215 (by decide +kernel) rfl, bw 216 (by decide +kernel) rfl⟩
set_option maxRecDepth 20000 in
theorem m_X6_55 : mCv RX6 55 iX4_makeEmpty 0 := ⟨⟨bw 225 (by decide +kernel) rfl, bw 24 (by decide +kernel) rfl, ⟨by decide +kernel, by decide +kernel⟩, by decide +kernel⟩, bw 222 (by decide +kernel) rfl, bw 223 (by decide +kernel) rfl, bw 224 (by decide +kernel) rfl⟩
set_option maxRecDepth 20000 in
theorem m_X6_113 : mCv RX6 113 iX4_isTitle 0 := ⟨⟨bw 233 (by decide +kernel) rfl, bw 24 (by decide +kernel) rfl, ⟨by decide +kernel, by decide +kernel⟩, by decide +kernel⟩, bw 230 (by decide +kernel) rfl, bw 231 (by decide +kernel) rfl, bw 232 (by decide +kernel) rfl⟩
set_option maxRecDepth 20000 in
theorem m_X6_82 : mCv RX6 82 iX4_passedTitle 0 := ⟨⟨bw 255 (by decide +kernel) rfl, bw 24 (by decide +kernel) rfl, ⟨by decide +kernel, by decide +kernel⟩, by decide +kernel⟩, bw 252 (by decide +kernel) rfl, bw 253 (by decide +kernel) rfl, bw 254 (by decide +kernel) rfl⟩
set_option maxRecDepth 20000 in
theorem m_X6_116 : mCv RX6 116 iX2_refusal 1 := ⟨⟨bw 292 (by decide +kernel) rfl, bw 19 (by decide +kernel) rfl, ⟨by decide +kernel, by decide +kernel⟩, by decide +kernel⟩, bw 289 (by decide +kernel) rfl, bw 290 (by decide +kernel) rfl, bw 291 (by decide +kernel) rfl⟩
set_option maxRecDepth 20000 in
theorem m_X6_62 : mCv RX6 62 iX0_save 1 := ⟨⟨bw 322 (by decide +kernel) rfl, bw 23 (by decide +kernel) rfl, ⟨by decide +kernel, by decide +kernel⟩, by decide +kernel⟩, bw 319 (by decide +kernel) rfl, bw 320 (by decide +kernel) rfl, bw 321 (by decide +kernel) rfl⟩
set_option maxRecDepth 20000 in
theorem m_X6_86 : mCv RX6 86 iX6_addIfPossible 1 := ⟨⟨bw 388 (by decide +kernel) rfl, bw 18 (by decide +kernel) rfl, ⟨by decide +kernel, by decide +kernel⟩, by decide +kernel⟩, bw 385 (by decide +kernel) rfl, bw 387 (by decide +kernel) rfl, bw 5 (by decide +kernel) rfl⟩
set_option maxRecDepth 20000 in
theorem m_X6_123 : mCv RX6 123 iJx4a65c_add_9ea2d 1 := ⟨⟨bw 334 (by decide +kernel) rfl, bw 22 (by decide +kernel) rfl, ⟨by decide +kernel, by decide +kernel⟩, by decide +kernel⟩, bw 389 (by decide +kernel) rfl, bw 332 (by decide +kernel) rfl, bw 333 (by decide +kernel) rfl⟩
set_option maxRecDepth 20000 in
theorem m_X6_129 : mCv RX6 129 iJx4a65c_size_8abf5 0 := ⟨⟨bw 296 (by decide +kernel) rfl, bw 22 (by decide +kernel) rfl, ⟨by decide +kernel, by decide +kernel⟩, by decide +kernel⟩, bw 390 (by decide +kernel) rfl, bw 294 (by decide +kernel) rfl, bw 295 (by decide +kernel) rfl⟩
set_option maxRecDepth 20000 in
theorem m_X6_132 : mCv RX6 132 iX2_has 1 := ⟨⟨bw 398 (by decide +kernel) rfl, bw 19 (by decide +kernel) rfl, ⟨by decide +kernel, by decide +kernel⟩, by decide +kernel⟩, bw 395 (by decide +kernel) rfl, bw 396 (by decide +kernel) rfl, bw 397 (by decide +kernel) rfl⟩
set_option maxRecDepth 20000 in
theorem m_X6_93 : mCv RX6 93 iX6_dropIfThere 1 := ⟨⟨bw 402 (by decide +kernel) rfl, bw 18 (by decide +kernel) rfl, ⟨by decide +kernel, by decide +kernel⟩, by decide +kernel⟩, bw 399 (by decide +kernel) rfl, bw 401 (by decide +kernel) rfl, bw 6 (by decide +kernel) rfl⟩
set_option maxRecDepth 20000 in
theorem m_X6_135 : mCv RX6 135 iJx4a65c_remove_915e3 1 := ⟨⟨bw 406 (by decide +kernel) rfl, bw 22 (by decide +kernel) rfl, ⟨by decide +kernel, by decide +kernel⟩, by decide +kernel⟩, bw 403 (by decide +kernel) rfl, bw 404 (by decide +kernel) rfl, bw 405 (by decide +kernel) rfl⟩
set_option maxRecDepth 20000 in
theorem m_X6_139 : mCv RX6 139 iJx4a65c_get_915e3 1 := ⟨⟨bw 300 (by decide +kernel) rfl, bw 22 (by decide +kernel) rfl, ⟨by decide +kernel, by decide +kernel⟩, by decide +kernel⟩, bw 546 (by decide +kernel) rfl, bw 298 (by decide +kernel) rfl, bw 299 (by decide +kernel) rfl⟩
end
section
set_option maxRecDepth 20000 in
theorem m_X6_148 : mCv RX6 148 iX3_look 2 := ⟨⟨bw 424 (by decide +kernel) rfl, bw 26 (by decide +kernel) rfl, ⟨by decide +kernel, by decide +kernel⟩, by decide +kernel⟩, bw 421 (by decide +kernel) rfl, bw 422 (by decide +kernel) rfl, bw 423 (by decide +kernel) rfl⟩
set_option maxRecDepth 20000 in
theorem m_X6_152 : mCv RX6 152 iX6_studiedNumber 2 := ⟨⟨bw 613 (by decide +kernel) rfl, bw 18 (by decide +kernel) rfl, ⟨by decide +kernel, by decide +kernel⟩, by decide +kernel⟩, bw 610 (by decide +kernel) rfl, bw 612 (by decide +kernel) rfl, bw 16 (by decide +kernel) rfl⟩
set_option maxRecDepth 20000 in
theorem m_X6_162 : mCv RX6 162 iX3_hasKey 0 := ⟨⟨bw 447 (by decide +kernel) rfl, bw 26 (by decide +kernel) rfl, ⟨by decide +kernel, by decide +kernel⟩, by decide +kernel⟩, bw 614 (by decide +kernel) rfl, bw 445 (by decide +kernel) rfl, bw 446 (by decide +kernel) rfl⟩
set_option maxRecDepth 20000 in
theorem m_X6_171 : mCv RX6 171 iX3_hasShortcut 0 := ⟨⟨bw 451 (by decide +kernel) rfl, bw 26 (by decide +kernel) rfl, ⟨by decide +kernel, by decide +kernel⟩, by decide +kernel⟩, bw 615 (by decide +kernel) rfl, bw 449 (by decide +kernel) rfl, bw 450 (by decide +kernel) rfl⟩
set_option maxRecDepth 20000 in
theorem m_X6_180 : mCv RX6 180 iX5_commonRun 1 := ⟨⟨bw 626 (by decide +kernel) rfl, bw 28 (by decide +kernel) rfl, ⟨by decide +kernel, by decide +kernel⟩, by decide +kernel⟩, bw 623 (by decide +kernel) rfl, bw 624 (by decide +kernel) rfl, bw 625 (by decide +kernel) rfl⟩
set_option maxRecDepth 20000 in
theorem m_X6_183 : mCv RX6 183 iX2_copyFrom 1 := ⟨⟨bw 326 (by decide +kernel) rfl, bw 19 (by decide +kernel) rfl, ⟨by decide +kernel, by decide +kernel⟩, by decide +kernel⟩, bw 416 (by decide +kernel) rfl, bw 324 (by decide +kernel) rfl, bw 325 (by decide +kernel) rfl⟩
set_option maxRecDepth 20000 in
theorem m_X6_186 : mCv RX6 186 iX6_keyWouldChange 1 := ⟨⟨bw 420 (by decide +kernel) rfl, bw 18 (by decide +kernel) rfl, ⟨by decide +kernel, by decide +kernel⟩, by decide +kernel⟩, bw 417 (by decide +kernel) rfl, bw 419 (by decide +kernel) rfl, bw 8 (by decide +kernel) rfl⟩
set_option maxRecDepth 20000 in
theorem m_X6_189 : mCs RX6 189 iX4_isLetter 1 := ⟨⟨bw 248 (by decide +kernel) rfl, bw 24 (by decide +kernel) rfl, ⟨by decide +kernel, by decide +kernel⟩, by decide +kernel⟩, bw 491 (by decide +kernel) rfl, bw 247 (by decide +kernel) rfl⟩
set_option maxRecDepth 20000 in
theorem m_X6_192 : mCv RX6 192 iX2_queryEndsWithLetter 0 := ⟨⟨bw 495 (by decide +kernel) rfl, bw 19 (by decide +kernel) rfl, ⟨by decide +kernel, by decide +kernel⟩, by decide +kernel⟩, bw 492 (by decide +kernel) rfl, bw 493 (by decide +kernel) rfl, bw 494 (by decide +kernel) rfl⟩
set_option maxRecDepth 20000 in
theorem m_X6_195 : mCv RX6 195 iX2_appendToQuery 1 := ⟨⟨bw 499 (by decide +kernel) rfl, bw 19 (by decide +kernel) rfl, ⟨by decide +kernel, by decide +kernel⟩, by decide +kernel⟩, bw 496 (by decide +kernel) rfl, bw 497 (by decide +kernel) rfl, bw 498 (by decide +kernel) rfl⟩
set_option maxRecDepth 20000 in
theorem m_X6_199 : mCv RX6 199 iX6_results 0 := ⟨⟨bw 503 (by decide +kernel) rfl, bw 18 (by decide +kernel) rfl, ⟨by decide +kernel, by decide +kernel⟩, by decide +kernel⟩, bw 500 (by decide +kernel) rfl, bw 501 (by decide +kernel) rfl, bw 502 (by decide +kernel) rfl⟩
set_option maxRecDepth 20000 in
theorem m_X6_205 : mCv RX6 205 iX1_rank 1 := ⟨⟨bw 507 (by decide +kernel) rfl, bw 25 (by decide +kernel) rfl, ⟨by decide +kernel, by decide +kernel⟩, by decide +kernel⟩, bw 504 (by decide +kernel) rfl, bw 505 (by decide +kernel) rfl, bw 506 (by decide +kernel) rfl⟩
set_option maxRecDepth 20000 in
theorem m_X6_211 : mCv RX6 211 iX1_has 1 := ⟨⟨bw 536 (by decide +kernel) rfl, bw 25 (by decide +kernel) rfl, ⟨by decide +kernel, by decide +kernel⟩, by decide +kernel⟩, bw 533 (by decide +kernel) rfl, bw 534 (by decide +kernel) rfl, bw 535 (by decide +kernel) rfl⟩
set_option maxRecDepth 20000 in
theorem m_X6_212 : mCv RX6 212 iX1_titleAt 1 := ⟨⟨bw 544 (by decide +kernel) rfl, bw 25 (by decide +kernel) rfl, ⟨by decide +kernel, by decide +kernel⟩, by decide +kernel⟩, bw 541 (by decide +kernel) rfl, bw 542 (by decide +kernel) rfl, bw 543 (by decide +kernel) rfl⟩
set_option maxRecDepth 20000 in
theorem m_X6_215 : mCv RX6 215 iX1_placeAt 1 := ⟨⟨bw 643 (by decide +kernel) rfl, bw 25 (by decide +kernel) rfl, ⟨by decide +kernel, by decide +kernel⟩, by decide +kernel⟩, bw 640 (by decide +kernel) rfl, bw 641 (by decide +kernel) rfl, bw 642 (by decide +kernel) rfl⟩
set_option maxRecDepth 20000 in
theorem m_X6_106 : mCv RX6 106 iX6_pickIfThere 1 := ⟨⟨bw 540 (by decide +kernel) rfl, bw 18 (by decide +kernel) rfl, ⟨by decide +kernel, by decide +kernel⟩, by decide +kernel⟩, bw 537 (by decide +kernel) rfl, bw 539 (by decide +kernel) rfl, bw 15 (by decide +kernel) rfl⟩
set_option maxRecDepth 20000 in
theorem m_X6_218 : mCv RX6 218 iX5_usedOnceMore 0 := ⟨⟨bw 551 (by decide +kernel) rfl, bw 28 (by decide +kernel) rfl, ⟨by decide +kernel, by decide +kernel⟩, by decide +kernel⟩, bw 548 (by decide +kernel) rfl, bw 549 (by decide +kernel) rfl, bw 550 (by decide +kernel) rfl⟩
set_option maxRecDepth 20000 in
theorem m_X6_221 : mCv RX6 221 iJx4a65c_set_bcc79 2 := ⟨⟨bw 555 (by decide +kernel) rfl, bw 22 (by decide +kernel) rfl, ⟨by decide +kernel, by decide +kernel⟩, by decide +kernel⟩, bw 552 (by decide +kernel) rfl, bw 553 (by decide +kernel) rfl, bw 554 (by decide +kernel) rfl⟩
set_option maxRecDepth 20000 in
theorem m_Jxc12de_1 : mCi RJxc12de 1 iJxa1e45_init_da8c8 0 := ⟨⟨bw 58 (by decide +kernel) rfl, bw 20 (by decide +kernel) rfl, ⟨by decide +kernel, by decide +kernel⟩, by decide +kernel⟩, bw 56 (by decide +kernel) rfl, bw 57 (by decide +kernel) rfl, rfl, rfl⟩
set_option maxRecDepth 20000 in
theorem m_Jx4a65c_1 : mCi RJx4a65c 1 iJxc12de_init_da8c8 0 := ⟨⟨bw 55 (by decide +kernel) rfl, bw 21 (by decide +kernel) rfl, ⟨by decide +kernel, by decide +kernel⟩, by decide +kernel⟩, bw 53 (by decide +kernel) rfl, bw 54 (by decide +kernel) rfl, rfl, rfl⟩
set_option maxRecDepth 20000 in
theorem m_Jx4a65c_73 : mCs RJx4a65c 73 iJ8_newLength_cabcc 3 := ⟨⟨bw 349 (by decide +kernel) rfl, bw 31 (by decide +kernel) rfl, ⟨by decide +kernel, by decide +kernel⟩, by decide +kernel⟩, bw 347 (by decide +kernel) rfl, bw 348 (by decide +kernel) rfl⟩
set_option maxRecDepth 20000 in
theorem m_Jx4a65c_66 : mCs RJx4a65c 66 iJ7_copyOf_1904c 2 := ⟨⟨bw 357 (by decide +kernel) rfl, bw 32 (by decide +kernel) rfl, ⟨by decide +kernel, by decide +kernel⟩, by decide +kernel⟩, bw 355 (by decide +kernel) rfl, bw 356 (by decide +kernel) rfl⟩
set_option maxRecDepth 20000 in
theorem m_Jx4a65c_69 : mCv RJx4a65c 69 iJx4a65c_grow_92f84 1 := ⟨⟨bw 346 (by decide +kernel) rfl, bw 22 (by decide +kernel) rfl, ⟨by decide +kernel, by decide +kernel⟩, by decide +kernel⟩, bw 343 (by decide +kernel) rfl, bw 345 (by decide +kernel) rfl, bw 4 (by decide +kernel) rfl⟩
set_option maxRecDepth 20000 in
theorem m_Jx4a65c_118 : mCs RJx4a65c 118 iJ15_checkIndex_7cf53 2 := ⟨⟨bw 303 (by decide +kernel) rfl, bw 29 (by decide +kernel) rfl, ⟨by decide +kernel, by decide +kernel⟩, by decide +kernel⟩, bw 301 (by decide +kernel) rfl, bw 302 (by decide +kernel) rfl⟩
set_option maxRecDepth 20000 in
theorem m_Jx4a65c_123 : mCv RJx4a65c 123 iJx4a65c_elementData_915e3 1 := ⟨⟨bw 310 (by decide +kernel) rfl, bw 22 (by decide +kernel) rfl, ⟨by decide +kernel, by decide +kernel⟩, by decide +kernel⟩, bw 307 (by decide +kernel) rfl, bw 308 (by decide +kernel) rfl, bw 309 (by decide +kernel) rfl⟩
set_option maxRecDepth 20000 in
theorem m_Jx4a65c_129 : mCv RJx4a65c 129 iJx4a65c_grow_d5877 0 := ⟨⟨bw 342 (by decide +kernel) rfl, bw 22 (by decide +kernel) rfl, ⟨by decide +kernel, by decide +kernel⟩, by decide +kernel⟩, bw 339 (by decide +kernel) rfl, bw 341 (by decide +kernel) rfl, bw 3 (by decide +kernel) rfl⟩
set_option maxRecDepth 20000 in
theorem m_Jx4a65c_131 : mCv RJx4a65c 131 iJx4a65c_add_72be8 3 := ⟨⟨bw 338 (by decide +kernel) rfl, bw 22 (by decide +kernel) rfl, ⟨by decide +kernel, by decide +kernel⟩, by decide +kernel⟩, bw 335 (by decide +kernel) rfl, bw 337 (by decide +kernel) rfl, bw 2 (by decide +kernel) rfl⟩
set_option maxRecDepth 20000 in
theorem m_Jx4a65c_144 : mCv RJx4a65c 144 iJx4a65c_fastRemove_b59b0 2 := ⟨⟨bw 410 (by decide +kernel) rfl, bw 22 (by decide +kernel) rfl, ⟨by decide +kernel, by decide +kernel⟩, by decide +kernel⟩, bw 407 (by decide +kernel) rfl, bw 409 (by decide +kernel) rfl, bw 7 (by decide +kernel) rfl⟩
set_option maxRecDepth 20000 in
theorem m_J7_300 : mCs RJ7 300 iJ7_copyOf_6403c 3 := ⟨⟨bw 372 (by decide +kernel) rfl, bw 32 (by decide +kernel) rfl, ⟨by decide +kernel, by decide +kernel⟩, by decide +kernel⟩, bw 370 (by decide +kernel) rfl, bw 371 (by decide +kernel) rfl⟩
set_option maxRecDepth 20000 in
theorem m_J15_105 : mCs RJ15 105 iJ3_checkIndex_8e157 3 := ⟨⟨bw 306 (by decide +kernel) rfl, bw 30 (by decide +kernel) rfl, ⟨by decide +kernel, by decide +kernel⟩, by decide +kernel⟩, bw 304 (by decide +kernel) rfl, bw 305 (by decide +kernel) rfl⟩
set_option maxRecDepth 20000 in
theorem m_J8_201 : mCs RJ8 201 iJ8_hugeLength_7cf53 2 := ⟨⟨bw 354 (by decide +kernel) rfl, bw 31 (by decide +kernel) rfl, ⟨by decide +kernel, by decide +kernel⟩, by decide +kernel⟩, bw 352 (by decide +kernel) rfl, bw 353 (by decide +kernel) rfl⟩
set_option maxRecDepth 20000 in
theorem m_L_12 : mCs RL 12 iL_at 2 := ⟨⟨bw 570 (by decide +kernel) rfl, bw 17 (by decide +kernel) rfl, ⟨by decide +kernel, by decide +kernel⟩, by decide +kernel⟩, bw 568 (by decide +kernel) rfl, bw 569 (by decide +kernel) rfl⟩
set_option maxRecDepth 20000 in
theorem m_L_18 : mCs RL 18 iL_size 1 := ⟨⟨bw 574 (by decide +kernel) rfl, bw 17 (by decide +kernel) rfl, ⟨by decide +kernel, by decide +kernel⟩, by decide +kernel⟩, bw 572 (by decide +kernel) rfl, bw 573 (by decide +kernel) rfl⟩
set_option maxRecDepth 20000 in
theorem m_L_22 : mCs RL 22 iL_from 2 := ⟨⟨bw 580 (by decide +kernel) rfl, bw 17 (by decide +kernel) rfl, ⟨by decide +kernel, by decide +kernel⟩, by decide +kernel⟩, bw 578 (by decide +kernel) rfl, bw 579 (by decide +kernel) rfl⟩
set_option maxRecDepth 20000 in
theorem m_L_26 : mCs RL 26 iL_piece 4 := ⟨⟨bw 583 (by decide +kernel) rfl, bw 17 (by decide +kernel) rfl, ⟨by decide +kernel, by decide +kernel⟩, by decide +kernel⟩, bw 581 (by decide +kernel) rfl, bw 582 (by decide +kernel) rfl⟩
set_option maxRecDepth 20000 in
theorem m_L_30 : mCs RL 30 iL_code 1 := ⟨⟨bw 567 (by decide +kernel) rfl, bw 17 (by decide +kernel) rfl, ⟨by decide +kernel, by decide +kernel⟩, by decide +kernel⟩, bw 565 (by decide +kernel) rfl, bw 566 (by decide +kernel) rfl⟩
set_option maxRecDepth 20000 in
theorem m_L_34 : mCs RL 34 iL_named 2 := ⟨⟨bw 592 (by decide +kernel) rfl, bw 17 (by decide +kernel) rfl, ⟨by decide +kernel, by decide +kernel⟩, by decide +kernel⟩, bw 590 (by decide +kernel) rfl, bw 591 (by decide +kernel) rfl⟩
set_option maxRecDepth 20000 in
theorem m_L_38 : mCs RL 38 iL_place 3 := ⟨⟨bw 577 (by decide +kernel) rfl, bw 17 (by decide +kernel) rfl, ⟨by decide +kernel, by decide +kernel⟩, by decide +kernel⟩, bw 575 (by decide +kernel) rfl, bw 576 (by decide +kernel) rfl⟩
set_option maxRecDepth 20000 in
theorem m_L_42 : mCs RL 42 iL_ahead 5 := ⟨⟨bw 589 (by decide +kernel) rfl, bw 17 (by decide +kernel) rfl, ⟨by decide +kernel, by decide +kernel⟩, by decide +kernel⟩, bw 587 (by decide +kernel) rfl, bw 588 (by decide +kernel) rfl⟩
set_option maxRecDepth 20000 in
theorem m_L_48 : mCs RL 48 iL_cut 1 := ⟨⟨bw 595 (by decide +kernel) rfl, bw 17 (by decide +kernel) rfl, ⟨by decide +kernel, by decide +kernel⟩, by decide +kernel⟩, bw 593 (by decide +kernel) rfl, bw 594 (by decide +kernel) rfl⟩
set_option maxRecDepth 20000 in
theorem m_L_52 : mCv RL 52 iX6_character 2 := ⟨⟨bw 605 (by decide +kernel) rfl, bw 18 (by decide +kernel) rfl, ⟨by decide +kernel, by decide +kernel⟩, by decide +kernel⟩, bw 602 (by decide +kernel) rfl, bw 603 (by decide +kernel) rfl, bw 604 (by decide +kernel) rfl⟩
set_option maxRecDepth 20000 in
theorem m_L_56 : mCs RL 56 iL_best 4 := ⟨⟨bw 586 (by decide +kernel) rfl, bw 17 (by decide +kernel) rfl, ⟨by decide +kernel, by decide +kernel⟩, by decide +kernel⟩, bw 584 (by decide +kernel) rfl, bw 585 (by decide +kernel) rfl⟩
set_option maxRecDepth 20000 in
theorem m_L_60 : mCv RL 60 iX6_of 2 := ⟨⟨bw 609 (by decide +kernel) rfl, bw 18 (by decide +kernel) rfl, ⟨by decide +kernel, by decide +kernel⟩, by decide +kernel⟩, bw 606 (by decide +kernel) rfl, bw 607 (by decide +kernel) rfl, bw 608 (by decide +kernel) rfl⟩
set_option maxRecDepth 20000 in
theorem m_L_63 : mCs RL 63 iL_common 2 := ⟨⟨bw 618 (by decide +kernel) rfl, bw 17 (by decide +kernel) rfl, ⟨by decide +kernel, by decide +kernel⟩, by decide +kernel⟩, bw 616 (by decide +kernel) rfl, bw 617 (by decide +kernel) rfl⟩
set_option maxRecDepth 20000 in
theorem m_L_67 : mCv RL 67 iX6_closest 1 := ⟨⟨bw 622 (by decide +kernel) rfl, bw 18 (by decide +kernel) rfl, ⟨by decide +kernel, by decide +kernel⟩, by decide +kernel⟩, bw 619 (by decide +kernel) rfl, bw 620 (by decide +kernel) rfl, bw 621 (by decide +kernel) rfl⟩
set_option maxRecDepth 20000 in
theorem m_L_70 : mCs RL 70 iL_low 2 := ⟨⟨bw 563 (by decide +kernel) rfl, bw 17 (by decide +kernel) rfl, ⟨by decide +kernel, by decide +kernel⟩, by decide +kernel⟩, bw 561 (by decide +kernel) rfl, bw 562 (by decide +kernel) rfl⟩
set_option maxRecDepth 20000 in
theorem m_L_73 : mCv RL 73 iX6_common 2 := ⟨⟨bw 631 (by decide +kernel) rfl, bw 18 (by decide +kernel) rfl, ⟨by decide +kernel, by decide +kernel⟩, by decide +kernel⟩, bw 628 (by decide +kernel) rfl, bw 629 (by decide +kernel) rfl, bw 630 (by decide +kernel) rfl⟩
set_option maxRecDepth 20000 in
theorem m_L_75 : mCs RL 75 iL_ranked 4 := ⟨⟨bw 598 (by decide +kernel) rfl, bw 17 (by decide +kernel) rfl, ⟨by decide +kernel, by decide +kernel⟩, by decide +kernel⟩, bw 596 (by decide +kernel) rfl, bw 597 (by decide +kernel) rfl⟩
set_option maxRecDepth 20000 in
theorem m_L_79 : mCv RL 79 iX6_result 1 := ⟨⟨bw 635 (by decide +kernel) rfl, bw 18 (by decide +kernel) rfl, ⟨by decide +kernel, by decide +kernel⟩, by decide +kernel⟩, bw 632 (by decide +kernel) rfl, bw 633 (by decide +kernel) rfl, bw 634 (by decide +kernel) rfl⟩
set_option maxRecDepth 20000 in
theorem m_L_82 : mCv RL 82 iX6_matchPlace 1 := ⟨⟨bw 639 (by decide +kernel) rfl, bw 18 (by decide +kernel) rfl, ⟨by decide +kernel, by decide +kernel⟩, by decide +kernel⟩, bw 636 (by decide +kernel) rfl, bw 637 (by decide +kernel) rfl, bw 638 (by decide +kernel) rfl⟩
set_option maxRecDepth 20000 in
theorem m_L_85 : mCv RL 85 iX6_queryCharacter 1 := ⟨⟨bw 647 (by decide +kernel) rfl, bw 18 (by decide +kernel) rfl, ⟨by decide +kernel, by decide +kernel⟩, by decide +kernel⟩, bw 644 (by decide +kernel) rfl, bw 645 (by decide +kernel) rfl, bw 646 (by decide +kernel) rfl⟩
set_option maxRecDepth 20000 in
theorem m_L_88 : mCv RL 88 iX6_titles 0 := ⟨⟨bw 651 (by decide +kernel) rfl, bw 18 (by decide +kernel) rfl, ⟨by decide +kernel, by decide +kernel⟩, by decide +kernel⟩, bw 648 (by decide +kernel) rfl, bw 649 (by decide +kernel) rfl, bw 650 (by decide +kernel) rfl⟩
set_option maxRecDepth 20000 in
theorem m_L_92 : mCv RL 92 iX6_mode 0 := ⟨⟨bw 655 (by decide +kernel) rfl, bw 18 (by decide +kernel) rfl, ⟨by decide +kernel, by decide +kernel⟩, by decide +kernel⟩, bw 652 (by decide +kernel) rfl, bw 653 (by decide +kernel) rfl, bw 654 (by decide +kernel) rfl⟩
set_option maxRecDepth 20000 in
theorem m_L_95 : mCv RL 95 iX6_order 0 := ⟨⟨bw 659 (by decide +kernel) rfl, bw 18 (by decide +kernel) rfl, ⟨by decide +kernel, by decide +kernel⟩, by decide +kernel⟩, bw 656 (by decide +kernel) rfl, bw 657 (by decide +kernel) rfl, bw 658 (by decide +kernel) rfl⟩
set_option maxRecDepth 20000 in
theorem m_L_98 : mCv RL 98 iX6_unknown 0 := ⟨⟨bw 663 (by decide +kernel) rfl, bw 18 (by decide +kernel) rfl, ⟨by decide +kernel, by decide +kernel⟩, by decide +kernel⟩, bw 660 (by decide +kernel) rfl, bw 661 (by decide +kernel) rfl, bw 662 (by decide +kernel) rfl⟩
set_option maxRecDepth 20000 in
theorem m_L_101 : mCv RL 101 iX6_hardest 0 := ⟨⟨bw 667 (by decide +kernel) rfl, bw 18 (by decide +kernel) rfl, ⟨by decide +kernel, by decide +kernel⟩, by decide +kernel⟩, bw 664 (by decide +kernel) rfl, bw 665 (by decide +kernel) rfl, bw 666 (by decide +kernel) rfl⟩
set_option maxRecDepth 20000 in
theorem m_L_104 : mCv RL 104 iX6_results 0 := ⟨⟨bw 503 (by decide +kernel) rfl, bw 18 (by decide +kernel) rfl, ⟨by decide +kernel, by decide +kernel⟩, by decide +kernel⟩, bw 668 (by decide +kernel) rfl, bw 501 (by decide +kernel) rfl, bw 502 (by decide +kernel) rfl⟩
set_option maxRecDepth 20000 in
theorem m_L_107 : mCv RL 107 iX6_queryLength 0 := ⟨⟨bw 672 (by decide +kernel) rfl, bw 18 (by decide +kernel) rfl, ⟨by decide +kernel, by decide +kernel⟩, by decide +kernel⟩, bw 669 (by decide +kernel) rfl, bw 670 (by decide +kernel) rfl, bw 671 (by decide +kernel) rfl⟩
set_option maxRecDepth 20000 in
theorem m_L_110 : mCi RL 110 iX6_init 0 := ⟨⟨bw 38 (by decide +kernel) rfl, bw 18 (by decide +kernel) rfl, ⟨by decide +kernel, by decide +kernel⟩, by decide +kernel⟩, bw 36 (by decide +kernel) rfl, bw 37 (by decide +kernel) rfl, rfl, rfl⟩
set_option maxRecDepth 20000 in
theorem m_L_111 : mCs RL 111 iL_cell 2 := ⟨⟨bw 558 (by decide +kernel) rfl, bw 17 (by decide +kernel) rfl, ⟨by decide +kernel, by decide +kernel⟩, by decide +kernel⟩, bw 556 (by decide +kernel) rfl, bw 557 (by decide +kernel) rfl⟩
set_option maxRecDepth 20000 in
theorem m_L_115 : mCs RL 115 iL_made 2 := ⟨⟨bw 675 (by decide +kernel) rfl, bw 17 (by decide +kernel) rfl, ⟨by decide +kernel, by decide +kernel⟩, by decide +kernel⟩, bw 673 (by decide +kernel) rfl, bw 674 (by decide +kernel) rfl⟩
set_option maxRecDepth 20000 in
theorem m_L_119 : mCv RL 119 iX6_type 1 := ⟨⟨bw 213 (by decide +kernel) rfl, bw 18 (by decide +kernel) rfl, ⟨by decide +kernel, by decide +kernel⟩, by decide +kernel⟩, bw 210 (by decide +kernel) rfl, bw 211 (by decide +kernel) rfl, bw 212 (by decide +kernel) rfl⟩
set_option maxRecDepth 20000 in
theorem m_L_122 : mCv RL 122 iX6_ifAdded 0 := ⟨⟨bw 415 (by decide +kernel) rfl, bw 18 (by decide +kernel) rfl, ⟨by decide +kernel, by decide +kernel⟩, by decide +kernel⟩, bw 412 (by decide +kernel) rfl, bw 413 (by decide +kernel) rfl, bw 414 (by decide +kernel) rfl⟩
set_option maxRecDepth 20000 in
theorem m_L_125 : mCv RL 125 iX6_add 0 := ⟨⟨bw 229 (by decide +kernel) rfl, bw 18 (by decide +kernel) rfl, ⟨by decide +kernel, by decide +kernel⟩, by decide +kernel⟩, bw 226 (by decide +kernel) rfl, bw 227 (by decide +kernel) rfl, bw 228 (by decide +kernel) rfl⟩
set_option maxRecDepth 20000 in
theorem m_L_128 : mCv RL 128 iX6_clearText 0 := ⟨⟨bw 221 (by decide +kernel) rfl, bw 18 (by decide +kernel) rfl, ⟨by decide +kernel, by decide +kernel⟩, by decide +kernel⟩, bw 218 (by decide +kernel) rfl, bw 219 (by decide +kernel) rfl, bw 220 (by decide +kernel) rfl⟩
set_option maxRecDepth 20000 in
theorem m_L_131 : mCv RL 131 iX6_drop 1 := ⟨⟨bw 394 (by decide +kernel) rfl, bw 18 (by decide +kernel) rfl, ⟨by decide +kernel, by decide +kernel⟩, by decide +kernel⟩, bw 391 (by decide +kernel) rfl, bw 392 (by decide +kernel) rfl, bw 393 (by decide +kernel) rfl⟩
set_option maxRecDepth 20000 in
theorem m_L_134 : mCv RL 134 iX6_setMode 1 := ⟨⟨bw 482 (by decide +kernel) rfl, bw 18 (by decide +kernel) rfl, ⟨by decide +kernel, by decide +kernel⟩, by decide +kernel⟩, bw 479 (by decide +kernel) rfl, bw 480 (by decide +kernel) rfl, bw 481 (by decide +kernel) rfl⟩
set_option maxRecDepth 20000 in
theorem m_L_137 : mCv RL 137 iX6_setOrder 1 := ⟨⟨bw 486 (by decide +kernel) rfl, bw 18 (by decide +kernel) rfl, ⟨by decide +kernel, by decide +kernel⟩, by decide +kernel⟩, bw 483 (by decide +kernel) rfl, bw 484 (by decide +kernel) rfl, bw 485 (by decide +kernel) rfl⟩
set_option maxRecDepth 20000 in
theorem m_L_140 : mCv RL 140 iX6_ask 1 := ⟨⟨bw 490 (by decide +kernel) rfl, bw 18 (by decide +kernel) rfl, ⟨by decide +kernel, by decide +kernel⟩, by decide +kernel⟩, bw 487 (by decide +kernel) rfl, bw 488 (by decide +kernel) rfl, bw 489 (by decide +kernel) rfl⟩
set_option maxRecDepth 20000 in
theorem m_L_143 : mCv RL 143 iX6_erase 0 := ⟨⟨bw 528 (by decide +kernel) rfl, bw 18 (by decide +kernel) rfl, ⟨by decide +kernel, by decide +kernel⟩, by decide +kernel⟩, bw 525 (by decide +kernel) rfl, bw 526 (by decide +kernel) rfl, bw 527 (by decide +kernel) rfl⟩
set_option maxRecDepth 20000 in
theorem m_L_146 : mCv RL 146 iX6_pick 1 := ⟨⟨bw 532 (by decide +kernel) rfl, bw 18 (by decide +kernel) rfl, ⟨by decide +kernel, by decide +kernel⟩, by decide +kernel⟩, bw 529 (by decide +kernel) rfl, bw 530 (by decide +kernel) rfl, bw 531 (by decide +kernel) rfl⟩
set_option maxRecDepth 20000 in
theorem m_L_149 : mCs RL 149 iL_same 5 := ⟨⟨bw 601 (by rfl) rfl, bw 17 (by decide +kernel) rfl, ⟨by decide +kernel, by decide +kernel⟩, by decide +kernel⟩, bw 599 (by decide +kernel) rfl, bw 600 (by decide +kernel) rfl⟩
set_option maxRecDepth 20000 in
theorem mm_X0_29 : mMath RX0 29 Lib.Math.min.name Lib.Math.min.code := ⟨bw 384 (by decide +kernel) rfl, bw 377 (by decide +kernel) rfl, bw 27 (by decide +kernel) rfl, bw 378 (by decide +kernel) rfl⟩
set_option maxRecDepth 20000 in
theorem mm_X3_66 : mMath RX3 66 Lib.Math.min.name Lib.Math.min.code := ⟨bw 453 (by decide +kernel) rfl, bw 377 (by decide +kernel) rfl, bw 27 (by decide +kernel) rfl, bw 378 (by decide +kernel) rfl⟩
set_option maxRecDepth 20000 in
theorem mm_X3_93 : mMath RX3 93 Lib.Math.max.name Lib.Math.max.code := ⟨bw 452 (by decide +kernel) rfl, bw 257 (by decide +kernel) rfl, bw 27 (by decide +kernel) rfl, bw 258 (by decide +kernel) rfl⟩
set_option maxRecDepth 20000 in
theorem mm_X4_81 : mMath RX4 81 Lib.Math.max.name Lib.Math.max.code := ⟨bw 256 (by decide +kernel) rfl, bw 257 (by decide +kernel) rfl, bw 27 (by decide +kernel) rfl, bw 258 (by decide +kernel) rfl⟩
set_option maxRecDepth 20000 in
theorem mm_X5_45 : mMath RX5 45 Lib.Math.max.name Lib.Math.max.code := ⟨bw 627 (by decide +kernel) rfl, bw 257 (by decide +kernel) rfl, bw 27 (by decide +kernel) rfl, bw 258 (by decide +kernel) rfl⟩
set_option maxRecDepth 20000 in
theorem mm_Jx4a65c_79 : mMath RJx4a65c 79 Lib.Math.max.name Lib.Math.max.code := ⟨bw 382 (by decide +kernel) rfl, bw 257 (by decide +kernel) rfl, bw 27 (by decide +kernel) rfl, bw 258 (by decide +kernel) rfl⟩
set_option maxRecDepth 20000 in
theorem mm_J7_304 : mMath RJ7 304 Lib.Math.min.name Lib.Math.min.code := ⟨bw 376 (by decide +kernel) rfl, bw 377 (by decide +kernel) rfl, bw 27 (by decide +kernel) rfl, bw 378 (by decide +kernel) rfl⟩
set_option maxRecDepth 20000 in
theorem mm_J8_194 : mMath RJ8 194 Lib.Math.max.name Lib.Math.max.code := ⟨bw 350 (by decide +kernel) rfl, bw 257 (by decide +kernel) rfl, bw 27 (by decide +kernel) rfl, bw 258 (by decide +kernel) rfl⟩
set_option maxRecDepth 20000 in
theorem l_L_10 : Cond.constantLong RL 10 (31) ∈ BIG := bw 571 (by decide +kernel) rfl
set_option maxRecDepth 20000 in
theorem cc_L_7 : Cond.constant RL 7 (1033861973) ∈ BIG := bw 559 (by decide +kernel) rfl
set_option maxRecDepth 20000 in
theorem cc_L_8 : Cond.constant RL 8 (650699943) ∈ BIG := bw 560 (by decide +kernel) rfl
set_option maxRecDepth 20000 in
theorem cc_L_9 : Cond.constant RL 9 (2147483647) ∈ BIG := bw 564 (by decide +kernel) rfl
set_option maxRecDepth 20000 in
theorem k_X0_9 : Cond.classLink RX0 9 "TitleFinder$State" ∈ BIG := bw 105 (by decide +kernel) rfl
set_option maxRecDepth 20000 in
theorem k_X2_33 : Cond.classLink RX2 33 "TitleFinder$Title" ∈ BIG := bw 311 (by decide +kernel) rfl
set_option maxRecDepth 20000 in
theorem k_X3_9 : Cond.classLink RX3 9 "[[I" ∈ BIG := bw 169 (by decide +kernel) rfl
set_option maxRecDepth 20000 in
theorem k_X3_45 : Cond.classLink RX3 45 "TitleFinder$Title" ∈ BIG := bw 427 (by decide +kernel) rfl
set_option maxRecDepth 20000 in
theorem k_X6_142 : Cond.classLink RX6 142 "TitleFinder$Title" ∈ BIG := bw 547 (by decide +kernel) rfl
set_option maxRecDepth 20000 in
theorem k_Jx4a65c_7 : Cond.classLink RJx4a65c 7 "java/lang/Object" ∈ BIG := bw 383 (by decide +kernel) rfl
set_option maxRecDepth 20000 in
theorem k_J7_2 : Cond.classLink RJ7 2 "java/lang/Object" ∈ BIG := bw 375 (by decide +kernel) rfl
set_option maxRecDepth 20000 in
theorem k_J7_110 : Cond.classLink RJ7 110 "[Ljava/lang/Object;" ∈ BIG := bw 373 (by decide +kernel) rfl
set_option maxRecDepth 20000 in
theorem ac_int : Cond.arrayClass .int ∈ BIG := bw 162 (by decide +kernel) rfl
set_option maxRecDepth 20000 in
theorem ac_char : Cond.arrayClass .char ∈ BIG := bw 98 (by decide +kernel) rfl
set_option maxRecDepth 20000 in
theorem ac_long : Cond.arrayClass .long ∈ BIG := bw 676 (by decide +kernel) rfl
set_option maxRecDepth 20000 in
theorem oi_inst : Cond.instanceMethod objectInit ∈ BIG := bw 40 (by decide +kernel) rfl
set_option maxRecDepth 20000 in
theorem oi_code : Cond.code objectInit ⟨#[0xb1]⟩ 1 none ∈ BIG := bw 41 (by decide +kernel) rfl
set_option maxRecDepth 20000 in
theorem oi_X6_1 : Cond.methodLink RX6 1 objectInit ∈ BIG := bw 39 (by decide +kernel) rfl
set_option maxRecDepth 20000 in
theorem oi_X0_3 : Cond.methodLink RX0 3 objectInit ∈ BIG := bw 104 (by decide +kernel) rfl
set_option maxRecDepth 20000 in
theorem oi_X1_3 : Cond.methodLink RX1 3 objectInit ∈ BIG := bw 150 (by decide +kernel) rfl
set_option maxRecDepth 20000 in
theorem oi_X2_3 : Cond.methodLink RX2 3 objectInit ∈ BIG := bw 47 (by decide +kernel) rfl
set_option maxRecDepth 20000 in
theorem oi_X3_3 : Cond.methodLink RX3 3 objectInit ∈ BIG := bw 168 (by decide +kernel) rfl
set_option maxRecDepth 20000 in
theorem oi_X4_3 : Cond.methodLink RX4 3 objectInit ∈ BIG := bw 123 (by decide +kernel) rfl
set_option maxRecDepth 20000 in
theorem oi_X5_3 : Cond.methodLink RX5 3 objectInit ∈ BIG := bw 273 (by decide +kernel) rfl
set_option maxRecDepth 20000 in
theorem oi_Jxa1e45_1 : Cond.methodLink RJxa1e45 1 objectInit ∈ BIG := bw 59 (by decide +kernel) rfl
end
section
/-! memory steps as relations; frames by tags -/
def mU (M : mM) (a : Nat) (x : Nat × mE) (M1 : mM) : Prop := M1 a = some x ∧ ∀ b, b ≠ a → M1 b = M b
theorem mU.up {M : mM} {a : Nat} {x : Nat × mE} : mU M a x (mup M a x) := ⟨mup_s, fun _ h => mup_n h⟩
theorem mU.s {M M1 : mM} {a : Nat} {x : Nat × mE} (h : mU M a x M1) : M1 a = some x := h.1
theorem mU.o {M M1 : mM} {a b t t' : Nat} {x : Nat × mE} {e e' : mE} (h : mU M a x M1) (hA : M a = some (t, e)) (hB : M b = some (t', e')) (hne : t' ≠ t) : M1 b = some (t', e') := by
  rw [h.2 b (fun q => hne (by rw [q, hA] at hB; cases hB; rfl))]
  exact hB
theorem mU.od {M M1 : mM} {a b : Nat} {x y : Nat × mE} (h : mU M a x M1) (hB : M b = some y) (hne : b ≠ a) : M1 b = some y := by
  rw [h.2 b hne]
  exact hB
theorem mU.n {M M1 : mM} {a b : Nat} {x y : Nat × mE} (h : mU M a x M1) (hA : M a = none) (hB : M b = some y) : M1 b = some y := by
  rw [h.2 b (fun q => by rw [q, hA] at hB; cases hB)]
  exact hB
/-- what has no tag of T stays; nothing goes -/
def mZ (T : List Nat) (M M1 : mM) : Prop := (∀ b t e, M b = some (t, e) → t ∉ T → M1 b = some (t, e)) ∧ ∀ b, M1 b = none → M b = none
theorem mZ.rf {T : List Nat} {M : mM} : mZ T M M := ⟨fun _ _ _ h _ => h, fun _ h => h⟩
theorem mZ.tr {T : List Nat} {M M1 M2 : mM} (h1 : mZ T M M1) (h2 : mZ T M1 M2) : mZ T M M2 := ⟨fun b t e h ht => h2.1 b t e (h1.1 b t e h ht) ht, fun b h => h1.2 b (h2.2 b h)⟩
theorem mZ.mono {T T' : List Nat} {M M1 : mM} (h : mZ T M M1) (hT : ∀ t ∈ T, t ∈ T') : mZ T' M M1 := ⟨fun b t e hb ht => h.1 b t e hb (fun q => ht (hT t q)), h.2⟩
theorem mZ.put {T : List Nat} {M0 M M1 : mM} {a t : Nat} {x : Nat × mE} {e : mE} (h : mZ T M0 M) (u : mU M a x M1) (hA : M a = some (t, e)) (ht : t ∈ T) : mZ T M0 M1 := by
  refine ⟨fun b tb eb hb hn => ?_, fun b hb => ?_⟩
  · have h1 := h.1 b tb eb hb hn
    rw [u.2 b (fun q => by rw [q, hA] at h1; cases h1; exact hn ht)]
    exact h1
  · by_cases q : b = a
    · rw [q, u.1] at hb; cases hb
    · rw [u.2 b q] at hb; exact h.2 b hb
theorem mZ.new {T : List Nat} {M0 M M1 : mM} {a : Nat} {x : Nat × mE} (h : mZ T M0 M) (u : mU M a x M1) (hA : M a = none) : mZ T M0 M1 := by
  refine ⟨fun b tb eb hb hn => u.n hA (h.1 b tb eb hb hn), fun b hb => ?_⟩
  by_cases q : b = a
  · rw [q, u.1] at hb; cases hb
  · rw [u.2 b q] at hb; exact h.2 b hb
/-- a cell that the start didn't have -/
theorem mZ.putn {T : List Nat} {M0 M M1 : mM} {a : Nat} {x : Nat × mE} (h : mZ T M0 M) (u : mU M a x M1) (hA : M0 a = none) : mZ T M0 M1 := by
  refine ⟨fun b tb eb hb hn => ?_, fun b hb => ?_⟩
  · rw [u.2 b (fun q => by rw [q, hA] at hb; cases hb)]
    exact h.1 b tb eb hb hn
  · by_cases q : b = a
    · rw [q, u.1] at hb; cases hb
    · rw [u.2 b q] at hb; exact h.2 b hb
theorem mZ.at {T : List Nat} {M M1 : mM} {b t : Nat} {e : mE} (h : mZ T M M1) (hb : M b = some (t, e)) (ht : t ∉ T) : M1 b = some (t, e) := h.1 b t e hb ht
theorem mZ.no {T : List Nat} {M M1 : mM} {b : Nat} (h : mZ T M M1) (hb : M1 b = none) : M b = none := h.2 b hb
theorem s_putU {X : mX} {G : mG} {I : mI} (C : Cx X G I) {bc bs pc : Nat} (q : Nat) {L : List (Option Value)} {st : List Value} {M : mM} {idx ci k a t : Nat} {ty : FieldType} {fs : List Value} {v : Value} (d : decode I.2.1 pc = .ok (.putfield idx, 3)) (e : pc + 3 = q) (hf : mFp I.1.cls idx ci k ty false) (hM : M a = some (t, .inl (ci, fs))) (ht : t ≠ 0) (hn : narrow ty v = v) (hfit : fits ty v = true) (hlen : Nat.ble (k + 1) fs.length = true) {fs' : List Value} (hfs : fs.set k v = fs') (h : ∀ M1, mU M a (t, .inl (ci, fs')) M1 → V X bc bs q L st M1) : V X bc bs pc L (v :: .ref a :: st) M := s_putf C q d e hf hM ht hn hfit hlen (h _ (by rw [← hfs]; exact mU.up))
theorem s_putFU {X : mX} {G : mG} {I : mI} (C : Cx X G I) {bc bs pc : Nat} (q : Nat) {L : List (Option Value)} {st : List Value} {M : mM} {idx ci k a t : Nat} {ty : FieldType} {fs : List Value} {v : Value} (d : decode I.2.1 pc = .ok (.putfield idx, 3)) (e : pc + 3 = q) (hf : mFp I.1.cls idx ci k ty true) (hI : I.1.name = "<init>") (hM : M a = some (t, .inl (ci, fs))) (ht : t ≠ 0) (hn : narrow ty v = v) (hfit : fits ty v = true) (hlen : Nat.ble (k + 1) fs.length = true) {fs' : List Value} (hfs : fs.set k v = fs') (h : ∀ M1, mU M a (t, .inl (ci, fs')) M1 → V X bc bs q L st M1) : V X bc bs pc L (v :: .ref a :: st) M := s_putF C q d e hf hI hM ht hn hfit hlen (h _ (by rw [← hfs]; exact mU.up))
theorem s_iastU {X : mX} {G : mG} {I : mI} (C : Cx X G I) {bc bs pc : Nat} (q : Nat) {L : List (Option Value)} {st : List Value} {M : mM} {a t n : Nat} {f : Nat → Int32} {i : Nat} {x : Int32} (d : decode I.2.1 pc = .ok (.iastore, 1)) (e : pc + 1 = q) (hM : M a = some (t, .inr (0, n, .inl f))) (ht : t ≠ 0) (hi : i < n) (hn : n < 2 ^ 31) (h : ∀ M1, mU M a (t, .inr (0, n, .inl (upd f i x))) M1 → V X bc bs q L st M1) : V X bc bs pc L (.int x :: .int (nI i) :: .ref a :: st) M := s_iast C q d e hM ht hi hn (h _ mU.up)
theorem s_castU {X : mX} {G : mG} {I : mI} (C : Cx X G I) {bc bs pc : Nat} (q : Nat) {L : List (Option Value)} {st : List Value} {M : mM} {a t n : Nat} {f : Nat → Int32} {i : Nat} {x : Int32} (d : decode I.2.1 pc = .ok (.castore, 1)) (e : pc + 1 = q) (hM : M a = some (t, .inr (1, n, .inl f))) (ht : t ≠ 0) (hi : i < n) (hn : n < 2 ^ 31) (hx0 : vp_nar .char x = x) (h : ∀ M1, mU M a (t, .inr (1, n, .inl (upd f i x))) M1 → V X bc bs q L st M1) : V X bc bs pc L (.int x :: .int (nI i) :: .ref a :: st) M := s_cast C q d e hM ht hi hn hx0 (h _ mU.up)
theorem s_aastU {X : mX} {G : mG} {I : mI} (C : Cx X G I) {bc bs pc : Nat} (q : Nat) {L : List (Option Value)} {st : List Value} {M : mM} {a t n kd v tv ci : Nat} {f : Nat → Option Nat} {vs : List Value} {i : Nat} {E : String} {r : vw_C} (d : decode I.2.1 pc = .ok (.aastore, 1)) (e : pc + 1 = q) (hM : M a = some (t, .inr (kd, n, .inr f))) (ht : t ≠ 0) (hkd : kd = 2 ∧ E = "java/lang/Object" ∨ kd = 3 ∧ E = "TitleFinder$State") (hv : M v = some (tv, .inl (ci, vs))) (hci : vwCl[ci]? = some r) (hcs : r.1 = "TitleFinder$Title" ∧ E = "java/lang/Object" ∨ r.1 = E) (hi : i < n) (hn : n < 2 ^ 31) (h : ∀ M1, mU M a (t, .inr (kd, n, .inr (va_up f i (some v)))) M1 → V X bc bs q L st M1) : V X bc bs pc L (.ref v :: .int (nI i) :: .ref a :: st) M := s_aast C q d e hM ht hkd hv hci hcs hi hn (h _ mU.up)
theorem s_aastNU {X : mX} {G : mG} {I : mI} (C : Cx X G I) {bc bs pc : Nat} (q : Nat) {L : List (Option Value)} {st : List Value} {M : mM} {a t n : Nat} {f : Nat → Option Nat} {i : Nat} (d : decode I.2.1 pc = .ok (.aastore, 1)) (e : pc + 1 = q) (hM : M a = some (t, .inr (2, n, .inr f))) (ht : t ≠ 0) (hi : i < n) (hn : n < 2 ^ 31) (h : ∀ M1, mU M a (t, .inr (2, n, .inr (va_up f i none))) M1 → V X bc bs q L st M1) : V X bc bs pc L (.null :: .int (nI i) :: .ref a :: st) M := s_aastN C q d e hM ht hi hn (h _ mU.up)
theorem s_newU {X : mX} {G : mG} {I : mI} (C : Cx X G I) {bc bs pc : Nat} (q bc' bs' tag : Nat) {L : List (Option Value)} {st : List Value} {M : mM} {idx ci : Nat} {fs : List Value} (d : decode I.2.1 pc = .ok (.new idx, 3)) (e : pc + 3 = q) (hn : mN I.1.cls idx ci fs) (ht : tag ≠ 0) (hbc : bc' + 1 ≤ bc) (hbs : bs' + fs.length ≤ bs) (h : ∀ a M1, M a = none → mU M a (tag, .inl (ci, fs)) M1 → V X bc' bs' q L (.ref a :: st) M1) : V X bc bs pc L st M := s_new C q bc' bs' tag d e hn ht hbc hbs (fun a h1 _ => h a _ h1 mU.up)
theorem s_newaU {X : mX} {G : mG} {I : mI} (C : Cx X G I) {bc bs pc : Nat} (q bc' bs' tag : Nat) {L : List (Option Value)} {st : List Value} {M : mM} {at0 : ArrayType} {kd n : Nat} (d : decode I.2.1 pc = .ok (.newarray at0, 2)) (e : pc + 2 = q) (hkd : at0 = .int ∧ kd = 0 ∧ Cond.arrayClass .int ∈ BIG ∨ at0 = .char ∧ kd = 1 ∧ Cond.arrayClass .char ∈ BIG) (hn : n ≤ 100000) (ht : tag ≠ 0) (hbc : bc' + 1 ≤ bc) (hbs : bs' + n ≤ bs) (h : ∀ a M1, M a = none → mU M a (tag, .inr (kd, n, .inl (fun _ => 0))) M1 → V X bc' bs' q L (.ref a :: st) M1) : V X bc bs pc L (.int (nI n) :: st) M := s_newa C q bc' bs' tag d e hkd hn ht hbc hbs (fun a h1 _ => h a _ h1 mU.up)
theorem s_tagU {X : mX} {bc bs pc : Nat} {L : List (Option Value)} {st : List Value} {M : mM} (a t t' : Nat) {e : mE} (ha : M a = some (t, e)) (ht : t ≠ 0) (ht' : t' ≠ 0) (h : ∀ M1, mU M a (t', e) M1 → V X bc bs pc L st M1) : V X bc bs pc L st M := s_tag a t t' ha ht ht' (h _ mU.up)
/-- Object's constructor -/
theorem s_oi {X : mX} {G : mG} {I : mI} (C : Cx X G I) {bc bs pc : Nat} (q : Nat) {L : List (Option Value)} {st : List Value} {M : mM} {idx a : Nat} (d : decode I.2.1 pc = .ok (.invokespecial idx, 3)) (e : pc + 3 = q) (hm : Cond.methodLink I.1.cls idx objectInit ∈ BIG) (hL : L.length = I.2.2.1) (hI : 1 ≤ I.2.2.2.2) (hw : (st.map fun v => v.category).sum ≤ 8) (k : V X bc bs q L st M) : V X bc bs pc L (.ref a :: st) M := by
  obtain ⟨p, e0, R, s, m, args, below, meth, c, Q, mc, ms, G'⟩ := X
  obtain ⟨rfl, hx, hb, hml, hr, hlk, hown, hts, hK, hroom, hini, hS0⟩ := C
  subst e
  intro H locs cells slots ls hR hc' hs hl
  have hlv := lv_room (m := m) (pc := pc) (ls := ls) (rest := st) hw
  refine W.objInit hx hb hown (hts _ hm) (hts _ oi_inst) (hts _ oi_code) rfl (by show ls.size = _; rw [hl.1, hL, hml]) rfl d (by omega) (by have : (2 * (F0 m pc ls (.ref a :: st)).monitorRoom) = 0 := rfl; omega) ?_
  exact k H locs cells slots ls hR hc' hs hl
/-- a local is forgotten -/
theorem V.drop {X : mX} {bc bs pc : Nat} {L : List (Option Value)} {st : List Value} {M : mM} (i : Nat) (h : V X bc bs pc (L.set i none) st M) : V X bc bs pc L st M := by
  obtain ⟨p, e, R, s, m, args, below, meth, c, Q, mc, ms, G⟩ := X
  intro H locs cells slots ls hR hc hs hl
  refine h H locs cells slots ls hR hc hs ?_
  unfold mL at hl ⊢
  rw [List.length_set]
  refine ⟨hl.1, hl.2.1, fun q hq => hl.2.2 q ?_⟩
  have h1 : (L.set i none)[q.1]? = some (some q.2) := mP_mem.mp hq
  refine mP_mem.mpr ?_
  by_cases e : i = q.1
  · have hlt : q.1 < (L.set i none).length := (List.getElem?_eq_some_iff.mp h1).1
    rw [List.length_set] at hlt
    rw [← e] at hlt h1
    rw [List.getElem?_set_self hlt] at h1
    cases h1
  · rwa [List.getElem?_set_ne e] at h1
/-- a static that nobody writes -/
theorem s_gets {X : mX} {G : mG} {I : mI} (C : Cx X G I) {bc bs pc : Nat} (q : Nat) {L : List (Option Value)} {st : List Value} {M : mM} {idx : Nat} {o n dd : String} {v : Value} (d : decode I.2.1 pc = .ok (.getstatic idx, 3)) (e : pc + 3 = q) (hZ : ∀ s, mK G s → va_Z o n dd v (mAf G.2.1) s G.2.1) (hlink : Cond.fieldLink I.1.cls idx o n dd ∈ BIG) (k : V X bc bs q L (v :: st) M) : V X bc bs pc L st M := by
  obtain ⟨p, e0, R, s, m, args, below, meth, c, Q, mc, ms, G'⟩ := X
  obtain ⟨rfl, hx, hb, hml, hr, hlk, hown, hts, hK, hroom, hini, hS0⟩ := C
  subst e
  intro H locs cells slots ls hR hc hs hl
  obtain ⟨cf, kf, fi, f, a, cell, h1, h2, h3, h4, h5, h6, h7, h8⟩ := hZ s hK
  have hlt : a < G'.2.1.size := (Array.getElem?_eq_some_iff.mp h5).1
  exact W.gets hx hb hown (hts _ hlink) h1 h2 h3 h4 (by rw [hR.2.2.2.1 a hlt h8]; exact h5) (fun e => by rw [e] at h6; cases h6) h7 rfl d (k H locs cells slots ls hR hc hs hl)
/-- the class of rows of Objects; its own class object -/
theorem s_getC {X : mX} {G : mG} {I : mI} (C : Cx X G I) {bc bs pc : Nat} (q : Nat) {L : List (Option Value)} {st : List Value} {M : mM} {idx a t n : Nat} {f : Nat → Option Nat} (d : decode I.2.1 pc = .ok (.invokevirtual idx, 3)) (e : pc + 3 = q) (hM : M a = some (t, .inr (2, n, .inr f))) (hlink : Cond.methodLink I.1.cls idx ⟨"java/lang/Object", "getClass", "()Ljava/lang/Class;"⟩ ∈ BIG) (hsel : Cond.selects "[Ljava/lang/Object;" ⟨"java/lang/Object", "getClass", "()Ljava/lang/Class;"⟩ ⟨"java/lang/Object", "getClass", "()Ljava/lang/Class;"⟩ ∈ BIG) (hinst : Cond.instanceMethod ⟨"java/lang/Object", "getClass", "()Ljava/lang/Class;"⟩ ∈ BIG) (hnat : Cond.native ⟨"java/lang/Object", "getClass", "()Ljava/lang/Class;"⟩ ∈ BIG) (hL : L.length = I.2.2.1) (hI : 1 ≤ I.2.2.2.2) (hw : (st.map fun v => v.category).sum ≤ 8) (k : V X bc bs q L (.ref G.2.2.2.2.2.2.2 :: st) M) : V X bc bs pc L (.ref a :: st) M := by
  obtain ⟨p, e0, R, s, m, args, below, meth, c, Q, mc, ms, G'⟩ := X
  obtain ⟨rfl, hx, hb, hml, hr, hlk, hown, hts, hK, hroom, hini, hS0⟩ := C
  subst e
  intro H locs cells slots ls hR hc hs hl
  have hfc : s.vm.findClass "[Ljava/lang/Object;" = some (G'.2.2.2.1 2) := va_nmO (hK.1.2 2 _ rfl).2 (by decide +kernel)
  exact va_getC hx hb (hml.trans (hL.symm.trans hl.1.symm)) hown (hts _ hlink) (va_Dc.use hK.2.2.2.2.2.2.2.2.2.2.2.2) (hts _ hsel) (hts _ hinst) (hts _ hnat) hK.2.2.2.2.2.2.2.2.2.2.2.1 (by rcases hR.1 a t _ hM with ⟨-, hA⟩ | ⟨-, g0, c0, e0', k1, k2, k3, k4, -⟩; (· exact ⟨_, hA, rfl, hfc⟩); exact ⟨c0, k1, k4, by rw [k2]; exact hfc⟩) (by omega) (by omega) d (k H locs cells slots ls hR hc hs hl)
theorem s_ldcC {X : mX} {G : mG} {I : mI} (C : Cx X G I) {bc bs pc : Nat} (q : Nat) {L : List (Option Value)} {st : List Value} {M : mM} {idx : Nat} (d : decode I.2.1 pc = .ok (.ldc idx, 2)) (e : pc + 2 = q) (hlink : Cond.classLink I.1.cls idx "[Ljava/lang/Object;" ∈ BIG) (k : V X bc bs q L (.ref G.2.2.2.2.2.2.2 :: st) M) : V X bc bs pc L st M := by
  obtain ⟨p, e0, R, s, m, args, below, meth, c, Q, mc, ms, G'⟩ := X
  obtain ⟨rfl, hx, hb, hml, hr, hlk, hown, hts, hK, hroom, hini, hS0⟩ := C
  subst e
  intro H locs cells slots ls hR hc hs hl
  exact va_ldcM hx hb hown (hts _ hlink) hK.2.2.2.2.2.2.2.2.2.2.2.1 d (k H locs cells slots ls hR hc hs hl)
/-- making a row of objects: of Objects (kind 2), of States (kind 3) -/
theorem s_newqU {X : mX} {G : mG} {I : mI} (C : Cx X G I) {bc bs pc : Nat} (q bc' bs' tag : Nat) {L : List (Option Value)} {st : List Value} {M : mM} {idx kd n : Nat} {E : String} (d : decode I.2.1 pc = .ok (.anewarray idx, 3)) (e : pc + 3 = q) (hkd : kd = 2 ∧ E = "java/lang/Object" ∨ kd = 3 ∧ E = "TitleFinder$State") (hlink : Cond.classLink I.1.cls idx E ∈ BIG) (hn : n ≤ 100000) (ht : tag ≠ 0) (hbc : bc' + 1 ≤ bc) (hbs : bs' + n ≤ bs) (h : ∀ a M1, M a = none → mU M a (tag, .inr (kd, n, .inr (fun _ => none))) M1 → V X bc' bs' q L (.ref a :: st) M1) : V X bc bs pc L (.int (nI n) :: st) M := by
  obtain ⟨p, e0, R, s, m, args, below, meth, c, Q, mc, ms, G'⟩ := X
  obtain ⟨rfl, hx, hb, hml, hr, hlk, hown, hts, hK, hroom, hini, hS0⟩ := C
  subst e
  intro H locs cells slots ls hR hc hs hl
  have hz : (nI n).toNatClampNeg = n := nI_clamp (by omega)
  have go : ∀ cA0, va_AO E s → G'.2.2.2.1 kd = cA0 → s.vm.findClass ("[" ++ (FieldType.object E).toString) = some cA0 → W p G'.1 e0 R s m args below meth c H locs cells slots Q (F0 m pc ls (.int (nI n) :: st)) := by
    intro cA0 hAO hA0 hfc
    refine va_newq (ws := mW G'.2.2.2.1 M H.size (fun _ => true)) (C := E) hx hb hown (hts _ hlink) hAO hK.1 (mW_P hR) (mW_D hR) hR.2.2 (fun q h => h) (nI_pos (by omega)) hz (by omega) (by omega) (by omega) d (fun a cA H1 hK1 hP hD hS => ?_)
    have hcA : cA = G'.2.2.2.1 kd := by
      have h2 := (hK1.2 6 (cA, .object E) (by simp [tysK])).2
      obtain ⟨-, -, -, -, -, h4⟩ := h2
      rw [hA0]
      exact Option.some.inj (h4.symm.trans hfc)
    subst hcA
    have hb5 : Nat.beq kd 5 = false := by rcases hkd with ⟨rfl, -⟩ | ⟨rfl, -⟩ <;> rfl
    have hmv : mv G'.2.2.2.1 (.inr (kd, n, .inr (fun _ => none))) = _ := mv_r hb5
    obtain ⟨g1, g2, g3⟩ := mR_new (e := .inr (kd, n, .inr (fun _ => none))) hR ht (by rw [hmv]; exact hP) (by rw [hmv]; exact hD) hS
    exact h a _ g1 mU.up H1 locs _ _ ls g3 (by omega) (by omega) hl
  rcases hkd with ⟨rfl, rfl⟩ | ⟨rfl, rfl⟩
  · obtain ⟨-, -, -, -, -, h4⟩ := (hK.1.2 2 _ rfl).2
    exact go _ hK.2.2.2.2.2.2.1 rfl h4
  · obtain ⟨-, -, -, -, -, h4⟩ := (hK.1.2 3 _ rfl).2
    exact go _ hK.2.2.2.2.2.2.2.1 rfl h4
/-- System.arraycopy over rows of Objects that hold Titles -/
def mTit (M : mM) (f : Nat → Option Nat) (a n : Nat) : Prop := ∀ i, i < n → ∀ y, f (a + i) = some y → ∃ t fs, M y = some (t, .inl (6, fs))
theorem s_acopy {X : mX} {G : mG} {I : mI} (C : Cx X G I) {bc bs pc : Nat} (q : Nat) {L : List (Option Value)} {st : List Value} {M : mM} {idx a0 a1 t0 t1 n0 n1 sp dp n : Nat} {f g : Nat → Option Nat} (d : decode I.2.1 pc = .ok (.invokestatic idx, 3)) (e : pc + 3 = q) (hlink : Cond.methodLink I.1.cls idx arraycopyName ∈ BIG) (hnat : Cond.native arraycopyName ∈ BIG) (hstat : Cond.static arraycopyName ∈ BIG) (hini : Cond.initialized "java/lang/System" ∈ BIG)
    (h0 : M a0 = some (t0, .inr (2, n0, .inr f))) (h1 : M a1 = some (t1, .inr (2, n1, .inr g))) (ht0 : t0 ≠ 0) (ht1 : t1 ≠ 0) (hs : sp + n ≤ n0) (hd : dp + n ≤ n1) (hb0 : n0 < 100000) (hb1 : n1 < 100000) (hT : mTit M f sp n) (hL : L.length = I.2.2.1) (hI : 1 ≤ I.2.2.2.2) (hw : (st.map fun v => v.category).sum ≤ 8) (h : ∀ M1, mU M a1 (t1, .inr (2, n1, .inr (va_cpy f g sp dp n))) M1 → V X bc bs q L st M1) : V X bc bs pc L (.int (nI n) :: .int (nI dp) :: .ref a1 :: .int (nI sp) :: .ref a0 :: st) M := by
  obtain ⟨p, e0, R, s, m, args, below, meth, c, Q, mc, ms, G'⟩ := X
  obtain ⟨rfl, hx, hb, hml, hr, hlk, hown, hts, hK, hroom, hini', hS0⟩ := C
  subst e
  intro H locs cells slots ls hR hc hs' hl
  have e1 : (nI sp).toNatClampNeg = sp := nI_clamp (by omega)
  have e2 : (nI dp).toNatClampNeg = dp := nI_clamp (by omega)
  have e3 : (nI n).toNatClampNeg = n := nI_clamp (by omega)
  have hel : ∀ i : Nat, i < (nI n).toNatClampNeg → ∀ y : Nat, f ((nI sp).toNatClampNeg + i) = some y → va_Any "java/lang/Object" s H y := by
    rw [e1, e3]
    intro i hi y hy
    obtain ⟨t, fs, hM⟩ := hT i hi y hy
    obtain ⟨r', hr', cellV, g1, g2, g3, -⟩ := (hR.1 y t _ hM).o
    have hr'' : r' = (RX5, TX5, 3) := (Option.some.inj (hr'.symm.trans (rfl : vwCl[6]? = some (RX5, TX5, 3))))
    subst hr''
    have hcls := (hK.1.1 6 (RX5, TX5, 3) rfl).2
    obtain ⟨kC, hkC, -⟩ := hcls.2
    refine ⟨cellV, g1, by rw [g3]; rfl, ⟨kC, by rw [g2]; exact hkC⟩, fun comp hcomp => ?_⟩
    rw [g2]
    have hn := hK.2.2.2.2.2.2.2.2.2.2.1
    have hcls1 : s.vm.findClass "TitleFinder$Title" = some (G'.2.2.1.1 6) := hcls.1
    unfold va_Nw at hn
    simp [Cond.before, Cond.holds, Cond.value, hcls1, hcomp] at hn
    exact hn
  have hnw : nativeFrameWords "java/lang/System" "arraycopy" 5 + 11 ≤ 24 := by decide +kernel
  have key : ∀ q0 : Nat, ((a1, .inl (G'.2.2.2.1 2, n1, .inr (.inr (.inr (.inr g))))) :: mWx G' M H a1 : va_W)[q0]? = some (a0, .inl (G'.2.2.2.1 2, n0, .inr (.inr (.inr (.inr f))))) → W p G'.1 e0 R s m args below meth c H locs cells slots Q (F0 m pc ls (.int (nI n) :: .int (nI dp) :: .ref a1 :: .int (nI sp) :: .ref a0 :: st)) := by
    intro q0 hq0
    refine va_copyM (ws := (a1, .inl (G'.2.2.2.1 2, n1, .inr (.inr (.inr (.inr g))))) :: mWx G' M H a1) hx hb (hml.trans (hL.symm.trans hl.1.symm)) hown (hts _ hlink) (hts _ hnat) (hts _ hstat) (hts _ hini) hK.1 (mWx_P hR h1 ht1) (mWx_D hR h1 ht1 _) hR.2.2 q0 0 2 2 hq0 rfl rfl rfl (nI_pos (by omega)) (nI_pos (by omega)) (nI_pos (by omega)) (by omega) (by omega) hel (by omega) (by omega) d (fun H1 locs1 hP _ hS => ?_)
    rw [e1, e2, e3] at hP
    exact h _ mU.up H1 locs1 cells slots ls (mR_put (e' := .inr (2, n1, .inr (va_cpy f g sp dp n))) hR h1 ht1 hP hS) hc hs' hl
  by_cases ha : a0 = a1
  · subst ha
    rw [h0] at h1
    cases h1
    exact key 0 rfl
  · have hm : (a0, mv G'.2.2.2.1 (.inr (2, n0, .inr f))) ∈ mWx G' M H a1 := mW_mem.mpr ⟨hR.lt h0, by simpa using ha, t0, _, h0, ht0, rfl⟩
    obtain ⟨k, hk⟩ := List.mem_iff_getElem?.mp hm
    exact key (k + 1) hk
theorem s_acmp_eq {X : mX} {G : mG} {I : mI} (C : Cx X G I) {bc bs pc : Nat} (t q : Nat) {L : List (Option Value)} {st : List Value} {M : mM} {x y : Nat} {off : Int} (d : decode I.2.1 pc = .ok (.if_acmp .eq off, 3)) (e : (pc : Int) + off = (t : Int)) (e2 : pc + 3 = q) (kt : x = y → V X bc bs t L st M) (kf : ¬ x = y → V X bc bs q L st M) : V X bc bs pc L (.ref y :: .ref x :: st) M := by
  obtain ⟨p, e0, R, s, m, args, below, meth, c, Q, mc, ms, G'⟩ := X
  obtain ⟨rfl, hx, hb, hml, hr, hlk, hown, hts, hK, hroom, hini, hS0⟩ := C
  subst e2
  intro H locs cells slots ls hR hc hs hl
  exact lv_acmp_eq (rx := some x) (ry := some y) hx hb d e (fun z => kt (Option.some.inj z) H locs cells slots ls hR hc hs hl) (fun z => kf (fun w => z (by rw [w])) H locs cells slots ls hR hc hs hl)
/-! longs that are small naturals -/
theorem wb_tb (n : Nat) : (lN n).toBitVec = BitVec.ofNat 64 n := rfl
theorem wb_inj {a b : Int64} (h : a.toBitVec = b.toBitVec) : a = b := Int64.toBitVec_inj.mp h
theorem wb_c : ∀ k, k < 64 → ((nI k).toInt64 &&& 63) = lN k := by decide +kernel
theorem wb_sm : ∀ k, k < 64 → (BitVec.ofNat 64 k).smod 64 = BitVec.ofNat 64 k := by decide +kernel
theorem wb_shl (n : Nat) {k : Nat} (hk : k < 64) : lN n <<< ((nI k).toInt64 &&& 63) = lN (n * 2 ^ k) := by
  rw [wb_c k hk]
  apply wb_inj
  rw [Int64.toBitVec_shiftLeft, wb_tb, wb_tb, wb_tb, wb_sm k hk]
  apply BitVec.eq_of_toNat_eq
  rw [BitVec.shiftLeft_eq', BitVec.toNat_shiftLeft, BitVec.toNat_ofNat, BitVec.toNat_ofNat, BitVec.toNat_ofNat, Nat.mod_eq_of_lt (show k < 2 ^ 64 by omega), Nat.shiftLeft_eq, Nat.mul_mod, Nat.mod_mod, ← Nat.mul_mod]
theorem fb_andL (a b : Nat) : lN a &&& lN b = lN (a &&& b) := by
  apply Int64.toBitVec_inj.1
  show BitVec.ofNat 64 a &&& BitVec.ofNat 64 b = BitVec.ofNat 64 (a &&& b)
  apply BitVec.eq_of_getLsbD_eq
  intro i hi
  simp [hi]
theorem fb_orL (a b : Nat) : lN a ||| lN b = lN (a ||| b) := by
  apply Int64.toBitVec_inj.1
  show BitVec.ofNat 64 a ||| BitVec.ofNat 64 b = BitVec.ofNat 64 (a ||| b)
  apply BitVec.eq_of_getLsbD_eq
  intro i hi
  simp [hi]
theorem pf_lI {a : Nat} (h : a < 2 ^ 63) : (lN a).toInt = (a : Int) := lg_ofNat_toInt h
theorem pf_shr {a d : Nat} {D : Int64} (hD : (D.toBitVec.smod 64).toNat = d) (h : a < 2 ^ 62) : lN a >>> D = lN (a / 2 ^ d) := by
  have hd : a / 2 ^ d ≤ a := Nat.div_le_self _ _
  apply Int64.toInt_inj.mp
  have e : (lN a >>> D).toInt = (lN a).toInt >>> d := by
    rw [← hD]
    exact BitVec.toInt_sshiftRight ..
  rw [e, Int.shiftRight_eq_div_pow, pf_lI (by omega), pf_lI (by omega)]
  rfl
theorem wl_shr {n k : Nat} (hn : n < 2 ^ 62) (hk : k < 64) : lN n >>> ((nI k).toInt64 &&& 63) = lN (n / 2 ^ k) := by
  rw [wb_c k hk]
  refine pf_shr ?_ hn
  rw [wb_tb, wb_sm k hk, BitVec.toNat_ofNat, Nat.mod_eq_of_lt (by omega)]
theorem lcmp_z {x y : Int64} : lg_cmp x y = 0 ↔ x = y := by
  unfold lg_cmp
  by_cases h : x > y
  · rw [if_pos h]
    constructor
    · intro w; exact absurd w (by decide)
    · rintro rfl
      rw [gt_iff_lt, Int64.lt_iff_toInt_lt] at h
      omega
  · rw [if_neg h]
    by_cases e : x = y
    · rw [if_pos e]; exact ⟨fun _ => e, fun _ => rfl⟩
    · rw [if_neg e]
      exact ⟨fun w => absurd w (by decide), fun w => absurd w e⟩
theorem lcmpN {a b : Nat} (ha : a < 2 ^ 63) (hb : b < 2 ^ 63) : lg_cmp (lN a) (lN b) = 0 ↔ a = b := lcmp_z.trans (pk_lEQ ha hb)
section LNG
variable {X : mX} {G : mG} {I : mI} {bc bs pc : Nat} {L : List (Option Value)} {st : List Value} {M : mM}
theorem s_lorN (C : Cx X G I) (q : Nat) {a b : Nat} (d : decode I.2.1 pc = .ok (.lor, 1)) (e : pc + 1 = q) (k : V X bc bs q L (.long (lN (a ||| b)) :: st) M) : V X bc bs pc L (.long (lN b) :: .long (lN a) :: st) M := s_lor C q d e (by rw [fb_orL]; exact k)
theorem s_landN (C : Cx X G I) (q : Nat) {a b : Nat} (d : decode I.2.1 pc = .ok (.land, 1)) (e : pc + 1 = q) (k : V X bc bs q L (.long (lN (a &&& b)) :: st) M) : V X bc bs pc L (.long (lN b) :: .long (lN a) :: st) M := s_land C q d e (by rw [fb_andL]; exact k)
theorem s_lsubN (C : Cx X G I) (q : Nat) {a b : Nat} (d : decode I.2.1 pc = .ok (.lsub, 1)) (e : pc + 1 = q) (h : b ≤ a) (k : V X bc bs q L (.long (lN (a - b)) :: st) M) : V X bc bs pc L (.long (lN b) :: .long (lN a) :: st) M := s_lsub C q d e (by rw [lN_sub h]; exact k)
theorem s_lshlN (C : Cx X G I) (q : Nat) {a n : Nat} (d : decode I.2.1 pc = .ok (.lshl, 1)) (e : pc + 1 = q) (h : n < 64) (k : V X bc bs q L (.long (lN (a * 2 ^ n)) :: st) M) : V X bc bs pc L (.int (nI n) :: .long (lN a) :: st) M := s_lshl C q d e (by rw [wb_shl a h]; exact k)
theorem s_lshrN (C : Cx X G I) (q : Nat) {a n : Nat} (d : decode I.2.1 pc = .ok (.lshr, 1)) (e : pc + 1 = q) (h : n < 64) (ha : a < 2 ^ 62) (k : V X bc bs q L (.long (lN (a / 2 ^ n)) :: st) M) : V X bc bs pc L (.int (nI n) :: .long (lN a) :: st) M := s_lshr C q d e (by rw [wl_shr ha h]; exact k)
theorem s_l2iN (C : Cx X G I) (q : Nat) {a : Nat} (d : decode I.2.1 pc = .ok (.l2i, 1)) (e : pc + 1 = q) (k : V X bc bs q L (.int (nI a) :: st) M) : V X bc bs pc L (.long (lN a) :: st) M := s_l2i C q d e (by rw [lN_i]; exact k)
theorem s_i2lN (C : Cx X G I) (q : Nat) {a : Nat} (d : decode I.2.1 pc = .ok (.i2l, 1)) (e : pc + 1 = q) (h : a < 2 ^ 31) (k : V X bc bs q L (.long (lN a) :: st) M) : V X bc bs pc L (.int (nI a) :: st) M := s_i2l C q d e (by rw [nI_l h]; exact k)
theorem s_idivN (C : Cx X G I) (q : Nat) {a b : Nat} (d : decode I.2.1 pc = .ok (.idiv, 1)) (e : pc + 1 = q) (ha : a < 2 ^ 31) (h0 : 0 < b) (hb : b < 2 ^ 31) (k : V X bc bs q L (.int (nI (a / b)) :: st) M) : V X bc bs pc L (.int (nI b) :: .int (nI a) :: st) M := s_idiv C q d e (nI_ne0 h0 hb) (by rw [pk_div ha h0 hb]; exact k)
theorem s_iremN (C : Cx X G I) (q : Nat) {a b : Nat} (d : decode I.2.1 pc = .ok (.irem, 1)) (e : pc + 1 = q) (ha : a < 2 ^ 31) (h0 : 0 < b) (hb : b < 2 ^ 31) (k : V X bc bs q L (.int (nI (a % b)) :: st) M) : V X bc bs pc L (.int (nI b) :: .int (nI a) :: st) M := s_irem C q d e (nI_ne0 h0 hb) (by rw [pk_rem ha h0 hb]; exact k)
end LNG
/-! the script -/
theorem s_slen {X : mX} {G : mG} {I : mI} (C : Cx X G I) {bc bs pc : Nat} (q : Nat) {L : List (Option Value)} {st : List Value} {M : mM} (d : decode I.2.1 pc = .ok (.arraylength, 1)) (e : pc + 1 = q) (k : V X bc bs q L (.int (nI (G.2.2.2.2.1 1)) :: st) M) : V X bc bs pc L (.ref (G.2.2.2.2.1 0) :: st) M := by
  obtain ⟨p, e0, R, s, m, args, below, meth, c, Q, mc, ms, G'⟩ := X
  obtain ⟨rfl, hx, hb, hml, hr, hlk, hown, hts, hK, hroom, hini, hS0⟩ := C
  subst e
  intro H locs cells slots ls hR hc' hs hl
  exact va_slen hx hb hK.2.2.2.2.1 hK.2.2.2.2.2.1.1 (Nat.not_le.mpr hK.2.2.2.2.2.1.1) hR.2.2 d (k H locs cells slots ls hR hc' hs hl)
theorem s_sld {X : mX} {G : mG} {I : mI} (C : Cx X G I) {bc bs pc : Nat} (q : Nat) {L : List (Option Value)} {st : List Value} {M : mM} {i : Nat} (d : decode I.2.1 pc = .ok (.iaload, 1)) (e : pc + 1 = q) (hi : i < G.2.2.2.2.1 1) (k : V X bc bs q L (.int (G.2.2.2.2.2.1 i) :: st) M) : V X bc bs pc L (.int (nI i) :: .ref (G.2.2.2.2.1 0) :: st) M := by
  obtain ⟨p, e0, R, s, m, args, below, meth, c, Q, mc, ms, G'⟩ := X
  obtain ⟨rfl, hx, hb, hml, hr, hlk, hown, hts, hK, hroom, hini, hS0⟩ := C
  subst e
  intro H locs cells slots ls hR hc' hs hl
  have h260 := hK.2.2.2.2.2.1.2
  refine va_sld hx hb hK.2.2.2.2.1 hK.2.2.2.2.2.1.1 (Nat.not_le.mpr hK.2.2.2.2.2.1.1) hR.2.2 (vp_in_nI hi (by omega)) d ?_
  rw [nI_clamp (by omega)]
  exact k H locs cells slots ls hR hc' hs hl
theorem s_script {X : mX} {G : mG} {I : mI} (C : Cx X G I) : G.2.2.2.2.1 1 ≤ 260 := by
  obtain ⟨p, e0, R, s, m, args, below, meth, c, Q, mc, ms, G'⟩ := X
  obtain ⟨rfl, hx, hb, hml, hr, hlk, hown, hts, hK, hroom, hini, hS0⟩ := C
  exact hK.2.2.2.2.2.1.2
/-! rows of longs (kind 5): what is in them stands as natural numbers -/
/-- the contents of a row of longs -/
def lA (f : Nat → Nat) : Nat → Option Nat := fun i => some (f i)
theorem s_laldN {X : mX} {G : mG} {I : mI} (C : Cx X G I) {bc bs pc : Nat} (q : Nat) {L : List (Option Value)} {st : List Value} {M : mM} {a t n : Nat} {f : Nat → Nat} {i : Nat} (d : decode I.2.1 pc = .ok (.laload, 1)) (e : pc + 1 = q) (hM : M a = some (t, .inr (5, n, .inr (lA f)))) (hi : i < n) (hn : n < 2 ^ 31) (h : V X bc bs q L (.long (lN (f i)) :: st) M) : V X bc bs pc L (.int (nI i) :: .ref a :: st) M := by
  obtain ⟨p, e0, R, s, m, args, below, meth, c, Q, mc, ms, G'⟩ := X
  obtain ⟨rfl, hx, hb, hml, hr, hlk, hown, hts, hK, hroom, hini, hS0⟩ := C
  subst e
  intro H locs cells slots ls hR hc hs hl
  have hA : va_at G'.2.2.1 vwCl (a, .inl (G'.2.2.2.1 5, n, .inr (.inl (fun j => lN (f j))))) H := by
    rcases hR.1 a t _ hM with ⟨-, h⟩ | ⟨-, g0, c0, e0', -⟩
    · exact h
    · cases e0'
  refine va_lald (ws := [(a, .inl (G'.2.2.2.1 5, n, .inr (.inl (fun j => lN (f j)))))]) hx hb hK.1 (fun k q hq => by
    cases k with
    | zero => cases hq; exact hA
    | succ k => cases hq) 0 5 rfl rfl (vp_in_nI hi hn) d ?_
  rw [nI_clamp (by omega)]
  exact h H locs cells slots ls hR hc hs hl
theorem s_lastU {X : mX} {G : mG} {I : mI} (C : Cx X G I) {bc bs pc : Nat} (q : Nat) {L : List (Option Value)} {st : List Value} {M : mM} {a t n x : Nat} {f : Nat → Nat} {i : Nat} (d : decode I.2.1 pc = .ok (.lastore, 1)) (e : pc + 1 = q) (hM : M a = some (t, .inr (5, n, .inr (lA f)))) (ht : t ≠ 0) (hi : i < n) (hn : n < 2 ^ 31) (h : ∀ M1, mU M a (t, .inr (5, n, .inr (lA (va_up f i x)))) M1 → V X bc bs q L st M1) : V X bc bs pc L (.long (lN x) :: .int (nI i) :: .ref a :: st) M := by
  have h9 := h _ mU.up
  obtain ⟨p, e0, R, s, m, args, below, meth, c, Q, mc, ms, G'⟩ := X
  obtain ⟨rfl, hx, hb, hml, hr, hlk, hown, hts, hK, hroom, hini, hS0⟩ := C
  subst e
  intro H locs cells slots ls hR hc hs hl
  refine va_last (ws := (a, .inl (G'.2.2.2.1 5, n, .inr (.inl (fun j => lN (f j))))) :: mWx G' M H a) hx hb hK.1 (mWx_P hR hM ht) (mWx_D hR hM ht _) hR.2.2 0 5 rfl rfl (vp_in_nI hi hn) d (fun H1 locs1 hP _ hS => ?_)
  rw [nI_clamp (by omega)] at hP
  have hu : vp_updL (fun j => lN (f j)) i (lN x) = fun j => lN (va_up f i x j) := by
    funext j
    unfold vp_updL va_up
    by_cases e : j = i
    · simp only [if_pos e]
    · simp only [if_neg e]
  rw [hu] at hP
  exact h9 H1 locs1 cells slots ls (mR_put (e' := .inr (5, n, .inr (lA (va_up f i x)))) hR hM ht hP hS) hc hs hl
theorem s_newLU {X : mX} {G : mG} {I : mI} (C : Cx X G I) {bc bs pc : Nat} (q bc' bs' tag : Nat) {L : List (Option Value)} {st : List Value} {M : mM} {n : Nat} (d : decode I.2.1 pc = .ok (.newarray .long, 2)) (e : pc + 2 = q) (hw : Cond.arrayClass .long ∈ BIG) (hn : n ≤ 100000) (ht : tag ≠ 0) (hbc : bc' + 1 ≤ bc) (hbs : bs' + n ≤ bs) (h : ∀ a M1, M a = none → mU M a (tag, .inr (5, n, .inr (lA (fun _ => 0)))) M1 → V X bc' bs' q L (.ref a :: st) M1) : V X bc bs pc L (.int (nI n) :: st) M := by
  obtain ⟨p, e0, R, s, m, args, below, meth, c, Q, mc, ms, G'⟩ := X
  obtain ⟨rfl, hx, hb, hml, hr, hlk, hown, hts, hK, hroom, hini, hS0⟩ := C
  subst e
  intro H locs cells slots ls hR hc hs hl
  have hz : (nI n).toNatClampNeg = n := nI_clamp (by omega)
  refine va_newaK hx hb (atype := .long) (hts _ hw) rfl d rfl (nI_pos (by omega)) hz (by show n * 8 ≤ _; omega) (by omega) (by omega) rfl (fun H1 cA e1 z1 o1 hAr hNm => ?_)
  have hcA : cA = G'.2.2.2.1 5 := Option.some.inj (hNm.symm.trans (hK.1.2 5 _ rfl).2)
  subst hcA
  have hk : ∀ (k : Nat) (x : Nat × va_E), (mW G'.2.2.2.1 M H.size (fun _ => true))[k]? = some x → H1[x.1]? = H[x.1]? := fun k x hx => o1 x.1 ((mW_P hR k x hx).lt)
  obtain ⟨g1, g2, g3⟩ := mR_new (q := H.size) (e := .inr (5, n, .inr (lA (fun _ => 0)))) hR ht (((mW_P hR).kept hk).app (fun k x hx => by
    cases k with
    | zero => cases hx; exact e1
    | succ k => cases hx)) ((mW_D hR).push (mW_P hR) rfl hR.2.2.1) ⟨Nat.le_trans hR.2.2.1 (by omega), fun x h1 h2 => (o1 x (Nat.lt_of_lt_of_le h1 hR.2.2.1)).trans (hR.2.2.2.1 x h1 h2), hR.2.2.2.2⟩
  exact h H.size _ g1 mU.up H1 locs _ _ ls g3 (by omega) (by omega) hl
end
