/-! the literals -/
def wds : List (List Nat) := [[97, 100, 100, 32], [100, 114, 111, 112, 32], [109, 111, 100, 101, 32], [111, 114, 100, 101, 114, 32], [97, 115, 107, 32], [112, 105, 99, 107, 32], [99, 108, 101, 97, 114], [112, 97, 114, 116], [115, 116, 97, 114, 116], [119, 111, 114, 100], [105, 110, 105, 116, 105, 97, 108, 115], [112, 108, 97, 99, 101], [111, 102, 116, 101, 110], [110, 97, 109, 101]]
def wdL (i : Nat) : Nat := (wds.getD i []).length
def wdC (i k : Nat) : Nat := (wds.getD i []).getD k 0
theorem wd_all : ∀ i, i < 14 → (sLen.getD i 0 = wdL i ∧ wdL i < 20 ∧ ∀ k, k < wdL i → ((((sByt.getD i []).getD k 0) &&& nI 255).toUInt32 % 65536).toInt32 = nI (wdC i k) ∧ vp_nar .char (nI (wdC i k)) = nI (wdC i k) ∧ ((sByt.getD i []).getD k 0) &&& nI 255 = nI (wdC i k)) := by decide +kernel
theorem s_ldcS {X : mX} {G : mG} {I : mI} (C : Cx X G I) {bc bs pc : Nat} (q i : Nat) {L : List (Option Value)} {st : List Value} {M : mM} {idx : Nat} (d : decode I.2.1 pc = .ok (.ldc idx, 2)) (e : pc + 2 = q) (hi : i < 14) (ho : I.1.cls = "TitleFinder$Text") (hx : idx = sIdx.getD i 0) (k : V X bc bs q L (.ref (G.2.2.2.2.1 i) :: st) M) : V X bc bs pc L st M := by
  obtain ⟨p, e0, R, s, m, args, below, meth, c, Q, mc, ms, G'⟩ := X
  obtain ⟨rfl, hx0, hb, hml, hr, hlk, hown, hts, hK, hroom, hini, hS0⟩ := C
  subst e
  subst hx
  intro H locs cells slots ls hR hc hs hl
  have hZ := hK.2.2.2.2.2.1 i hi
  rw [← ho] at hZ
  exact va_ldcS hx0 hb hown hZ d (k H locs cells slots ls hR hc hs hl)
theorem mRv_str {G : mG} {M : mM} {i : Nat} (hi : i < 14) : mRv G M "java/lang/String" (G.2.2.2.2.1 i) := by
  intro s H locs hK hR
  obtain ⟨cell, h1, h2, h3, h4⟩ := (hK.2.2.2.2.1.1 i hi).1
  exact ⟨cell, by rw [hR.2.2.2.1 _ (Array.getElem?_eq_some_iff.mp h1).1 h4]; exact h1, h2, h3⟩
theorem s_strF {X : mX} {G : mG} {I : mI} (C : Cx X G I) {bc bs pc : Nat} (q : Nat) {L : List (Option Value)} {st : List Value} {M : mM} {idx a : Nat} {n dd : String} {v : Value} (d : decode I.2.1 pc = .ok (.getfield idx, 3)) (e : pc + 3 = q) (hE : ∀ s, mK G s → va_OF "java/lang/String" n dd v a (mAf G.2.1) s G.2.1) (hlink : Cond.fieldLink I.1.cls idx "java/lang/String" n dd ∈ BIG) (k : V X bc bs q L (v :: st) M) : V X bc bs pc L (.ref a :: st) M := by
  obtain ⟨p, e0, R, s, m, args, below, meth, c, Q, mc, ms, G'⟩ := X
  obtain ⟨rfl, hx, hb, hml, hr, hlk, hown, hts, hK, hroom, hini, hS0⟩ := C
  subst e
  intro H locs cells slots ls hR hc hs hl
  obtain ⟨cf, kf, i, f, cell, h1, h2, h3, h4, h5, h6⟩ := hE s hK
  exact W.getf hx hb hown (hts _ hlink) h1 h2 (by rw [hR.2.2.2.1 _ (Array.getElem?_eq_some_iff.mp h3).1 h6]; exact h3) h4 h5 rfl rfl d (k H locs cells slots ls hR hc hs hl)
theorem s_strL {X : mX} {G : mG} {I : mI} (C : Cx X G I) {bc bs pc : Nat} (q i : Nat) {L : List (Option Value)} {st : List Value} {M : mM} (d : decode I.2.1 pc = .ok (.arraylength, 1)) (e : pc + 1 = q) (hi : i < 14) (k : V X bc bs q L (.int (nI (wdL i)) :: st) M) : V X bc bs pc L (.ref (G.2.2.2.2.2.1 i) :: st) M := by
  obtain ⟨p, e0, R, s, m, args, below, meth, c, Q, mc, ms, G'⟩ := X
  obtain ⟨rfl, hx, hb, hml, hr, hlk, hown, hts, hK, hroom, hini, hS0⟩ := C
  subst e
  intro H locs cells slots ls hR hc hs hl
  obtain ⟨cell, h1, h2, h3, h4, h5, h6, h7⟩ := (hK.2.2.2.2.1.1 i hi).2.2.2
  rw [(wd_all i hi).1] at h5
  exact W.alen (n := nI (wdL i)) hx hb (by rw [hR.2.2.2.1 _ (Array.getElem?_eq_some_iff.mp h1).1 h7]; exact h1) h2 h5 rfl rfl d (k H locs cells slots ls hR hc hs hl)
theorem s_strB {X : mX} {G : mG} {I : mI} (C : Cx X G I) {bc bs pc : Nat} (q i : Nat) {L : List (Option Value)} {st : List Value} {M : mM} {j : Nat} (d : decode I.2.1 pc = .ok (.baload, 1)) (e : pc + 1 = q) (hi : i < 14) (hj : j < wdL i) (k : V X bc bs q L (.int ((sByt.getD i []).getD j 0) :: st) M) : V X bc bs pc L (.int (nI j) :: .ref (G.2.2.2.2.2.1 i) :: st) M := by
  obtain ⟨p, e0, R, s, m, args, below, meth, c, Q, mc, ms, G'⟩ := X
  obtain ⟨rfl, hx, hb, hml, hr, hlk, hown, hts, hK, hroom, hini, hS0⟩ := C
  subst e
  intro H locs cells slots ls hR hc hs hl
  obtain ⟨cell, h1, h2, h3, h4, h5, h6, h7⟩ := (hK.2.2.2.2.1.1 i hi).2.2.2
  obtain ⟨w1, w2, w3⟩ := wd_all i hi
  rw [w1] at h4 h6
  have e1 : (nI j).toNatClampNeg = j := nI_clamp (by omega)
  exact W.bald (v := .int ((sByt.getD i []).getD j 0)) hx hb (by rw [hR.2.2.2.1 _ (Array.getElem?_eq_some_iff.mp h1).1 h7]; exact h1) h2 h3 (by rw [e1]; rintro (h | h); (· exact nI_pos (by omega) h); omega) (by rw [e1]; exact h6 j hj) rfl rfl d (k H locs cells slots ls hR hc hs hl)
theorem va_Zq_val {C n d : String} {A : Nat → Prop} {U : State} {H : Heap} (h : va_Zq C n d A U H) : ∃ v, (v = .null ∨ ∃ x, v = .ref x) ∧ va_Z C n d v A U H := by
  rcases h with h | ⟨t, h⟩
  · exact ⟨.null, Or.inl rfl, h⟩
  · exact ⟨.ref t, Or.inr ⟨t, rfl⟩, h⟩
theorem s_getsq {X : mX} {G : mG} {I : mI} (C : Cx X G I) {bc bs pc : Nat} (q : Nat) {L : List (Option Value)} {st : List Value} {M : mM} {idx : Nat} (d : decode I.2.1 pc = .ok (.getstatic idx, 3)) (e : pc + 3 = q) (hlink : Cond.fieldLink I.1.cls idx "jdk/internal/util/Preconditions" "SIOOBE_FORMATTER" "Ljava/util/function/BiFunction;" ∈ BIG) (k : ∀ v, (v = .null ∨ ∃ x, v = .ref x) → V X bc bs q L (v :: st) M) : V X bc bs pc L st M := by
  obtain ⟨p, e0, R, s, m, args, below, meth, c, Q, mc, ms, G'⟩ := X
  obtain ⟨rfl, hx, hb, hml, hr, hlk, hown, hts, hK, hroom, hini, hS0⟩ := C
  subst e
  intro H locs cells slots ls hR hc hs hl
  obtain ⟨v, hv, cf, kf, fi, f, a, cell, h1, h2, h3, h4, h5, h6, h7, h8⟩ := va_Zq_val hK.2.2.2.1
  have hlt : a < G'.2.1.size := (Array.getElem?_eq_some_iff.mp h5).1
  exact W.gets hx hb hown (hts _ hlink) h1 h2 h3 h4 (by rw [hR.2.2.2.1 a hlt h8]; exact h5) (fun e => by rw [e] at h6; cases h6) h7 rfl d (k v hv H locs cells slots ls hR hc hs hl)
theorem wd_nar {x : Int32} (h : vp_nar .char x = x) : narrow .char (.int x) = .int x := by
  rw [vp_nar_char] at h
  show Value.int _ = Value.int x
  exact congrArg Value.int (by simpa using h)
set_option maxRecDepth 100000 in
set_option maxHeartbeats 4000000 in
/-- String.coder -/
theorem c_coder {G : mG} {M : mM} {i : Nat} (hi : i < 14) : CC G iJ0_coder_7d493 0 0 [.ref (G.2.2.2.2.1 i)] M (fun r M1 => r = some (.int (nI 0)) ∧ M = M1) := by
  refine CC.of rfl (Nat.le_of_ble_eq_true rfl) rfl (fun X C Tr => ?_)
  show V X 0 0 0 [some (.ref (G.2.2.2.2.1 i))] [] M
  refine s_gets (v := .int (nI 1)) C 3 dJ0_coder_7d493_0 rfl (fun s h => h.2.2.1) cs_link ?_
  refine s_if_eqN C 13 6 dJ0_coder_7d493_3 (by decide) rfl (by omega) (fun z3 => ?_) (fun z3 => ?_)
  · skip
    omega
  · skip
    refine s_aload_n C 7 dJ0_coder_7d493_6 rfl rfl ?_
    refine s_strF (v := .int (nI 0)) C 10 dJ0_coder_7d493_7 rfl (fun s h => (h.2.2.2.2.1.1 i hi).2.1) sc_link ?_
    refine s_goto C 14 dJ0_coder_7d493_10 (by decide) ?_
    exact s_zret C dJ0_coder_7d493_14 Tr rfl (by decide) ⟨rfl, rfl⟩

set_option maxRecDepth 100000 in
set_option maxHeartbeats 4000000 in
/-- String.isLatin1 -/
theorem c_latin1 {G : mG} {M : mM} {i : Nat} (hi : i < 14) : CC G iJ0_isLatin1_aae02 0 0 [.ref (G.2.2.2.2.1 i)] M (fun r M1 => r = some (.int (nI 1)) ∧ M = M1) := by
  refine CC.of rfl (Nat.le_of_ble_eq_true rfl) rfl (fun X C Tr => ?_)
  show V X 0 0 0 [some (.ref (G.2.2.2.2.1 i))] [] M
  refine s_gets (v := .int (nI 1)) C 3 dJ0_isLatin1_aae02_0 rfl (fun s h => h.2.2.1) cs_link ?_
  refine s_if_eqN C 17 6 dJ0_isLatin1_aae02_3 (by decide) rfl (by omega) (fun z3 => ?_) (fun z3 => ?_)
  · skip
    omega
  · skip
    refine s_aload_n C 7 dJ0_isLatin1_aae02_6 rfl rfl ?_
    refine s_strF (v := .int (nI 0)) C 10 dJ0_isLatin1_aae02_7 rfl (fun s h => (h.2.2.2.2.1.1 i hi).2.1) sc_link ?_
    refine s_if_neN C 17 13 dJ0_isLatin1_aae02_10 (by decide) rfl (by omega) (fun z10 => ?_) (fun z10 => ?_)
    · skip
      omega
    · skip
      refine s_iconst C 14 (nI 1) dJ0_isLatin1_aae02_13 rfl (by decide) ?_
      refine s_goto C 18 dJ0_isLatin1_aae02_14 (by decide) ?_
      exact s_zret C dJ0_isLatin1_aae02_18 Tr rfl (by decide) ⟨rfl, rfl⟩

set_option maxRecDepth 100000 in
set_option maxHeartbeats 4000000 in
/-- String.length -/
theorem c_strLen {G : mG} {M : mM} {i : Nat} (hi : i < 14) : CC G iJ0_length_8abf5 0 0 [.ref (G.2.2.2.2.1 i)] M (fun r M1 => r = some (.int (nI (wdL i))) ∧ M = M1) := by
  refine CC.of rfl (Nat.le_of_ble_eq_true rfl) rfl (fun X C Tr => ?_)
  show V X 0 0 0 [some (.ref (G.2.2.2.2.1 i))] [] M
  refine s_aload_n C 1 dJ0_length_8abf5_0 rfl rfl ?_
  refine s_strF C 4 dJ0_length_8abf5_1 rfl (fun s h => (h.2.2.2.2.1.1 i hi).2.2.1) sv_link ?_
  refine s_strL C 5 i dJ0_length_8abf5_4 rfl hi ?_
  refine s_aload_n C 6 dJ0_length_8abf5_5 rfl rfl ?_
  refine s_invV C 9 0 0 [.int (nI (wdL i))] (mRv_str hi) dJ0_length_8abf5_6 rfl m_J0_335 (c_coder hi) rfl rfl rfl ⟨by decide, by decide⟩ (Nat.le_of_ble_eq_true rfl) (by omega) (by omega) ?_
  rintro _ M1 ⟨rfl, rfl⟩
  dsimp only [Option.toList, List.cons_append, List.nil_append]
  refine s_ishr C 10 dJ0_length_8abf5_9 rfl ?_
  rw [show nI (wdL i) >>> (nI 0 &&& 31) = nI (wdL i) from sb_shr0 _]
  exact s_iret C dJ0_length_8abf5_10 Tr rfl ⟨rfl, rfl⟩

set_option maxRecDepth 100000 in
set_option maxHeartbeats 4000000 in
/-- String.checkIndex -/
theorem c_sChk {G : mG} {M : mM} {i n : Nat} (hi : i < n) (hn : n < 2 ^ 31) : CC G iJ0_checkIndex_df160 0 0 [.int (nI i), .int (nI n)] M (fun r M1 => r = none ∧ M = M1) := by
  refine CC.of rfl (Nat.le_of_ble_eq_true rfl) rfl (fun X C Tr => ?_)
  show V X 0 0 0 [some (.int (nI i)), some (.int (nI n))] [] M
  refine s_iload_n C 1 dJ0_checkIndex_df160_0 rfl rfl ?_
  refine s_iload_n C 2 dJ0_checkIndex_df160_1 rfl rfl ?_
  refine s_getsq C 5 dJ0_checkIndex_df160_2 rfl si_link (fun v hv => ?_)
  rcases hv with rfl | ⟨x, rfl⟩
  · skip
    refine s_invS C 8 0 0 [] dJ0_checkIndex_df160_5 rfl m_J0_1059 (c_chkN hi hn) rfl rfl rfl ⟨by decide, by decide⟩ (Nat.le_of_ble_eq_true rfl) (by omega) (by omega) ?_
    rintro _ M1 ⟨rfl, rfl⟩
    dsimp only [Option.toList, List.cons_append, List.nil_append]
    refine s_pop C 9 dJ0_checkIndex_df160_8 rfl rfl ?_
    exact s_vret C dJ0_checkIndex_df160_9 Tr rfl ⟨rfl, rfl⟩
  · skip
    refine s_invS C 8 0 0 [] dJ0_checkIndex_df160_5 rfl m_J0_1059 (c_chkR hi hn) rfl rfl rfl ⟨by decide, by decide⟩ (Nat.le_of_ble_eq_true rfl) (by omega) (by omega) ?_
    rintro _ M2 ⟨rfl, rfl⟩
    dsimp only [Option.toList, List.cons_append, List.nil_append]
    refine s_pop C 9 dJ0_checkIndex_df160_8 rfl rfl ?_
    exact s_vret C dJ0_checkIndex_df160_9 Tr rfl ⟨rfl, rfl⟩

set_option maxRecDepth 100000 in
set_option maxHeartbeats 4000000 in
/-- StringLatin1.charAt -/
theorem c_lChar {G : mG} {M : mM} {i : Nat} (hi : i < 14) {j : Nat} (hj : j < wdL i) : CC G iJ1_charAt_3b067 0 0 [.ref (G.2.2.2.2.2.1 i), .int (nI j)] M (fun r M1 => r = some (.int (nI (wdC i j))) ∧ M = M1) := by
  refine CC.of rfl (Nat.le_of_ble_eq_true rfl) rfl (fun X C Tr => ?_)
  show V X 0 0 0 [some (.ref (G.2.2.2.2.2.1 i)), some (.int (nI j))] [] M
  have hw := (wd_all i hi).2.2 j hj
  have hw20 := (wd_all i hi).2.1
  refine s_iload_n C 1 dJ1_charAt_3b067_0 rfl rfl ?_
  refine s_aload_n C 2 dJ1_charAt_3b067_1 rfl rfl ?_
  refine s_strL C 3 i dJ1_charAt_3b067_2 rfl hi ?_
  refine s_invS C 6 0 0 [] dJ1_charAt_3b067_3 rfl m_J1_9 (c_sChk hj (by omega)) rfl rfl rfl ⟨by decide, by decide⟩ (Nat.le_of_ble_eq_true rfl) (by omega) (by omega) ?_
  rintro _ M1 ⟨rfl, rfl⟩
  dsimp only [Option.toList, List.cons_append, List.nil_append]
  refine s_aload_n C 7 dJ1_charAt_3b067_6 rfl rfl ?_
  refine s_iload_n C 8 dJ1_charAt_3b067_7 rfl rfl ?_
  refine s_strB C 9 i dJ1_charAt_3b067_8 rfl hi hj ?_
  refine s_sipush C 12 (nI 255) dJ1_charAt_3b067_9 rfl (by decide) ?_
  refine s_iand C 13 dJ1_charAt_3b067_12 rfl ?_
  refine s_i2c (v := nI (wdC i j)) C 14 dJ1_charAt_3b067_13 rfl hw.1 ?_
  exact s_zret C dJ1_charAt_3b067_14 Tr rfl (wd_nar hw.2.1) ⟨rfl, rfl⟩

set_option maxRecDepth 100000 in
set_option maxHeartbeats 4000000 in
/-- String.charAt -/
theorem c_charAt {G : mG} {M : mM} {i : Nat} (hi : i < 14) {j : Nat} (hj : j < wdL i) : CC G iJ0_charAt_5068e 0 0 [.ref (G.2.2.2.2.1 i), .int (nI j)] M (fun r M1 => r = some (.int (nI (wdC i j))) ∧ M = M1) := by
  refine CC.of rfl (Nat.le_of_ble_eq_true rfl) rfl (fun X C Tr => ?_)
  show V X 0 0 0 [some (.ref (G.2.2.2.2.1 i)), some (.int (nI j))] [] M
  have hw := (wd_all i hi).2.2 j hj
  refine s_aload_n C 1 dJ0_charAt_5068e_0 rfl rfl ?_
  refine s_invV C 4 0 0 [] (mRv_str hi) dJ0_charAt_5068e_1 rfl m_J0_492 (c_latin1 hi) rfl rfl rfl ⟨by decide, by decide⟩ (Nat.le_of_ble_eq_true rfl) (by omega) (by omega) ?_
  rintro _ M1 ⟨rfl, rfl⟩
  dsimp only [Option.toList, List.cons_append, List.nil_append]
  refine s_if_eqN C 16 7 dJ0_charAt_5068e_4 (by decide) rfl (by omega) (fun z4 => ?_) (fun z4 => ?_)
  · skip
    omega
  · skip
    refine s_aload_n C 8 dJ0_charAt_5068e_7 rfl rfl ?_
    refine s_strF C 11 dJ0_charAt_5068e_8 rfl (fun s h => (h.2.2.2.2.1.1 i hi).2.2.1) sv_link ?_
    refine s_iload_n C 12 dJ0_charAt_5068e_11 rfl rfl ?_
    refine s_invS C 15 0 0 [] dJ0_charAt_5068e_12 rfl m_J0_495 (c_lChar hi hj) rfl rfl rfl ⟨by decide, by decide⟩ (Nat.le_of_ble_eq_true rfl) (by omega) (by omega) ?_
    rintro _ M2 ⟨rfl, rfl⟩
    dsimp only [Option.toList, List.cons_append, List.nil_append]
    exact s_zret C dJ0_charAt_5068e_15 Tr rfl (wd_nar hw.2.1) ⟨rfl, rfl⟩
